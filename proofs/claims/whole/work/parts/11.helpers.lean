noncomputable def f_J7_fill_53178_5 (fu : Nat) (n_p1 : Nat) (v2 : Int32) : Nat → Int32 → Int32 → (Nat → Int32) → Option ((Nat → Int32))
  | 0 => fun _ _ _ => none
  | n + 1 => fun x2 x3 p1 => (if x3 ≤ x2 then (some (p1)) else (if ¬ (x2 < 0 ∨ n_p1 ≤ x2.toNatClampNeg) then (k_let (x2 + 1) fun x_3 => (f_J7_fill_53178_5 fu n_p1 v2 n x_3 x3 (upd p1 x2.toNatClampNeg v2))) else none))
theorem fs_J7_fill_53178_5 (fu : Nat) (n_p1 : Nat) (v2 : Int32) (n : Nat) (x2 : Int32) (x3 : Int32) (p1 : Nat → Int32) : f_J7_fill_53178_5 fu n_p1 v2 (n + 1) x2 x3 p1 = (if x3 ≤ x2 then (some (p1)) else (if ¬ (x2 < 0 ∨ n_p1 ≤ x2.toNatClampNeg) then (k_let (x2 + 1) fun x_3 => (f_J7_fill_53178_5 fu n_p1 v2 n x_3 x3 (upd p1 x2.toNatClampNeg v2))) else none)) := rfl
noncomputable def f_J7_fill_53178 (fu : Nat) (n_p1 : Nat) (v2 : Int32) (p1 : Nat → Int32) : Option ((Nat → Int32)) := (k_let (nI n_p1) fun x_4 => (f_J7_fill_53178_5 fu n_p1 v2 fu 0 x_4 p1))
abbrev rm_J7_fill_53178 : Room := { frames := 0, cells := 0, slots := 0, locals := 0 }
theorem pd_J7_fill_53178 : k_D1 yJ7_fill_53178 2 := by decide +kernel
set_option maxHeartbeats 4000000 in
set_option maxRecDepth 100000 in
theorem m_J7_fill_53178 (l : Launch) (D : va_G) (cA : Nat → ClassId) (sz : Nat) (a_p1 : Nat) (fu : Nat) (n_p1 : Nat) (p1 : Nat → Int32) (v2 : Int32) (p1' : Nat → Int32) (h : f_J7_fill_53178 fu n_p1 v2 p1 = some (p1')) : k_M l yJ7_fill_53178 prog_29_method_103_code 4 (none : Option Jvm.ClassFile.FieldType) rm_J7_fill_53178 D cA [.ref a_p1, .int v2] [(a_p1, .inl (cA 0, n_p1, .inl p1))] sz (none) [(a_p1, .inl (cA 0, n_p1, .inl (p1')))] := by
  refine k_ofW (by decide) (Nat.le_of_ble_eq_true rfl) ?_
  intro p e s m below meth c A ls hx hb hr hml hts hown hlocks hB hA hW hl
  have hl : lv_has ls 4 [(0, .ref a_p1), (1, .int v2)] := hl
  obtain ⟨H, eH⟩ : ∃ H, H = s.heap := ⟨_, rfl⟩
  obtain ⟨locs, eL⟩ : ∃ L : List Loc, L = [] := ⟨_, rfl⟩
  have hW : k_Wd D A s.heap [(a_p1, .inl (cA 0, n_p1, .inl p1))] H locs := by rw [eH, eL]; exact hW
  suffices K : W p l e rm_J7_fill_53178 s m [.ref a_p1, .int v2].toArray below meth c H locs 0 0 (MQ below (k_Q (none) D [(a_p1, .inl (cA 0, n_p1, .inl (p1')))] A) [.ref a_p1, .int v2].toArray s 0 0 A) (F0 m 0 ls []) by rw [eH, eL] at K; exact K
  clear eH eL
  have J5 : ∀ (n5 : Nat) (x2 : Int32) (x3 : Int32) (p1 : Nat → Int32) (H : Heap) (locs : List Loc) (ls : Array Slot), k_Wd D A s.heap [(a_p1, .inl (cA 0, n_p1, .inl p1))] H locs → lv_has ls 4 [(0, .ref a_p1), (1, .int v2), (2, .int x2), (3, .int x3)] → f_J7_fill_53178_5 fu n_p1 v2 n5 x2 x3 p1 = some (p1') → W p l e rm_J7_fill_53178 s m [.ref a_p1, .int v2].toArray below meth c H locs 0 0 (MQ below (k_Q (none) D [(a_p1, .inl (cA 0, n_p1, .inl (p1')))] A) [.ref a_p1, .int v2].toArray s 0 0 A) (F0 m 5 ls []) := by
    intro n5
    induction n5 with
    | zero => intro x2 x3 p1 H locs ls hW hl h; exact k_no h
    | succ n5 ih5 =>
      intro x2 x3 p1 H locs ls hW hl h
      have h := (fs_J7_fill_53178_5 _ _ _ _ _ _ _).symm.trans h
      refine lv_iload_n hx hb dJ7_fill_53178_5 rfl (lv_at hl 2 rfl) ?_
      refine lv_iload_n hx hb dJ7_fill_53178_6 rfl (lv_at hl 3 rfl) ?_
      refine lv_icmp_ge (tgt := 20) hx hb dJ7_fill_53178_7 (by decide) (fun c_1 => ?_) (fun c_1 => ?_)
      · have h := k_t c_1 h
        have z0 := k_inj1 h
        rw [← z0]
        exact W.vret hx hb hr (fun t ht hWm => ⟨rfl, by rw [ht]; exact hW.1, hW.2.2.F ht⟩) hW.2.2.2.2 dJ7_fill_53178_20
      · have h := k_f c_1 h
        refine lv_aload_n hx hb dJ7_fill_53178_10 rfl (lv_at hl 0 rfl) ?_
        refine lv_iload_n hx hb dJ7_fill_53178_11 rfl (lv_at hl 2 rfl) ?_
        refine lv_iload_n hx hb dJ7_fill_53178_12 rfl (lv_at hl 1 rfl) ?_
        obtain ⟨c_2, h⟩ := k_g h
        refine va_iast hx hb hB.1 hW.1 hW.2.1 hW.2.2 0 0 rfl rfl c_2 dJ7_fill_53178_13 (fun H locs hP hD hS => ?_)
        have hW : k_Wd D A s.heap [(a_p1, .inl (cA 0, n_p1, .inl (upd p1 x2.toNatClampNeg v2)))] H locs := ⟨hP, hD, hS⟩
        obtain ⟨x_3, ex_3⟩ : ∃ y : Int32, y = x2 + 1 := ⟨_, rfl⟩
        have h := k_letE ex_3 h
        refine lv_iinc (v := x_3) (lv' := [(2, .int x_3), (0, .ref a_p1), (1, .int v2), (3, .int x3)]) hx hb dJ7_fill_53178_14 hl (k := 2) rfl (by rw [ex_3]; rfl) (by decide) rfl (fun ls hl => ?_)
        refine lv_goto (tgt := 5) hx hb dJ7_fill_53178_17 (by decide) ?_
        exact ih5 x_3 x3 (upd p1 x2.toNatClampNeg v2) H locs ls hW (lv_sub hl [1, 2, 0, 3] rfl) h
  refine lv_iconst (v := 0) hx hb dJ7_fill_53178_0 (by decide) ?_
  refine lv_istore_n (lv' := [(2, .int 0), (0, .ref a_p1), (1, .int v2)]) hx hb dJ7_fill_53178_1 rfl hl (by decide) rfl (fun ls hl => ?_)
  refine lv_aload_n hx hb dJ7_fill_53178_2 rfl (lv_at hl 1 rfl) ?_
  refine va_alen hx hb hB.1 hW.1 0 0 rfl (v := nI n_p1) rfl rfl dJ7_fill_53178_3 ?_
  refine lv_topi (fun x_4 ex_4 => ?_)
  have h := k_letE ex_4 h
  refine lv_istore_n (lv' := [(3, .int x_4), (2, .int 0), (0, .ref a_p1), (1, .int v2)]) hx hb dJ7_fill_53178_4 rfl hl (by decide) rfl (fun ls hl => ?_)
  exact J5 fu 0 x_4 p1 H locs ls hW (lv_sub hl [2, 3, 1, 0] rfl) h
noncomputable def f_X8_isWithin (v1 : Int32) (v2 : Int32) (v3 : Int32) : Option (Int32) := (if v1 < v2 then (if vp_nar .boolean (0 : Int32) = (0 : Int32) then some (0) else none) else (if v3 < v1 then (if vp_nar .boolean (0 : Int32) = (0 : Int32) then some (0) else none) else (if vp_nar .boolean (1 : Int32) = (1 : Int32) then some (1) else none)))
abbrev rm_X8_isWithin : Room := { frames := 0, cells := 0, slots := 0, locals := 0 }
theorem pd_X8_isWithin : k_D1 yX8_isWithin 3 := by decide +kernel
set_option maxHeartbeats 4000000 in
set_option maxRecDepth 100000 in
theorem m_X8_isWithin (l : Launch) (D : va_G) (cA : Nat → ClassId) (sz : Nat) (v1 : Int32) (v2 : Int32) (v3 : Int32) (ret_ : Int32) (h : f_X8_isWithin v1 v2 v3 = some (ret_)) : k_M l yX8_isWithin prog_1_method_53_code 3 (some .boolean) rm_X8_isWithin D cA [.int v1, .int v2, .int v3] [] sz (some (.int ret_)) [] := by
  refine k_ofW (by decide) (Nat.le_of_ble_eq_true rfl) ?_
  intro p e s m below meth c A ls hx hb hr hml hts hown hlocks hB hA hW hl
  have hl : lv_has ls 3 [(0, .int v1), (1, .int v2), (2, .int v3)] := hl
  obtain ⟨H, eH⟩ : ∃ H, H = s.heap := ⟨_, rfl⟩
  obtain ⟨locs, eL⟩ : ∃ L : List Loc, L = [] := ⟨_, rfl⟩
  have hW : k_Wd D A s.heap [] H locs := by rw [eH, eL]; exact hW
  suffices K : W p l e rm_X8_isWithin s m [.int v1, .int v2, .int v3].toArray below meth c H locs 0 0 (MQ below (k_Q (some (.int ret_)) D [] A) [.int v1, .int v2, .int v3].toArray s 0 0 A) (F0 m 0 ls []) by rw [eH, eL] at K; exact K
  clear eH eL
  refine lv_iload_n hx hb dX8_isWithin_0 rfl (lv_at hl 0 rfl) ?_
  refine lv_iload_n hx hb dX8_isWithin_1 rfl (lv_at hl 1 rfl) ?_
  refine lv_icmp_lt (tgt := 14) hx hb dX8_isWithin_2 (by decide) (fun c_1 => ?_) (fun c_1 => ?_)
  · have h := k_t c_1 h
    refine lv_iconst (v := 0) hx hb dX8_isWithin_14 (by decide) ?_
    obtain ⟨c_2, h⟩ := k_g h
    have z0 := k_inj1 h
    rw [← z0]
    exact W.zret hx hb hr (k_narZ c_2) (fun t ht hWm => ⟨rfl, by rw [ht]; exact hW.1, hW.2.2.F ht⟩) hW.2.2.2.2 dX8_isWithin_15
  · have h := k_f c_1 h
    refine lv_iload_n hx hb dX8_isWithin_5 rfl (lv_at hl 0 rfl) ?_
    refine lv_iload_n hx hb dX8_isWithin_6 rfl (lv_at hl 2 rfl) ?_
    refine lv_icmp_gt (tgt := 14) hx hb dX8_isWithin_7 (by decide) (fun c_3 => ?_) (fun c_3 => ?_)
    · have h := k_t c_3 h
      refine lv_iconst (v := 0) hx hb dX8_isWithin_14 (by decide) ?_
      obtain ⟨c_4, h⟩ := k_g h
      have z0 := k_inj1 h
      rw [← z0]
      exact W.zret hx hb hr (k_narZ c_4) (fun t ht hWm => ⟨rfl, by rw [ht]; exact hW.1, hW.2.2.F ht⟩) hW.2.2.2.2 dX8_isWithin_15
    · have h := k_f c_3 h
      refine lv_iconst (v := 1) hx hb dX8_isWithin_10 (by decide) ?_
      refine lv_goto (tgt := 15) hx hb dX8_isWithin_11 (by decide) ?_
      obtain ⟨c_5, h⟩ := k_g h
      have z0 := k_inj1 h
      rw [← z0]
      exact W.zret hx hb hr (k_narZ c_5) (fun t ht hWm => ⟨rfl, by rw [ht]; exact hW.1, hW.2.2.F ht⟩) hW.2.2.2.2 dX8_isWithin_15
noncomputable def f_X8_isKey (v1 : Int32) : Option (Int32) := (k_b1 (f_X8_isWithin v1 0 9) fun r_2 => (if vp_nar .boolean r_2 = r_2 then some (r_2) else none))
abbrev rm_X8_isKey : Room := { frames := 1, cells := 0, slots := 0, locals := 22 }
theorem pd_X8_isKey : k_D1 yX8_isKey 1 := by decide +kernel
set_option maxHeartbeats 4000000 in
set_option maxRecDepth 100000 in
theorem m_X8_isKey (l : Launch) (D : va_G) (cA : Nat → ClassId) (sz : Nat) (v1 : Int32) (ret_ : Int32) (h : f_X8_isKey v1 = some (ret_)) : k_M l yX8_isKey prog_1_method_51_code 1 (some .boolean) rm_X8_isKey D cA [.int v1] [] sz (some (.int ret_)) [] := by
  refine k_ofW (by decide) (Nat.le_of_ble_eq_true rfl) ?_
  intro p e s m below meth c A ls hx hb hr hml hts hown hlocks hB hA hW hl
  have hl : lv_has ls 1 [(0, .int v1)] := hl
  obtain ⟨H, eH⟩ : ∃ H, H = s.heap := ⟨_, rfl⟩
  obtain ⟨locs, eL⟩ : ∃ L : List Loc, L = [] := ⟨_, rfl⟩
  have hW : k_Wd D A s.heap [] H locs := by rw [eH, eL]; exact hW
  suffices K : W p l e rm_X8_isKey s m [.int v1].toArray below meth c H locs 0 0 (MQ below (k_Q (some (.int ret_)) D [] A) [.int v1].toArray s 0 0 A) (F0 m 0 ls []) by rw [eH, eL] at K; exact K
  clear eH eL
  refine lv_iload_n hx hb dX8_isKey_0 rfl (lv_at hl 0 rfl) ?_
  refine lv_iconst (v := 0) hx hb dX8_isKey_1 (by decide) ?_
  refine lv_bipush (v := 9) hx hb dX8_isKey_2 (by decide) ?_
  obtain ⟨r_2, h_1, h⟩ := k_bE1 h
  refine k_callS (ws' := []) (As := [.int v1, .int 0, .int 9]) (rest := []) (m_X8_isWithin l D cA H.size v1 0 9 r_2 h_1) hx hb hml hown hts hB hA hW hl.1 q2_186 q1_1 q2_185 q2_184 pd_X8_isWithin ⟨rfl, rfl, Nat.le_of_ble_eq_true rfl, Nat.le_of_ble_eq_true rfl⟩ rfl [] [] trivial rfl ⟨trivial, trivial, rfl⟩ rfl rfl (Nat.le_of_ble_eq_true rfl) ⟨Nat.zero_le _, Nat.zero_le _⟩ dX8_isKey_4 (st1 := [.int r_2]) rfl (fun H locs hW => ?_)
  obtain ⟨c_4, h⟩ := k_g h
  have z0 := k_inj1 h
  rw [← z0]
  exact W.zret hx hb hr (k_narZ c_4) (fun t ht hWm => ⟨rfl, by rw [ht]; exact hW.1, hW.2.2.F ht⟩) hW.2.2.2.2 dX8_isKey_7
noncomputable def f_X8_isGroup (v1 : Int32) : Option (Int32) := (k_b1 (f_X8_isWithin v1 0 5) fun r_2 => (if vp_nar .boolean r_2 = r_2 then some (r_2) else none))
abbrev rm_X8_isGroup : Room := { frames := 1, cells := 0, slots := 0, locals := 22 }
theorem pd_X8_isGroup : k_D1 yX8_isGroup 1 := by decide +kernel
set_option maxHeartbeats 4000000 in
set_option maxRecDepth 100000 in
theorem m_X8_isGroup (l : Launch) (D : va_G) (cA : Nat → ClassId) (sz : Nat) (v1 : Int32) (ret_ : Int32) (h : f_X8_isGroup v1 = some (ret_)) : k_M l yX8_isGroup prog_1_method_52_code 1 (some .boolean) rm_X8_isGroup D cA [.int v1] [] sz (some (.int ret_)) [] := by
  refine k_ofW (by decide) (Nat.le_of_ble_eq_true rfl) ?_
  intro p e s m below meth c A ls hx hb hr hml hts hown hlocks hB hA hW hl
  have hl : lv_has ls 1 [(0, .int v1)] := hl
  obtain ⟨H, eH⟩ : ∃ H, H = s.heap := ⟨_, rfl⟩
  obtain ⟨locs, eL⟩ : ∃ L : List Loc, L = [] := ⟨_, rfl⟩
  have hW : k_Wd D A s.heap [] H locs := by rw [eH, eL]; exact hW
  suffices K : W p l e rm_X8_isGroup s m [.int v1].toArray below meth c H locs 0 0 (MQ below (k_Q (some (.int ret_)) D [] A) [.int v1].toArray s 0 0 A) (F0 m 0 ls []) by rw [eH, eL] at K; exact K
  clear eH eL
  refine lv_iload_n hx hb dX8_isGroup_0 rfl (lv_at hl 0 rfl) ?_
  refine lv_iconst (v := 0) hx hb dX8_isGroup_1 (by decide) ?_
  refine lv_iconst (v := 5) hx hb dX8_isGroup_2 (by decide) ?_
  obtain ⟨r_2, h_1, h⟩ := k_bE1 h
  refine k_callS (ws' := []) (As := [.int v1, .int 0, .int 5]) (rest := []) (m_X8_isWithin l D cA H.size v1 0 5 r_2 h_1) hx hb hml hown hts hB hA hW hl.1 q2_186 q1_1 q2_185 q2_184 pd_X8_isWithin ⟨rfl, rfl, Nat.le_of_ble_eq_true rfl, Nat.le_of_ble_eq_true rfl⟩ rfl [] [] trivial rfl ⟨trivial, trivial, rfl⟩ rfl rfl (Nat.le_of_ble_eq_true rfl) ⟨Nat.zero_le _, Nat.zero_le _⟩ dX8_isGroup_3 (st1 := [.int r_2]) rfl (fun H locs hW => ?_)
  obtain ⟨c_4, h⟩ := k_g h
  have z0 := k_inj1 h
  rw [← z0]
  exact W.zret hx hb hr (k_narZ c_4) (fun t ht hWm => ⟨rfl, by rw [ht]; exact hW.1, hW.2.2.F ht⟩) hW.2.2.2.2 dX8_isGroup_6
noncomputable def f_X8_leftCode (v1 : Int32) (v2 : Int32) (v3 : Int32) : Option (Int32) := (some ((((((v1 * 6) + v2) * 199) + v3) + 99)))
abbrev rm_X8_leftCode : Room := { frames := 0, cells := 0, slots := 0, locals := 0 }
theorem pd_X8_leftCode : k_D1 yX8_leftCode 3 := by decide +kernel
set_option maxHeartbeats 4000000 in
set_option maxRecDepth 100000 in
theorem m_X8_leftCode (l : Launch) (D : va_G) (cA : Nat → ClassId) (sz : Nat) (v1 : Int32) (v2 : Int32) (v3 : Int32) (ret_ : Int32) (h : f_X8_leftCode v1 v2 v3 = some (ret_)) : k_M l yX8_leftCode prog_1_method_54_code 3 (some .int) rm_X8_leftCode D cA [.int v1, .int v2, .int v3] [] sz (some (.int ret_)) [] := by
  refine k_ofW (by decide) (Nat.le_of_ble_eq_true rfl) ?_
  intro p e s m below meth c A ls hx hb hr hml hts hown hlocks hB hA hW hl
  have hl : lv_has ls 3 [(0, .int v1), (1, .int v2), (2, .int v3)] := hl
  obtain ⟨H, eH⟩ : ∃ H, H = s.heap := ⟨_, rfl⟩
  obtain ⟨locs, eL⟩ : ∃ L : List Loc, L = [] := ⟨_, rfl⟩
  have hW : k_Wd D A s.heap [] H locs := by rw [eH, eL]; exact hW
  suffices K : W p l e rm_X8_leftCode s m [.int v1, .int v2, .int v3].toArray below meth c H locs 0 0 (MQ below (k_Q (some (.int ret_)) D [] A) [.int v1, .int v2, .int v3].toArray s 0 0 A) (F0 m 0 ls []) by rw [eH, eL] at K; exact K
  clear eH eL
  refine lv_iload_n hx hb dX8_leftCode_0 rfl (lv_at hl 0 rfl) ?_
  refine lv_bipush (v := 6) hx hb dX8_leftCode_1 (by decide) ?_
  refine lv_imul hx hb dX8_leftCode_3 ?_
  refine lv_iload_n hx hb dX8_leftCode_4 rfl (lv_at hl 1 rfl) ?_
  refine lv_iadd hx hb dX8_leftCode_5 ?_
  refine lv_sipush (v := 199) hx hb dX8_leftCode_6 (by decide) ?_
  refine lv_imul hx hb dX8_leftCode_9 ?_
  refine lv_iload_n hx hb dX8_leftCode_10 rfl (lv_at hl 2 rfl) ?_
  refine lv_iadd hx hb dX8_leftCode_11 ?_
  refine lv_bipush (v := 99) hx hb dX8_leftCode_12 (by decide) ?_
  refine lv_iadd hx hb dX8_leftCode_14 ?_
  have z0 := k_inj1 h
  rw [← z0]
  exact W.iret hx hb hr (fun t ht hWm => ⟨rfl, by rw [ht]; exact hW.1, hW.2.2.F ht⟩) hW.2.2.2.2 dX8_leftCode_15
noncomputable def f_X8_leftKey (v1 : Int32) : Option (Int32) := (some (((v1 / 199) / 6)))
abbrev rm_X8_leftKey : Room := { frames := 0, cells := 0, slots := 0, locals := 0 }
theorem pd_X8_leftKey : k_D1 yX8_leftKey 1 := by decide +kernel
set_option maxHeartbeats 4000000 in
set_option maxRecDepth 100000 in
theorem m_X8_leftKey (l : Launch) (D : va_G) (cA : Nat → ClassId) (sz : Nat) (v1 : Int32) (ret_ : Int32) (h : f_X8_leftKey v1 = some (ret_)) : k_M l yX8_leftKey prog_1_method_55_code 1 (some .int) rm_X8_leftKey D cA [.int v1] [] sz (some (.int ret_)) [] := by
  refine k_ofW (by decide) (Nat.le_of_ble_eq_true rfl) ?_
  intro p e s m below meth c A ls hx hb hr hml hts hown hlocks hB hA hW hl
  have hl : lv_has ls 1 [(0, .int v1)] := hl
  obtain ⟨H, eH⟩ : ∃ H, H = s.heap := ⟨_, rfl⟩
  obtain ⟨locs, eL⟩ : ∃ L : List Loc, L = [] := ⟨_, rfl⟩
  have hW : k_Wd D A s.heap [] H locs := by rw [eH, eL]; exact hW
  suffices K : W p l e rm_X8_leftKey s m [.int v1].toArray below meth c H locs 0 0 (MQ below (k_Q (some (.int ret_)) D [] A) [.int v1].toArray s 0 0 A) (F0 m 0 ls []) by rw [eH, eL] at K; exact K
  clear eH eL
  refine lv_iload_n hx hb dX8_leftKey_0 rfl (lv_at hl 0 rfl) ?_
  refine lv_sipush (v := 199) hx hb dX8_leftKey_1 (by decide) ?_
  refine lv_idiv hx hb dX8_leftKey_4 (by decide) ?_
  refine lv_bipush (v := 6) hx hb dX8_leftKey_5 (by decide) ?_
  refine lv_idiv hx hb dX8_leftKey_7 (by decide) ?_
  have z0 := k_inj1 h
  rw [← z0]
  exact W.iret hx hb hr (fun t ht hWm => ⟨rfl, by rw [ht]; exact hW.1, hW.2.2.F ht⟩) hW.2.2.2.2 dX8_leftKey_8
noncomputable def f_X8_leftGroup (v1 : Int32) : Option (Int32) := (k_let ((v1 / 199) - (v1 / 199) / 6 * 6) fun x_1 => some (x_1))
abbrev rm_X8_leftGroup : Room := { frames := 0, cells := 0, slots := 0, locals := 0 }
theorem pd_X8_leftGroup : k_D1 yX8_leftGroup 1 := by decide +kernel
set_option maxHeartbeats 4000000 in
set_option maxRecDepth 100000 in
theorem m_X8_leftGroup (l : Launch) (D : va_G) (cA : Nat → ClassId) (sz : Nat) (v1 : Int32) (ret_ : Int32) (h : f_X8_leftGroup v1 = some (ret_)) : k_M l yX8_leftGroup prog_1_method_56_code 1 (some .int) rm_X8_leftGroup D cA [.int v1] [] sz (some (.int ret_)) [] := by
  refine k_ofW (by decide) (Nat.le_of_ble_eq_true rfl) ?_
  intro p e s m below meth c A ls hx hb hr hml hts hown hlocks hB hA hW hl
  have hl : lv_has ls 1 [(0, .int v1)] := hl
  obtain ⟨H, eH⟩ : ∃ H, H = s.heap := ⟨_, rfl⟩
  obtain ⟨locs, eL⟩ : ∃ L : List Loc, L = [] := ⟨_, rfl⟩
  have hW : k_Wd D A s.heap [] H locs := by rw [eH, eL]; exact hW
  suffices K : W p l e rm_X8_leftGroup s m [.int v1].toArray below meth c H locs 0 0 (MQ below (k_Q (some (.int ret_)) D [] A) [.int v1].toArray s 0 0 A) (F0 m 0 ls []) by rw [eH, eL] at K; exact K
  clear eH eL
  refine lv_iload_n hx hb dX8_leftGroup_0 rfl (lv_at hl 0 rfl) ?_
  refine lv_sipush (v := 199) hx hb dX8_leftGroup_1 (by decide) ?_
  refine lv_idiv hx hb dX8_leftGroup_4 (by decide) ?_
  refine lv_bipush (v := 6) hx hb dX8_leftGroup_5 (by decide) ?_
  refine lv_irem hx hb dX8_leftGroup_7 (by decide) ?_
  refine lv_topi (fun x_1 ex_1 => ?_)
  have h := k_letE ex_1 h
  have z0 := k_inj1 h
  rw [← z0]
  exact W.iret hx hb hr (fun t ht hWm => ⟨rfl, by rw [ht]; exact hW.1, hW.2.2.F ht⟩) hW.2.2.2.2 dX8_leftGroup_8
noncomputable def f_X8_leftValue (v1 : Int32) : Option (Int32) := (k_let (v1 - v1 / 199 * 199) fun x_1 => some ((x_1 - 99)))
abbrev rm_X8_leftValue : Room := { frames := 0, cells := 0, slots := 0, locals := 0 }
theorem pd_X8_leftValue : k_D1 yX8_leftValue 1 := by decide +kernel
set_option maxHeartbeats 4000000 in
set_option maxRecDepth 100000 in
theorem m_X8_leftValue (l : Launch) (D : va_G) (cA : Nat → ClassId) (sz : Nat) (v1 : Int32) (ret_ : Int32) (h : f_X8_leftValue v1 = some (ret_)) : k_M l yX8_leftValue prog_1_method_57_code 1 (some .int) rm_X8_leftValue D cA [.int v1] [] sz (some (.int ret_)) [] := by
  refine k_ofW (by decide) (Nat.le_of_ble_eq_true rfl) ?_
  intro p e s m below meth c A ls hx hb hr hml hts hown hlocks hB hA hW hl
  have hl : lv_has ls 1 [(0, .int v1)] := hl
  obtain ⟨H, eH⟩ : ∃ H, H = s.heap := ⟨_, rfl⟩
  obtain ⟨locs, eL⟩ : ∃ L : List Loc, L = [] := ⟨_, rfl⟩
  have hW : k_Wd D A s.heap [] H locs := by rw [eH, eL]; exact hW
  suffices K : W p l e rm_X8_leftValue s m [.int v1].toArray below meth c H locs 0 0 (MQ below (k_Q (some (.int ret_)) D [] A) [.int v1].toArray s 0 0 A) (F0 m 0 ls []) by rw [eH, eL] at K; exact K
  clear eH eL
  refine lv_iload_n hx hb dX8_leftValue_0 rfl (lv_at hl 0 rfl) ?_
  refine lv_sipush (v := 199) hx hb dX8_leftValue_1 (by decide) ?_
  refine lv_irem hx hb dX8_leftValue_4 (by decide) ?_
  refine lv_topi (fun x_1 ex_1 => ?_)
  have h := k_letE ex_1 h
  refine lv_bipush (v := 99) hx hb dX8_leftValue_5 (by decide) ?_
  refine lv_isub hx hb dX8_leftValue_7 ?_
  have z0 := k_inj1 h
  rw [← z0]
  exact W.iret hx hb hr (fun t ht hWm => ⟨rfl, by rw [ht]; exact hW.1, hW.2.2.F ht⟩) hW.2.2.2.2 dX8_leftValue_8
noncomputable def f_X8_rightCode (v1 : Int32) (v2 : Int32) : Option (Int32) := (some ((((v1 * 19) + v2) + 9)))
abbrev rm_X8_rightCode : Room := { frames := 0, cells := 0, slots := 0, locals := 0 }
theorem pd_X8_rightCode : k_D1 yX8_rightCode 2 := by decide +kernel
set_option maxHeartbeats 4000000 in
set_option maxRecDepth 100000 in
theorem m_X8_rightCode (l : Launch) (D : va_G) (cA : Nat → ClassId) (sz : Nat) (v1 : Int32) (v2 : Int32) (ret_ : Int32) (h : f_X8_rightCode v1 v2 = some (ret_)) : k_M l yX8_rightCode prog_1_method_58_code 2 (some .int) rm_X8_rightCode D cA [.int v1, .int v2] [] sz (some (.int ret_)) [] := by
  refine k_ofW (by decide) (Nat.le_of_ble_eq_true rfl) ?_
  intro p e s m below meth c A ls hx hb hr hml hts hown hlocks hB hA hW hl
  have hl : lv_has ls 2 [(0, .int v1), (1, .int v2)] := hl
  obtain ⟨H, eH⟩ : ∃ H, H = s.heap := ⟨_, rfl⟩
  obtain ⟨locs, eL⟩ : ∃ L : List Loc, L = [] := ⟨_, rfl⟩
  have hW : k_Wd D A s.heap [] H locs := by rw [eH, eL]; exact hW
  suffices K : W p l e rm_X8_rightCode s m [.int v1, .int v2].toArray below meth c H locs 0 0 (MQ below (k_Q (some (.int ret_)) D [] A) [.int v1, .int v2].toArray s 0 0 A) (F0 m 0 ls []) by rw [eH, eL] at K; exact K
  clear eH eL
  refine lv_iload_n hx hb dX8_rightCode_0 rfl (lv_at hl 0 rfl) ?_
  refine lv_bipush (v := 19) hx hb dX8_rightCode_1 (by decide) ?_
  refine lv_imul hx hb dX8_rightCode_3 ?_
  refine lv_iload_n hx hb dX8_rightCode_4 rfl (lv_at hl 1 rfl) ?_
  refine lv_iadd hx hb dX8_rightCode_5 ?_
  refine lv_bipush (v := 9) hx hb dX8_rightCode_6 (by decide) ?_
  refine lv_iadd hx hb dX8_rightCode_8 ?_
  have z0 := k_inj1 h
  rw [← z0]
  exact W.iret hx hb hr (fun t ht hWm => ⟨rfl, by rw [ht]; exact hW.1, hW.2.2.F ht⟩) hW.2.2.2.2 dX8_rightCode_9
noncomputable def f_X8_rightFactor (v1 : Int32) : Option (Int32) := (k_let (v1 - v1 / 19 * 19) fun x_1 => some ((x_1 - 9)))
abbrev rm_X8_rightFactor : Room := { frames := 0, cells := 0, slots := 0, locals := 0 }
theorem pd_X8_rightFactor : k_D1 yX8_rightFactor 1 := by decide +kernel
set_option maxHeartbeats 4000000 in
set_option maxRecDepth 100000 in
theorem m_X8_rightFactor (l : Launch) (D : va_G) (cA : Nat → ClassId) (sz : Nat) (v1 : Int32) (ret_ : Int32) (h : f_X8_rightFactor v1 = some (ret_)) : k_M l yX8_rightFactor prog_1_method_59_code 1 (some .int) rm_X8_rightFactor D cA [.int v1] [] sz (some (.int ret_)) [] := by
  refine k_ofW (by decide) (Nat.le_of_ble_eq_true rfl) ?_
  intro p e s m below meth c A ls hx hb hr hml hts hown hlocks hB hA hW hl
  have hl : lv_has ls 1 [(0, .int v1)] := hl
  obtain ⟨H, eH⟩ : ∃ H, H = s.heap := ⟨_, rfl⟩
  obtain ⟨locs, eL⟩ : ∃ L : List Loc, L = [] := ⟨_, rfl⟩
  have hW : k_Wd D A s.heap [] H locs := by rw [eH, eL]; exact hW
  suffices K : W p l e rm_X8_rightFactor s m [.int v1].toArray below meth c H locs 0 0 (MQ below (k_Q (some (.int ret_)) D [] A) [.int v1].toArray s 0 0 A) (F0 m 0 ls []) by rw [eH, eL] at K; exact K
  clear eH eL
  refine lv_iload_n hx hb dX8_rightFactor_0 rfl (lv_at hl 0 rfl) ?_
  refine lv_bipush (v := 19) hx hb dX8_rightFactor_1 (by decide) ?_
  refine lv_irem hx hb dX8_rightFactor_3 (by decide) ?_
  refine lv_topi (fun x_1 ex_1 => ?_)
  have h := k_letE ex_1 h
  refine lv_bipush (v := 9) hx hb dX8_rightFactor_4 (by decide) ?_
  refine lv_isub hx hb dX8_rightFactor_6 ?_
  have z0 := k_inj1 h
  rw [← z0]
  exact W.iret hx hb hr (fun t ht hWm => ⟨rfl, by rw [ht]; exact hW.1, hW.2.2.F ht⟩) hW.2.2.2.2 dX8_rightFactor_7
noncomputable def f_X8_joinCode (v1 : Int32) (v2 : Int32) (v3 : Int32) : Option (Int32) := (some ((((((v1 * 6) + v2) * 1783) + v3) + 891)))
abbrev rm_X8_joinCode : Room := { frames := 0, cells := 0, slots := 0, locals := 0 }
theorem pd_X8_joinCode : k_D1 yX8_joinCode 3 := by decide +kernel
set_option maxHeartbeats 4000000 in
set_option maxRecDepth 100000 in
theorem m_X8_joinCode (l : Launch) (D : va_G) (cA : Nat → ClassId) (sz : Nat) (v1 : Int32) (v2 : Int32) (v3 : Int32) (ret_ : Int32) (h : f_X8_joinCode v1 v2 v3 = some (ret_)) : k_M l yX8_joinCode prog_1_method_60_code 3 (some .int) rm_X8_joinCode D cA [.int v1, .int v2, .int v3] [] sz (some (.int ret_)) [] := by
  refine k_ofW (by decide) (Nat.le_of_ble_eq_true rfl) ?_
  intro p e s m below meth c A ls hx hb hr hml hts hown hlocks hB hA hW hl
  have hl : lv_has ls 3 [(0, .int v1), (1, .int v2), (2, .int v3)] := hl
  obtain ⟨H, eH⟩ : ∃ H, H = s.heap := ⟨_, rfl⟩
  obtain ⟨locs, eL⟩ : ∃ L : List Loc, L = [] := ⟨_, rfl⟩
  have hW : k_Wd D A s.heap [] H locs := by rw [eH, eL]; exact hW
  suffices K : W p l e rm_X8_joinCode s m [.int v1, .int v2, .int v3].toArray below meth c H locs 0 0 (MQ below (k_Q (some (.int ret_)) D [] A) [.int v1, .int v2, .int v3].toArray s 0 0 A) (F0 m 0 ls []) by rw [eH, eL] at K; exact K
  clear eH eL
  refine lv_iload_n hx hb dX8_joinCode_0 rfl (lv_at hl 0 rfl) ?_
  refine lv_bipush (v := 6) hx hb dX8_joinCode_1 (by decide) ?_
  refine lv_imul hx hb dX8_joinCode_3 ?_
  refine lv_iload_n hx hb dX8_joinCode_4 rfl (lv_at hl 1 rfl) ?_
  refine lv_iadd hx hb dX8_joinCode_5 ?_
  refine lv_sipush (v := 1783) hx hb dX8_joinCode_6 (by decide) ?_
  refine lv_imul hx hb dX8_joinCode_9 ?_
  refine lv_iload_n hx hb dX8_joinCode_10 rfl (lv_at hl 2 rfl) ?_
  refine lv_iadd hx hb dX8_joinCode_11 ?_
  refine lv_sipush (v := 891) hx hb dX8_joinCode_12 (by decide) ?_
  refine lv_iadd hx hb dX8_joinCode_15 ?_
  have z0 := k_inj1 h
  rw [← z0]
  exact W.iret hx hb hr (fun t ht hWm => ⟨rfl, by rw [ht]; exact hW.1, hW.2.2.F ht⟩) hW.2.2.2.2 dX8_joinCode_16
noncomputable def f_X8_joinKey (v1 : Int32) : Option (Int32) := (some (((v1 / 1783) / 6)))
abbrev rm_X8_joinKey : Room := { frames := 0, cells := 0, slots := 0, locals := 0 }
theorem pd_X8_joinKey : k_D1 yX8_joinKey 1 := by decide +kernel
set_option maxHeartbeats 4000000 in
set_option maxRecDepth 100000 in
theorem m_X8_joinKey (l : Launch) (D : va_G) (cA : Nat → ClassId) (sz : Nat) (v1 : Int32) (ret_ : Int32) (h : f_X8_joinKey v1 = some (ret_)) : k_M l yX8_joinKey prog_1_method_61_code 1 (some .int) rm_X8_joinKey D cA [.int v1] [] sz (some (.int ret_)) [] := by
  refine k_ofW (by decide) (Nat.le_of_ble_eq_true rfl) ?_
  intro p e s m below meth c A ls hx hb hr hml hts hown hlocks hB hA hW hl
  have hl : lv_has ls 1 [(0, .int v1)] := hl
  obtain ⟨H, eH⟩ : ∃ H, H = s.heap := ⟨_, rfl⟩
  obtain ⟨locs, eL⟩ : ∃ L : List Loc, L = [] := ⟨_, rfl⟩
  have hW : k_Wd D A s.heap [] H locs := by rw [eH, eL]; exact hW
  suffices K : W p l e rm_X8_joinKey s m [.int v1].toArray below meth c H locs 0 0 (MQ below (k_Q (some (.int ret_)) D [] A) [.int v1].toArray s 0 0 A) (F0 m 0 ls []) by rw [eH, eL] at K; exact K
  clear eH eL
  refine lv_iload_n hx hb dX8_joinKey_0 rfl (lv_at hl 0 rfl) ?_
  refine lv_sipush (v := 1783) hx hb dX8_joinKey_1 (by decide) ?_
  refine lv_idiv hx hb dX8_joinKey_4 (by decide) ?_
  refine lv_bipush (v := 6) hx hb dX8_joinKey_5 (by decide) ?_
  refine lv_idiv hx hb dX8_joinKey_7 (by decide) ?_
  have z0 := k_inj1 h
  rw [← z0]
  exact W.iret hx hb hr (fun t ht hWm => ⟨rfl, by rw [ht]; exact hW.1, hW.2.2.F ht⟩) hW.2.2.2.2 dX8_joinKey_8
noncomputable def f_X8_joinGroup (v1 : Int32) : Option (Int32) := (k_let ((v1 / 1783) - (v1 / 1783) / 6 * 6) fun x_1 => some (x_1))
abbrev rm_X8_joinGroup : Room := { frames := 0, cells := 0, slots := 0, locals := 0 }
theorem pd_X8_joinGroup : k_D1 yX8_joinGroup 1 := by decide +kernel
set_option maxHeartbeats 4000000 in
set_option maxRecDepth 100000 in
theorem m_X8_joinGroup (l : Launch) (D : va_G) (cA : Nat → ClassId) (sz : Nat) (v1 : Int32) (ret_ : Int32) (h : f_X8_joinGroup v1 = some (ret_)) : k_M l yX8_joinGroup prog_1_method_62_code 1 (some .int) rm_X8_joinGroup D cA [.int v1] [] sz (some (.int ret_)) [] := by
  refine k_ofW (by decide) (Nat.le_of_ble_eq_true rfl) ?_
  intro p e s m below meth c A ls hx hb hr hml hts hown hlocks hB hA hW hl
  have hl : lv_has ls 1 [(0, .int v1)] := hl
  obtain ⟨H, eH⟩ : ∃ H, H = s.heap := ⟨_, rfl⟩
  obtain ⟨locs, eL⟩ : ∃ L : List Loc, L = [] := ⟨_, rfl⟩
  have hW : k_Wd D A s.heap [] H locs := by rw [eH, eL]; exact hW
  suffices K : W p l e rm_X8_joinGroup s m [.int v1].toArray below meth c H locs 0 0 (MQ below (k_Q (some (.int ret_)) D [] A) [.int v1].toArray s 0 0 A) (F0 m 0 ls []) by rw [eH, eL] at K; exact K
  clear eH eL
  refine lv_iload_n hx hb dX8_joinGroup_0 rfl (lv_at hl 0 rfl) ?_
  refine lv_sipush (v := 1783) hx hb dX8_joinGroup_1 (by decide) ?_
  refine lv_idiv hx hb dX8_joinGroup_4 (by decide) ?_
  refine lv_bipush (v := 6) hx hb dX8_joinGroup_5 (by decide) ?_
  refine lv_irem hx hb dX8_joinGroup_7 (by decide) ?_
  refine lv_topi (fun x_1 ex_1 => ?_)
  have h := k_letE ex_1 h
  have z0 := k_inj1 h
  rw [← z0]
  exact W.iret hx hb hr (fun t ht hWm => ⟨rfl, by rw [ht]; exact hW.1, hW.2.2.F ht⟩) hW.2.2.2.2 dX8_joinGroup_8
noncomputable def f_X8_joinProduct (v1 : Int32) : Option (Int32) := (k_let (v1 - v1 / 1783 * 1783) fun x_1 => some ((x_1 - 891)))
abbrev rm_X8_joinProduct : Room := { frames := 0, cells := 0, slots := 0, locals := 0 }
theorem pd_X8_joinProduct : k_D1 yX8_joinProduct 1 := by decide +kernel
set_option maxHeartbeats 4000000 in
set_option maxRecDepth 100000 in
theorem m_X8_joinProduct (l : Launch) (D : va_G) (cA : Nat → ClassId) (sz : Nat) (v1 : Int32) (ret_ : Int32) (h : f_X8_joinProduct v1 = some (ret_)) : k_M l yX8_joinProduct prog_1_method_63_code 1 (some .int) rm_X8_joinProduct D cA [.int v1] [] sz (some (.int ret_)) [] := by
  refine k_ofW (by decide) (Nat.le_of_ble_eq_true rfl) ?_
  intro p e s m below meth c A ls hx hb hr hml hts hown hlocks hB hA hW hl
  have hl : lv_has ls 1 [(0, .int v1)] := hl
  obtain ⟨H, eH⟩ : ∃ H, H = s.heap := ⟨_, rfl⟩
  obtain ⟨locs, eL⟩ : ∃ L : List Loc, L = [] := ⟨_, rfl⟩
  have hW : k_Wd D A s.heap [] H locs := by rw [eH, eL]; exact hW
  suffices K : W p l e rm_X8_joinProduct s m [.int v1].toArray below meth c H locs 0 0 (MQ below (k_Q (some (.int ret_)) D [] A) [.int v1].toArray s 0 0 A) (F0 m 0 ls []) by rw [eH, eL] at K; exact K
  clear eH eL
  refine lv_iload_n hx hb dX8_joinProduct_0 rfl (lv_at hl 0 rfl) ?_
  refine lv_sipush (v := 1783) hx hb dX8_joinProduct_1 (by decide) ?_
  refine lv_irem hx hb dX8_joinProduct_4 (by decide) ?_
  refine lv_topi (fun x_1 ex_1 => ?_)
  have h := k_letE ex_1 h
  refine lv_sipush (v := 891) hx hb dX8_joinProduct_5 (by decide) ?_
  refine lv_isub hx hb dX8_joinProduct_8 ?_
  have z0 := k_inj1 h
  rw [← z0]
  exact W.iret hx hb hr (fun t ht hWm => ⟨rfl, by rw [ht]; exact hW.1, hW.2.2.F ht⟩) hW.2.2.2.2 dX8_joinProduct_9
