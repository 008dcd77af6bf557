noncomputable def f_X0_size (size : Int32) : Option (Int32) := (some (size))
abbrev rm_X0_size : Room := { frames := 0, cells := 0, slots := 0, locals := 0 }
theorem pd_X0_size : k_D1 yX0_size 0 := by decide +kernel
set_option maxHeartbeats 4000000 in
set_option maxRecDepth 100000 in
theorem m_X0_size (l : Launch) (D : va_G) (cA : Nat → ClassId) (sz : Nat) (a_this : Nat) (w_codes : Nat) (w_counts : Nat) (size : Int32) (total : Int32) (ret_ : Int32) (h : f_X0_size size = some (ret_)) : k_M l yX0_size prog_2_method_2_code 1 (some .int) rm_X0_size D cA [.ref a_this] [(a_this, .inr (0, [.ref w_codes, .ref w_counts, .int size, .int total]))] sz (some (.int ret_)) [(a_this, .inr (0, [.ref w_codes, .ref w_counts, .int size, .int total]))] := by
  refine k_ofW (by decide) (Nat.le_of_ble_eq_true rfl) ?_
  intro p e s m below meth c A ls hx hb hr hml hts hown hlocks hB hA hW hl
  have hl : lv_has ls 1 [(0, .ref a_this)] := hl
  obtain ⟨H, eH⟩ : ∃ H, H = s.heap := ⟨_, rfl⟩
  obtain ⟨locs, eL⟩ : ∃ L : List Loc, L = [] := ⟨_, rfl⟩
  have hW : k_Wd D A s.heap [(a_this, .inr (0, [.ref w_codes, .ref w_counts, .int size, .int total]))] H locs := by rw [eH, eL]; exact hW
  suffices K : W p l e rm_X0_size s m [.ref a_this].toArray below meth c H locs 0 0 (MQ below (k_Q (some (.int ret_)) D [(a_this, .inr (0, [.ref w_codes, .ref w_counts, .int size, .int total]))] A) [.ref a_this].toArray s 0 0 A) (F0 m 0 ls []) by rw [eH, eL] at K; exact K
  clear eH eL
  refine lv_aload_n hx hb dX0_size_0 rfl (lv_at hl 0 rfl) ?_
  refine va_get (D := D) (ci := 0) (v := .int size) (C := RX0) (T := TX0) (N := 4) hx hb hts iX0 hown hB.1 hW.1 0 rfl rfl 2 (by decide) (hts _ q1_48) (fun _ h9 => h9) rfl dX0_size_1 ?_
  have z0 := k_inj1 h
  rw [← z0]
  exact W.iret hx hb hr (fun t ht hWm => ⟨rfl, by rw [ht]; exact hW.1, hW.2.2.F ht⟩) hW.2.2.2.2 dX0_size_4
noncomputable def f_X0_total (total : Int32) : Option (Int32) := (some (total))
abbrev rm_X0_total : Room := { frames := 0, cells := 0, slots := 0, locals := 0 }
theorem pd_X0_total : k_D1 yX0_total 0 := by decide +kernel
set_option maxHeartbeats 4000000 in
set_option maxRecDepth 100000 in
theorem m_X0_total (l : Launch) (D : va_G) (cA : Nat → ClassId) (sz : Nat) (a_this : Nat) (w_codes : Nat) (w_counts : Nat) (size : Int32) (total : Int32) (ret_ : Int32) (h : f_X0_total total = some (ret_)) : k_M l yX0_total prog_2_method_3_code 1 (some .int) rm_X0_total D cA [.ref a_this] [(a_this, .inr (0, [.ref w_codes, .ref w_counts, .int size, .int total]))] sz (some (.int ret_)) [(a_this, .inr (0, [.ref w_codes, .ref w_counts, .int size, .int total]))] := by
  refine k_ofW (by decide) (Nat.le_of_ble_eq_true rfl) ?_
  intro p e s m below meth c A ls hx hb hr hml hts hown hlocks hB hA hW hl
  have hl : lv_has ls 1 [(0, .ref a_this)] := hl
  obtain ⟨H, eH⟩ : ∃ H, H = s.heap := ⟨_, rfl⟩
  obtain ⟨locs, eL⟩ : ∃ L : List Loc, L = [] := ⟨_, rfl⟩
  have hW : k_Wd D A s.heap [(a_this, .inr (0, [.ref w_codes, .ref w_counts, .int size, .int total]))] H locs := by rw [eH, eL]; exact hW
  suffices K : W p l e rm_X0_total s m [.ref a_this].toArray below meth c H locs 0 0 (MQ below (k_Q (some (.int ret_)) D [(a_this, .inr (0, [.ref w_codes, .ref w_counts, .int size, .int total]))] A) [.ref a_this].toArray s 0 0 A) (F0 m 0 ls []) by rw [eH, eL] at K; exact K
  clear eH eL
  refine lv_aload_n hx hb dX0_total_0 rfl (lv_at hl 0 rfl) ?_
  refine va_get (D := D) (ci := 0) (v := .int total) (C := RX0) (T := TX0) (N := 4) hx hb hts iX0 hown hB.1 hW.1 0 rfl rfl 3 (by decide) (hts _ q1_49) (fun _ h9 => h9) rfl dX0_total_1 ?_
  have z0 := k_inj1 h
  rw [← z0]
  exact W.iret hx hb hr (fun t ht hWm => ⟨rfl, by rw [ht]; exact hW.1, hW.2.2.F ht⟩) hW.2.2.2.2 dX0_total_4
noncomputable def f_X0_codeAt (n_codes : Nat) (size : Int32) (codes : Nat → Int32) (v1 : Int32) : Option (Int32) := (if v1 < 0 then (some (1000000)) else (if size ≤ v1 then (some (1000000)) else (if (nI n_codes) ≤ v1 then (some (1000000)) else (if ¬ (v1 < 0 ∨ n_codes ≤ v1.toNatClampNeg) then k_let (codes v1.toNatClampNeg) fun x_5 => (some (x_5)) else none))))
abbrev rm_X0_codeAt : Room := { frames := 0, cells := 0, slots := 0, locals := 0 }
theorem pd_X0_codeAt : k_D1 yX0_codeAt 1 := by decide +kernel
set_option maxHeartbeats 4000000 in
set_option maxRecDepth 100000 in
theorem m_X0_codeAt (l : Launch) (D : va_G) (cA : Nat → ClassId) (sz : Nat) (a_this a_codes : Nat) (w_counts : Nat) (n_codes : Nat) (size : Int32) (total : Int32) (codes : Nat → Int32) (v1 : Int32) (ret_ : Int32) (h : f_X0_codeAt n_codes size codes v1 = some (ret_)) : k_M l yX0_codeAt prog_2_method_4_code 2 (some .int) rm_X0_codeAt D cA [.ref a_this, .int v1] [(a_this, .inr (0, [.ref a_codes, .ref w_counts, .int size, .int total])), (a_codes, .inl (cA 0, n_codes, .inl codes))] sz (some (.int ret_)) [(a_this, .inr (0, [.ref a_codes, .ref w_counts, .int size, .int total])), (a_codes, .inl (cA 0, n_codes, .inl codes))] := by
  refine k_ofW (by decide) (Nat.le_of_ble_eq_true rfl) ?_
  intro p e s m below meth c A ls hx hb hr hml hts hown hlocks hB hA hW hl
  have hl : lv_has ls 2 [(0, .ref a_this), (1, .int v1)] := hl
  obtain ⟨H, eH⟩ : ∃ H, H = s.heap := ⟨_, rfl⟩
  obtain ⟨locs, eL⟩ : ∃ L : List Loc, L = [] := ⟨_, rfl⟩
  have hW : k_Wd D A s.heap [(a_this, .inr (0, [.ref a_codes, .ref w_counts, .int size, .int total])), (a_codes, .inl (cA 0, n_codes, .inl codes))] H locs := by rw [eH, eL]; exact hW
  suffices K : W p l e rm_X0_codeAt s m [.ref a_this, .int v1].toArray below meth c H locs 0 0 (MQ below (k_Q (some (.int ret_)) D [(a_this, .inr (0, [.ref a_codes, .ref w_counts, .int size, .int total])), (a_codes, .inl (cA 0, n_codes, .inl codes))] A) [.ref a_this, .int v1].toArray s 0 0 A) (F0 m 0 ls []) by rw [eH, eL] at K; exact K
  clear eH eL
  refine lv_iload_n hx hb dX0_codeAt_0 rfl (lv_at hl 1 rfl) ?_
  refine lv_if_lt (tgt := 30) hx hb dX0_codeAt_1 (by decide) (fun c_1 => ?_) (fun c_1 => ?_)
  · have h := k_t c_1 h
    refine lv_ldc (v := 1000000) hx hb hown (hts _ q2_24) dX0_codeAt_30 ?_
    have z0 := k_inj1 h
    rw [← z0]
    exact W.iret hx hb hr (fun t ht hWm => ⟨rfl, by rw [ht]; exact hW.1, hW.2.2.F ht⟩) hW.2.2.2.2 dX0_codeAt_32
  · have h := k_f c_1 h
    refine lv_iload_n hx hb dX0_codeAt_4 rfl (lv_at hl 1 rfl) ?_
    refine lv_aload_n hx hb dX0_codeAt_5 rfl (lv_at hl 0 rfl) ?_
    refine va_get (D := D) (ci := 0) (v := .int size) (C := RX0) (T := TX0) (N := 4) hx hb hts iX0 hown hB.1 hW.1 0 rfl rfl 2 (by decide) (hts _ q1_48) (fun _ h9 => h9) rfl dX0_codeAt_6 ?_
    refine lv_icmp_ge (tgt := 30) hx hb dX0_codeAt_9 (by decide) (fun c_2 => ?_) (fun c_2 => ?_)
    · have h := k_t c_2 h
      refine lv_ldc (v := 1000000) hx hb hown (hts _ q2_24) dX0_codeAt_30 ?_
      have z0 := k_inj1 h
      rw [← z0]
      exact W.iret hx hb hr (fun t ht hWm => ⟨rfl, by rw [ht]; exact hW.1, hW.2.2.F ht⟩) hW.2.2.2.2 dX0_codeAt_32
    · have h := k_f c_2 h
      refine lv_iload_n hx hb dX0_codeAt_12 rfl (lv_at hl 1 rfl) ?_
      refine lv_aload_n hx hb dX0_codeAt_13 rfl (lv_at hl 0 rfl) ?_
      refine va_get (D := D) (ci := 0) (v := .ref a_codes) (C := RX0) (T := TX0) (N := 4) hx hb hts iX0 hown hB.1 hW.1 0 rfl rfl 0 (by decide) (hts _ q1_46) (fun _ h9 => h9) rfl dX0_codeAt_14 ?_
      refine va_alen hx hb hB.1 hW.1 1 0 rfl (v := nI n_codes) rfl rfl dX0_codeAt_17 ?_
      refine lv_icmp_ge (tgt := 30) hx hb dX0_codeAt_18 (by decide) (fun c_3 => ?_) (fun c_3 => ?_)
      · have h := k_t c_3 h
        refine lv_ldc (v := 1000000) hx hb hown (hts _ q2_24) dX0_codeAt_30 ?_
        have z0 := k_inj1 h
        rw [← z0]
        exact W.iret hx hb hr (fun t ht hWm => ⟨rfl, by rw [ht]; exact hW.1, hW.2.2.F ht⟩) hW.2.2.2.2 dX0_codeAt_32
      · have h := k_f c_3 h
        refine lv_aload_n hx hb dX0_codeAt_21 rfl (lv_at hl 0 rfl) ?_
        refine va_get (D := D) (ci := 0) (v := .ref a_codes) (C := RX0) (T := TX0) (N := 4) hx hb hts iX0 hown hB.1 hW.1 0 rfl rfl 0 (by decide) (hts _ q1_46) (fun _ h9 => h9) rfl dX0_codeAt_22 ?_
        refine lv_iload_n hx hb dX0_codeAt_25 rfl (lv_at hl 1 rfl) ?_
        obtain ⟨c_4, h⟩ := k_g h
        refine va_iald hx hb hB.1 hW.1 1 0 rfl rfl c_4 dX0_codeAt_26 ?_
        refine lv_topi (fun x_5 ex_5 => ?_)
        have h := k_letE ex_5 h
        refine lv_goto (tgt := 32) hx hb dX0_codeAt_27 (by decide) ?_
        have z0 := k_inj1 h
        rw [← z0]
        exact W.iret hx hb hr (fun t ht hWm => ⟨rfl, by rw [ht]; exact hW.1, hW.2.2.F ht⟩) hW.2.2.2.2 dX0_codeAt_32
noncomputable def f_X0_countAt (n_counts : Nat) (size : Int32) (counts : Nat → Int32) (v1 : Int32) : Option (Int32) := (if v1 < 0 then (some (0)) else (if size ≤ v1 then (some (0)) else (if (nI n_counts) ≤ v1 then (some (0)) else (if ¬ (v1 < 0 ∨ n_counts ≤ v1.toNatClampNeg) then k_let (counts v1.toNatClampNeg) fun x_5 => (some (x_5)) else none))))
abbrev rm_X0_countAt : Room := { frames := 0, cells := 0, slots := 0, locals := 0 }
theorem pd_X0_countAt : k_D1 yX0_countAt 1 := by decide +kernel
set_option maxHeartbeats 4000000 in
set_option maxRecDepth 100000 in
theorem m_X0_countAt (l : Launch) (D : va_G) (cA : Nat → ClassId) (sz : Nat) (a_this a_counts : Nat) (w_codes : Nat) (n_counts : Nat) (size : Int32) (total : Int32) (counts : Nat → Int32) (v1 : Int32) (ret_ : Int32) (h : f_X0_countAt n_counts size counts v1 = some (ret_)) : k_M l yX0_countAt prog_2_method_5_code 2 (some .int) rm_X0_countAt D cA [.ref a_this, .int v1] [(a_this, .inr (0, [.ref w_codes, .ref a_counts, .int size, .int total])), (a_counts, .inl (cA 0, n_counts, .inl counts))] sz (some (.int ret_)) [(a_this, .inr (0, [.ref w_codes, .ref a_counts, .int size, .int total])), (a_counts, .inl (cA 0, n_counts, .inl counts))] := by
  refine k_ofW (by decide) (Nat.le_of_ble_eq_true rfl) ?_
  intro p e s m below meth c A ls hx hb hr hml hts hown hlocks hB hA hW hl
  have hl : lv_has ls 2 [(0, .ref a_this), (1, .int v1)] := hl
  obtain ⟨H, eH⟩ : ∃ H, H = s.heap := ⟨_, rfl⟩
  obtain ⟨locs, eL⟩ : ∃ L : List Loc, L = [] := ⟨_, rfl⟩
  have hW : k_Wd D A s.heap [(a_this, .inr (0, [.ref w_codes, .ref a_counts, .int size, .int total])), (a_counts, .inl (cA 0, n_counts, .inl counts))] H locs := by rw [eH, eL]; exact hW
  suffices K : W p l e rm_X0_countAt s m [.ref a_this, .int v1].toArray below meth c H locs 0 0 (MQ below (k_Q (some (.int ret_)) D [(a_this, .inr (0, [.ref w_codes, .ref a_counts, .int size, .int total])), (a_counts, .inl (cA 0, n_counts, .inl counts))] A) [.ref a_this, .int v1].toArray s 0 0 A) (F0 m 0 ls []) by rw [eH, eL] at K; exact K
  clear eH eL
  refine lv_iload_n hx hb dX0_countAt_0 rfl (lv_at hl 1 rfl) ?_
  refine lv_if_lt (tgt := 30) hx hb dX0_countAt_1 (by decide) (fun c_1 => ?_) (fun c_1 => ?_)
  · have h := k_t c_1 h
    refine lv_iconst (v := 0) hx hb dX0_countAt_30 (by decide) ?_
    have z0 := k_inj1 h
    rw [← z0]
    exact W.iret hx hb hr (fun t ht hWm => ⟨rfl, by rw [ht]; exact hW.1, hW.2.2.F ht⟩) hW.2.2.2.2 dX0_countAt_31
  · have h := k_f c_1 h
    refine lv_iload_n hx hb dX0_countAt_4 rfl (lv_at hl 1 rfl) ?_
    refine lv_aload_n hx hb dX0_countAt_5 rfl (lv_at hl 0 rfl) ?_
    refine va_get (D := D) (ci := 0) (v := .int size) (C := RX0) (T := TX0) (N := 4) hx hb hts iX0 hown hB.1 hW.1 0 rfl rfl 2 (by decide) (hts _ q1_48) (fun _ h9 => h9) rfl dX0_countAt_6 ?_
    refine lv_icmp_ge (tgt := 30) hx hb dX0_countAt_9 (by decide) (fun c_2 => ?_) (fun c_2 => ?_)
    · have h := k_t c_2 h
      refine lv_iconst (v := 0) hx hb dX0_countAt_30 (by decide) ?_
      have z0 := k_inj1 h
      rw [← z0]
      exact W.iret hx hb hr (fun t ht hWm => ⟨rfl, by rw [ht]; exact hW.1, hW.2.2.F ht⟩) hW.2.2.2.2 dX0_countAt_31
    · have h := k_f c_2 h
      refine lv_iload_n hx hb dX0_countAt_12 rfl (lv_at hl 1 rfl) ?_
      refine lv_aload_n hx hb dX0_countAt_13 rfl (lv_at hl 0 rfl) ?_
      refine va_get (D := D) (ci := 0) (v := .ref a_counts) (C := RX0) (T := TX0) (N := 4) hx hb hts iX0 hown hB.1 hW.1 0 rfl rfl 1 (by decide) (hts _ q1_47) (fun _ h9 => h9) rfl dX0_countAt_14 ?_
      refine va_alen hx hb hB.1 hW.1 1 0 rfl (v := nI n_counts) rfl rfl dX0_countAt_17 ?_
      refine lv_icmp_ge (tgt := 30) hx hb dX0_countAt_18 (by decide) (fun c_3 => ?_) (fun c_3 => ?_)
      · have h := k_t c_3 h
        refine lv_iconst (v := 0) hx hb dX0_countAt_30 (by decide) ?_
        have z0 := k_inj1 h
        rw [← z0]
        exact W.iret hx hb hr (fun t ht hWm => ⟨rfl, by rw [ht]; exact hW.1, hW.2.2.F ht⟩) hW.2.2.2.2 dX0_countAt_31
      · have h := k_f c_3 h
        refine lv_aload_n hx hb dX0_countAt_21 rfl (lv_at hl 0 rfl) ?_
        refine va_get (D := D) (ci := 0) (v := .ref a_counts) (C := RX0) (T := TX0) (N := 4) hx hb hts iX0 hown hB.1 hW.1 0 rfl rfl 1 (by decide) (hts _ q1_47) (fun _ h9 => h9) rfl dX0_countAt_22 ?_
        refine lv_iload_n hx hb dX0_countAt_25 rfl (lv_at hl 1 rfl) ?_
        obtain ⟨c_4, h⟩ := k_g h
        refine va_iald hx hb hB.1 hW.1 1 0 rfl rfl c_4 dX0_countAt_26 ?_
        refine lv_topi (fun x_5 ex_5 => ?_)
        have h := k_letE ex_5 h
        refine lv_goto (tgt := 31) hx hb dX0_countAt_27 (by decide) ?_
        have z0 := k_inj1 h
        rw [← z0]
        exact W.iret hx hb hr (fun t ht hWm => ⟨rfl, by rw [ht]; exact hW.1, hW.2.2.F ht⟩) hW.2.2.2.2 dX0_countAt_31
noncomputable def f_X0_firstNotLess_50 (fu : Nat) (n_codes : Nat) (size : Int32) (codes : Nat → Int32) (v1 : Int32) (k10 : Int32 → Int32 → Int32 → Option (Int32)) (x2 : Int32) (x3 : Int32) (x4 : Int32) : Option (Int32) := (k_let (x4 + 1) fun x_1 => (k10 x2 x3 x_1))
noncomputable def f_X0_firstNotLess_10 (fu : Nat) (n_codes : Nat) (size : Int32) (codes : Nat → Int32) (v1 : Int32) : Nat → Int32 → Int32 → Int32 → Option (Int32)
  | 0 => fun _ _ _ => none
  | n + 1 => fun x2 x3 x4 => (if (32 : Int32) ≤ x4 then (some (x2)) else (if x3 ≤ x2 then (some (x2)) else (k_let ((x2 + x3) / 2) fun x_4 => k_b1 (f_X0_codeAt n_codes size codes x_4) fun r_6 => (if v1 ≤ r_6 then ((f_X0_firstNotLess_50 fu n_codes size codes v1 (f_X0_firstNotLess_10 fu n_codes size codes v1 n) x2 x_4 x4)) else (k_let (x_4 + 1) fun x_9 => (f_X0_firstNotLess_50 fu n_codes size codes v1 (f_X0_firstNotLess_10 fu n_codes size codes v1 n) x_9 x3 x4))))))
theorem fs_X0_firstNotLess_10 (fu : Nat) (n_codes : Nat) (size : Int32) (codes : Nat → Int32) (v1 : Int32) (n : Nat) (x2 : Int32) (x3 : Int32) (x4 : Int32) : f_X0_firstNotLess_10 fu n_codes size codes v1 (n + 1) x2 x3 x4 = (if (32 : Int32) ≤ x4 then (some (x2)) else (if x3 ≤ x2 then (some (x2)) else (k_let ((x2 + x3) / 2) fun x_4 => k_b1 (f_X0_codeAt n_codes size codes x_4) fun r_6 => (if v1 ≤ r_6 then ((f_X0_firstNotLess_50 fu n_codes size codes v1 (f_X0_firstNotLess_10 fu n_codes size codes v1 n) x2 x_4 x4)) else (k_let (x_4 + 1) fun x_9 => (f_X0_firstNotLess_50 fu n_codes size codes v1 (f_X0_firstNotLess_10 fu n_codes size codes v1 n) x_9 x3 x4)))))) := rfl
noncomputable def f_X0_firstNotLess (fu : Nat) (n_codes : Nat) (size : Int32) (codes : Nat → Int32) (v1 : Int32) : Option (Int32) := ((f_X0_firstNotLess_10 fu n_codes size codes v1 fu 0 size 0))
abbrev rm_X0_firstNotLess : Room := { frames := 1, cells := 0, slots := 0, locals := 21 }
theorem pd_X0_firstNotLess : k_D1 yX0_firstNotLess 1 := by decide +kernel
set_option maxHeartbeats 4000000 in
set_option maxRecDepth 100000 in
theorem m_X0_firstNotLess (l : Launch) (D : va_G) (cA : Nat → ClassId) (sz : Nat) (a_this a_codes : Nat) (w_counts : Nat) (fu : Nat) (n_codes : Nat) (size : Int32) (total : Int32) (codes : Nat → Int32) (v1 : Int32) (ret_ : Int32) (h : f_X0_firstNotLess fu n_codes size codes v1 = some (ret_)) : k_M l yX0_firstNotLess prog_2_method_8_code 6 (some .int) rm_X0_firstNotLess D cA [.ref a_this, .int v1] [(a_this, .inr (0, [.ref a_codes, .ref w_counts, .int size, .int total])), (a_codes, .inl (cA 0, n_codes, .inl codes))] sz (some (.int ret_)) [(a_this, .inr (0, [.ref a_codes, .ref w_counts, .int size, .int total])), (a_codes, .inl (cA 0, n_codes, .inl codes))] := by
  refine k_ofW (by decide) (Nat.le_of_ble_eq_true rfl) ?_
  intro p e s m below meth c A ls hx hb hr hml hts hown hlocks hB hA hW hl
  have hl : lv_has ls 6 [(0, .ref a_this), (1, .int v1)] := hl
  obtain ⟨H, eH⟩ : ∃ H, H = s.heap := ⟨_, rfl⟩
  obtain ⟨locs, eL⟩ : ∃ L : List Loc, L = [] := ⟨_, rfl⟩
  have hW : k_Wd D A s.heap [(a_this, .inr (0, [.ref a_codes, .ref w_counts, .int size, .int total])), (a_codes, .inl (cA 0, n_codes, .inl codes))] H locs := by rw [eH, eL]; exact hW
  suffices K : W p l e rm_X0_firstNotLess s m [.ref a_this, .int v1].toArray below meth c H locs 0 0 (MQ below (k_Q (some (.int ret_)) D [(a_this, .inr (0, [.ref a_codes, .ref w_counts, .int size, .int total])), (a_codes, .inl (cA 0, n_codes, .inl codes))] A) [.ref a_this, .int v1].toArray s 0 0 A) (F0 m 0 ls []) by rw [eH, eL] at K; exact K
  clear eH eL
  have J10 : ∀ (n10 : Nat) (x2 : Int32) (x3 : Int32) (x4 : Int32) (H : Heap) (locs : List Loc) (ls : Array Slot), k_Wd D A s.heap [(a_this, .inr (0, [.ref a_codes, .ref w_counts, .int size, .int total])), (a_codes, .inl (cA 0, n_codes, .inl codes))] H locs → lv_has ls 6 [(0, .ref a_this), (1, .int v1), (2, .int x2), (3, .int x3), (4, .int x4)] → f_X0_firstNotLess_10 fu n_codes size codes v1 n10 x2 x3 x4 = some (ret_) → W p l e rm_X0_firstNotLess s m [.ref a_this, .int v1].toArray below meth c H locs 0 0 (MQ below (k_Q (some (.int ret_)) D [(a_this, .inr (0, [.ref a_codes, .ref w_counts, .int size, .int total])), (a_codes, .inl (cA 0, n_codes, .inl codes))] A) [.ref a_this, .int v1].toArray s 0 0 A) (F0 m 10 ls []) := by
    intro n10
    induction n10 with
    | zero => intro x2 x3 x4 H locs ls hW hl h; exact k_no h
    | succ n10 ih10 =>
      have J50 : ∀ (x2 : Int32) (x3 : Int32) (x4 : Int32) (H : Heap) (locs : List Loc) (ls : Array Slot), k_Wd D A s.heap [(a_this, .inr (0, [.ref a_codes, .ref w_counts, .int size, .int total])), (a_codes, .inl (cA 0, n_codes, .inl codes))] H locs → lv_has ls 6 [(0, .ref a_this), (1, .int v1), (2, .int x2), (3, .int x3), (4, .int x4)] → f_X0_firstNotLess_50 fu n_codes size codes v1 (f_X0_firstNotLess_10 fu n_codes size codes v1 n10) x2 x3 x4 = some (ret_) → W p l e rm_X0_firstNotLess s m [.ref a_this, .int v1].toArray below meth c H locs 0 0 (MQ below (k_Q (some (.int ret_)) D [(a_this, .inr (0, [.ref a_codes, .ref w_counts, .int size, .int total])), (a_codes, .inl (cA 0, n_codes, .inl codes))] A) [.ref a_this, .int v1].toArray s 0 0 A) (F0 m 50 ls []) := by
        intro x2 x3 x4 H locs ls hW hl h
        obtain ⟨x_1, ex_1⟩ : ∃ y : Int32, y = x4 + 1 := ⟨_, rfl⟩
        have h := k_letE ex_1 h
        refine lv_iinc (v := x_1) (lv' := [(4, .int x_1), (0, .ref a_this), (1, .int v1), (2, .int x2), (3, .int x3)]) hx hb dX0_firstNotLess_50 hl (k := 4) rfl (by rw [ex_1]; rfl) (by decide) rfl (fun ls hl => ?_)
        refine lv_goto (tgt := 10) hx hb dX0_firstNotLess_53 (by decide) ?_
        exact ih10 x2 x3 x_1 H locs ls hW (lv_sub hl [1, 2, 3, 4, 0] rfl) h
      intro x2 x3 x4 H locs ls hW hl h
      have h := (fs_X0_firstNotLess_10 _ _ _ _ _ _ _ _ _).symm.trans h
      refine lv_iload hx hb dX0_firstNotLess_10 (lv_at hl 4 rfl) ?_
      refine lv_bipush (v := 32) hx hb dX0_firstNotLess_12 (by decide) ?_
      refine lv_icmp_ge (tgt := 56) hx hb dX0_firstNotLess_14 (by decide) (fun c_2 => ?_) (fun c_2 => ?_)
      · have h := k_t c_2 h
        refine lv_iload_n hx hb dX0_firstNotLess_56 rfl (lv_at hl 2 rfl) ?_
        have z0 := k_inj1 h
        rw [← z0]
        exact W.iret hx hb hr (fun t ht hWm => ⟨rfl, by rw [ht]; exact hW.1, hW.2.2.F ht⟩) hW.2.2.2.2 dX0_firstNotLess_57
      · have h := k_f c_2 h
        refine lv_iload_n hx hb dX0_firstNotLess_17 rfl (lv_at hl 2 rfl) ?_
        refine lv_iload_n hx hb dX0_firstNotLess_18 rfl (lv_at hl 3 rfl) ?_
        refine lv_icmp_ge (tgt := 56) hx hb dX0_firstNotLess_19 (by decide) (fun c_3 => ?_) (fun c_3 => ?_)
        · have h := k_t c_3 h
          refine lv_iload_n hx hb dX0_firstNotLess_56 rfl (lv_at hl 2 rfl) ?_
          have z0 := k_inj1 h
          rw [← z0]
          exact W.iret hx hb hr (fun t ht hWm => ⟨rfl, by rw [ht]; exact hW.1, hW.2.2.F ht⟩) hW.2.2.2.2 dX0_firstNotLess_57
        · have h := k_f c_3 h
          refine lv_iload_n hx hb dX0_firstNotLess_22 rfl (lv_at hl 2 rfl) ?_
          refine lv_iload_n hx hb dX0_firstNotLess_23 rfl (lv_at hl 3 rfl) ?_
          refine lv_iadd hx hb dX0_firstNotLess_24 ?_
          refine lv_iconst (v := 2) hx hb dX0_firstNotLess_25 (by decide) ?_
          refine lv_idiv hx hb dX0_firstNotLess_26 (by decide) ?_
          refine lv_topi (fun x_4 ex_4 => ?_)
          have h := k_letE ex_4 h
          refine lv_istore (lv' := [(5, .int x_4), (0, .ref a_this), (1, .int v1), (2, .int x2), (3, .int x3), (4, .int x4)]) hx hb dX0_firstNotLess_27 hl (by decide) rfl (fun ls hl => ?_)
          refine lv_aload_n hx hb dX0_firstNotLess_29 rfl (lv_at hl 1 rfl) ?_
          refine lv_iload hx hb dX0_firstNotLess_30 (lv_at hl 0 rfl) ?_
          obtain ⟨r_6, h_5, h⟩ := k_bE1 h
          refine k_callV (C := RX0) (ws' := [(a_this, .inr (0, [.ref a_codes, .ref w_counts, .int size, .int total])), (a_codes, .inl (cA 0, n_codes, .inl codes))]) (As := [.int x_4]) (rest := []) (b := a_this) (m_X0_codeAt l D cA H.size a_this a_codes w_counts n_codes size total codes x_4 r_6 h_5) hx hb hml hown hts hB hA hW hl.1 q2_23 q1_3 q2_21 q2_22 q2_20 pd_X0_codeAt ⟨rfl, rfl, Nat.le_of_ble_eq_true rfl, Nat.le_of_ble_eq_true rfl⟩ rfl 0 rfl rfl [0, 1] [] ⟨rfl, rfl, trivial⟩ rfl ⟨⟨rfl, rfl, trivial⟩, trivial, rfl⟩ rfl rfl (Nat.le_of_ble_eq_true rfl) ⟨Nat.zero_le _, Nat.zero_le _⟩ dX0_firstNotLess_32 (st1 := [.int r_6]) rfl (fun H locs hW => ?_)
          refine lv_iload_n hx hb dX0_firstNotLess_35 rfl (lv_at hl 2 rfl) ?_
          refine lv_icmp_ge (tgt := 47) hx hb dX0_firstNotLess_36 (by decide) (fun c_8 => ?_) (fun c_8 => ?_)
          · have h := k_t c_8 h
            refine lv_iload hx hb dX0_firstNotLess_47 (lv_at hl 0 rfl) ?_
            refine lv_istore_n (lv' := [(3, .int x_4), (5, .int x_4), (0, .ref a_this), (1, .int v1), (2, .int x2), (4, .int x4)]) hx hb dX0_firstNotLess_49 rfl hl (by decide) rfl (fun ls hl => ?_)
            exact J50 x2 x_4 x4 H locs ls hW (lv_sub hl [2, 3, 4, 0, 5] rfl) h
          · have h := k_f c_8 h
            refine lv_iload hx hb dX0_firstNotLess_39 (lv_at hl 0 rfl) ?_
            refine lv_iconst (v := 1) hx hb dX0_firstNotLess_41 (by decide) ?_
            refine lv_iadd hx hb dX0_firstNotLess_42 ?_
            refine lv_topi (fun x_9 ex_9 => ?_)
            have h := k_letE ex_9 h
            refine lv_istore_n (lv' := [(2, .int x_9), (5, .int x_4), (0, .ref a_this), (1, .int v1), (3, .int x3), (4, .int x4)]) hx hb dX0_firstNotLess_43 rfl hl (by decide) rfl (fun ls hl => ?_)
            refine lv_goto (tgt := 50) hx hb dX0_firstNotLess_44 (by decide) ?_
            exact J50 x_9 x3 x4 H locs ls hW (lv_sub hl [2, 3, 0, 4, 5] rfl) h
  refine lv_iconst (v := 0) hx hb dX0_firstNotLess_0 (by decide) ?_
  refine lv_istore_n (lv' := [(2, .int 0), (0, .ref a_this), (1, .int v1)]) hx hb dX0_firstNotLess_1 rfl hl (by decide) rfl (fun ls hl => ?_)
  refine lv_aload_n hx hb dX0_firstNotLess_2 rfl (lv_at hl 1 rfl) ?_
  refine va_get (D := D) (ci := 0) (v := .int size) (C := RX0) (T := TX0) (N := 4) hx hb hts iX0 hown hB.1 hW.1 0 rfl rfl 2 (by decide) (hts _ q1_48) (fun _ h9 => h9) rfl dX0_firstNotLess_3 ?_
  refine lv_istore_n (lv' := [(3, .int size), (2, .int 0), (0, .ref a_this), (1, .int v1)]) hx hb dX0_firstNotLess_6 rfl hl (by decide) rfl (fun ls hl => ?_)
  refine lv_iconst (v := 0) hx hb dX0_firstNotLess_7 (by decide) ?_
  refine lv_istore (lv' := [(4, .int 0), (3, .int size), (2, .int 0), (0, .ref a_this), (1, .int v1)]) hx hb dX0_firstNotLess_8 hl (by decide) rfl (fun ls hl => ?_)
  exact J10 fu 0 size 0 H locs ls hW (lv_sub hl [3, 4, 2, 1, 0] rfl) h
noncomputable def f_X0_countOf (fu : Nat) (n_codes : Nat) (n_counts : Nat) (size : Int32) (codes : Nat → Int32) (counts : Nat → Int32) (v1 : Int32) : Option (Int32) := (k_b1 (f_X0_firstNotLess fu n_codes size codes v1) fun r_2 => (k_b1 (f_X0_codeAt n_codes size codes r_2) fun r_5 => (if r_5 = v1 then (k_b1 (f_X0_countAt n_counts size counts r_2) fun r_9 => (some (r_9))) else (some (0)))))
abbrev rm_X0_countOf : Room := { frames := 2, cells := 0, slots := 0, locals := 46 }
theorem pd_X0_countOf : k_D1 yX0_countOf 1 := by decide +kernel
set_option maxHeartbeats 4000000 in
set_option maxRecDepth 100000 in
theorem m_X0_countOf (l : Launch) (D : va_G) (cA : Nat → ClassId) (sz : Nat) (a_this a_codes a_counts : Nat) (fu : Nat) (n_codes : Nat) (n_counts : Nat) (size : Int32) (total : Int32) (codes : Nat → Int32) (counts : Nat → Int32) (v1 : Int32) (ret_ : Int32) (h : f_X0_countOf fu n_codes n_counts size codes counts v1 = some (ret_)) : k_M l yX0_countOf prog_2_method_6_code 3 (some .int) rm_X0_countOf D cA [.ref a_this, .int v1] [(a_this, .inr (0, [.ref a_codes, .ref a_counts, .int size, .int total])), (a_codes, .inl (cA 0, n_codes, .inl codes)), (a_counts, .inl (cA 0, n_counts, .inl counts))] sz (some (.int ret_)) [(a_this, .inr (0, [.ref a_codes, .ref a_counts, .int size, .int total])), (a_codes, .inl (cA 0, n_codes, .inl codes)), (a_counts, .inl (cA 0, n_counts, .inl counts))] := by
  refine k_ofW (by decide) (Nat.le_of_ble_eq_true rfl) ?_
  intro p e s m below meth c A ls hx hb hr hml hts hown hlocks hB hA hW hl
  have hl : lv_has ls 3 [(0, .ref a_this), (1, .int v1)] := hl
  obtain ⟨H, eH⟩ : ∃ H, H = s.heap := ⟨_, rfl⟩
  obtain ⟨locs, eL⟩ : ∃ L : List Loc, L = [] := ⟨_, rfl⟩
  have hW : k_Wd D A s.heap [(a_this, .inr (0, [.ref a_codes, .ref a_counts, .int size, .int total])), (a_codes, .inl (cA 0, n_codes, .inl codes)), (a_counts, .inl (cA 0, n_counts, .inl counts))] H locs := by rw [eH, eL]; exact hW
  suffices K : W p l e rm_X0_countOf s m [.ref a_this, .int v1].toArray below meth c H locs 0 0 (MQ below (k_Q (some (.int ret_)) D [(a_this, .inr (0, [.ref a_codes, .ref a_counts, .int size, .int total])), (a_codes, .inl (cA 0, n_codes, .inl codes)), (a_counts, .inl (cA 0, n_counts, .inl counts))] A) [.ref a_this, .int v1].toArray s 0 0 A) (F0 m 0 ls []) by rw [eH, eL] at K; exact K
  clear eH eL
  refine lv_aload_n hx hb dX0_countOf_0 rfl (lv_at hl 0 rfl) ?_
  refine lv_iload_n hx hb dX0_countOf_1 rfl (lv_at hl 1 rfl) ?_
  obtain ⟨r_2, h_1, h⟩ := k_bE1 h
  refine k_callV (C := RX0) (ws' := [(a_this, .inr (0, [.ref a_codes, .ref a_counts, .int size, .int total])), (a_codes, .inl (cA 0, n_codes, .inl codes)), (a_counts, .inl (cA 0, n_counts, .inl counts))]) (As := [.int v1]) (rest := []) (b := a_this) (m_X0_firstNotLess l D cA H.size a_this a_codes a_counts fu n_codes size total codes v1 r_2 h_1) hx hb hml hown hts hB hA hW hl.1 q2_87 q1_3 q2_85 q2_86 q2_118 pd_X0_firstNotLess ⟨rfl, rfl, Nat.le_of_ble_eq_true rfl, Nat.le_of_ble_eq_true rfl⟩ rfl 0 rfl rfl [0, 1] [2] ⟨rfl, rfl, trivial⟩ rfl ⟨⟨rfl, rfl, trivial⟩, ⟨rfl, trivial⟩, rfl⟩ rfl rfl (Nat.le_of_ble_eq_true rfl) ⟨Nat.zero_le _, Nat.zero_le _⟩ dX0_countOf_2 (st1 := [.int r_2]) rfl (fun H locs hW => ?_)
  refine lv_istore_n (lv' := [(2, .int r_2), (0, .ref a_this), (1, .int v1)]) hx hb dX0_countOf_5 rfl hl (by decide) rfl (fun ls hl => ?_)
  refine lv_aload_n hx hb dX0_countOf_6 rfl (lv_at hl 1 rfl) ?_
  refine lv_iload_n hx hb dX0_countOf_7 rfl (lv_at hl 0 rfl) ?_
  obtain ⟨r_5, h_4, h⟩ := k_bE1 h
  refine k_callV (C := RX0) (ws' := [(a_this, .inr (0, [.ref a_codes, .ref a_counts, .int size, .int total])), (a_codes, .inl (cA 0, n_codes, .inl codes)), (a_counts, .inl (cA 0, n_counts, .inl counts))]) (As := [.int r_2]) (rest := []) (b := a_this) (m_X0_codeAt l D cA H.size a_this a_codes a_counts n_codes size total codes r_2 r_5 h_4) hx hb hml hown hts hB hA hW hl.1 q2_23 q1_3 q2_21 q2_22 q2_20 pd_X0_codeAt ⟨rfl, rfl, Nat.le_of_ble_eq_true rfl, Nat.le_of_ble_eq_true rfl⟩ rfl 0 rfl rfl [0, 1] [2] ⟨rfl, rfl, trivial⟩ rfl ⟨⟨rfl, rfl, trivial⟩, ⟨rfl, trivial⟩, rfl⟩ rfl rfl (Nat.le_of_ble_eq_true rfl) ⟨Nat.zero_le _, Nat.zero_le _⟩ dX0_countOf_8 (st1 := [.int r_5]) rfl (fun H locs hW => ?_)
  refine lv_iload_n hx hb dX0_countOf_11 rfl (lv_at hl 2 rfl) ?_
  refine lv_icmp_ne (tgt := 23) hx hb dX0_countOf_12 (by decide) (fun c_7 => ?_) (fun c_7 => ?_)
  · have h := k_f c_7 h
    refine lv_iconst (v := 0) hx hb dX0_countOf_23 (by decide) ?_
    have z0 := k_inj1 h
    rw [← z0]
    exact W.iret hx hb hr (fun t ht hWm => ⟨rfl, by rw [ht]; exact hW.1, hW.2.2.F ht⟩) hW.2.2.2.2 dX0_countOf_24
  · have h := k_t c_7 h
    refine lv_aload_n hx hb dX0_countOf_15 rfl (lv_at hl 1 rfl) ?_
    refine lv_iload_n hx hb dX0_countOf_16 rfl (lv_at hl 0 rfl) ?_
    obtain ⟨r_9, h_8, h⟩ := k_bE1 h
    refine k_callV (C := RX0) (ws' := [(a_this, .inr (0, [.ref a_codes, .ref a_counts, .int size, .int total])), (a_codes, .inl (cA 0, n_codes, .inl codes)), (a_counts, .inl (cA 0, n_counts, .inl counts))]) (As := [.int r_2]) (rest := []) (b := a_this) (m_X0_countAt l D cA H.size a_this a_counts a_codes n_counts size total counts r_2 r_9 h_8) hx hb hml hown hts hB hA hW hl.1 q2_28 q1_3 q2_26 q2_27 q2_25 pd_X0_countAt ⟨rfl, rfl, Nat.le_of_ble_eq_true rfl, Nat.le_of_ble_eq_true rfl⟩ rfl 0 rfl rfl [0, 2] [1] ⟨rfl, rfl, trivial⟩ rfl ⟨⟨rfl, rfl, trivial⟩, ⟨rfl, trivial⟩, rfl⟩ rfl rfl (Nat.le_of_ble_eq_true rfl) ⟨Nat.zero_le _, Nat.zero_le _⟩ dX0_countOf_17 (st1 := [.int r_9]) rfl (fun H locs hW => ?_)
    refine lv_goto (tgt := 24) hx hb dX0_countOf_20 (by decide) ?_
    have z0 := k_inj1 h
    rw [← z0]
    exact W.iret hx hb hr (fun t ht hWm => ⟨rfl, by rw [ht]; exact hW.1, hW.2.2.F ht⟩) hW.2.2.2.2 dX0_countOf_24
noncomputable def f_X0_codeOfOccurrence_25 (fu : Nat) (n_codes : Nat) (n_counts : Nat) (size : Int32) (codes : Nat → Int32) (counts : Nat → Int32) (v1 : Int32) (x3 : Int32) : Option (Int32) := (k_b1 (f_X0_codeAt n_codes size codes x3) fun r_2 => (some (r_2)))
noncomputable def f_X0_codeOfOccurrence_4 (fu : Nat) (n_codes : Nat) (n_counts : Nat) (size : Int32) (codes : Nat → Int32) (counts : Nat → Int32) (v1 : Int32) : Nat → Int32 → Int32 → Option (Int32)
  | 0 => fun _ _ => none
  | n + 1 => fun x2 x3 => (if size ≤ x3 then (some (1000000)) else (k_b1 (f_X0_countAt n_counts size counts x3) fun r_6 => (k_let (x2 + r_6) fun x_8 => if x_8 ≤ v1 then (k_let (x3 + 1) fun x_10 => (f_X0_codeOfOccurrence_4 fu n_codes n_counts size codes counts v1 n x_8 x_10)) else ((f_X0_codeOfOccurrence_25 fu n_codes n_counts size codes counts v1 x3)))))
theorem fs_X0_codeOfOccurrence_4 (fu : Nat) (n_codes : Nat) (n_counts : Nat) (size : Int32) (codes : Nat → Int32) (counts : Nat → Int32) (v1 : Int32) (n : Nat) (x2 : Int32) (x3 : Int32) : f_X0_codeOfOccurrence_4 fu n_codes n_counts size codes counts v1 (n + 1) x2 x3 = (if size ≤ x3 then (some (1000000)) else (k_b1 (f_X0_countAt n_counts size counts x3) fun r_6 => (k_let (x2 + r_6) fun x_8 => if x_8 ≤ v1 then (k_let (x3 + 1) fun x_10 => (f_X0_codeOfOccurrence_4 fu n_codes n_counts size codes counts v1 n x_8 x_10)) else ((f_X0_codeOfOccurrence_25 fu n_codes n_counts size codes counts v1 x3))))) := rfl
noncomputable def f_X0_codeOfOccurrence (fu : Nat) (n_codes : Nat) (n_counts : Nat) (size : Int32) (codes : Nat → Int32) (counts : Nat → Int32) (v1 : Int32) : Option (Int32) := ((f_X0_codeOfOccurrence_4 fu n_codes n_counts size codes counts v1 fu 0 0))
abbrev rm_X0_codeOfOccurrence : Room := { frames := 1, cells := 0, slots := 0, locals := 21 }
theorem pd_X0_codeOfOccurrence : k_D1 yX0_codeOfOccurrence 1 := by decide +kernel
set_option maxHeartbeats 4000000 in
set_option maxRecDepth 100000 in
theorem m_X0_codeOfOccurrence (l : Launch) (D : va_G) (cA : Nat → ClassId) (sz : Nat) (a_this a_codes a_counts : Nat) (fu : Nat) (n_codes : Nat) (n_counts : Nat) (size : Int32) (total : Int32) (codes : Nat → Int32) (counts : Nat → Int32) (v1 : Int32) (ret_ : Int32) (h : f_X0_codeOfOccurrence fu n_codes n_counts size codes counts v1 = some (ret_)) : k_M l yX0_codeOfOccurrence prog_2_method_7_code 4 (some .int) rm_X0_codeOfOccurrence D cA [.ref a_this, .int v1] [(a_this, .inr (0, [.ref a_codes, .ref a_counts, .int size, .int total])), (a_codes, .inl (cA 0, n_codes, .inl codes)), (a_counts, .inl (cA 0, n_counts, .inl counts))] sz (some (.int ret_)) [(a_this, .inr (0, [.ref a_codes, .ref a_counts, .int size, .int total])), (a_codes, .inl (cA 0, n_codes, .inl codes)), (a_counts, .inl (cA 0, n_counts, .inl counts))] := by
  refine k_ofW (by decide) (Nat.le_of_ble_eq_true rfl) ?_
  intro p e s m below meth c A ls hx hb hr hml hts hown hlocks hB hA hW hl
  have hl : lv_has ls 4 [(0, .ref a_this), (1, .int v1)] := hl
  obtain ⟨H, eH⟩ : ∃ H, H = s.heap := ⟨_, rfl⟩
  obtain ⟨locs, eL⟩ : ∃ L : List Loc, L = [] := ⟨_, rfl⟩
  have hW : k_Wd D A s.heap [(a_this, .inr (0, [.ref a_codes, .ref a_counts, .int size, .int total])), (a_codes, .inl (cA 0, n_codes, .inl codes)), (a_counts, .inl (cA 0, n_counts, .inl counts))] H locs := by rw [eH, eL]; exact hW
  suffices K : W p l e rm_X0_codeOfOccurrence s m [.ref a_this, .int v1].toArray below meth c H locs 0 0 (MQ below (k_Q (some (.int ret_)) D [(a_this, .inr (0, [.ref a_codes, .ref a_counts, .int size, .int total])), (a_codes, .inl (cA 0, n_codes, .inl codes)), (a_counts, .inl (cA 0, n_counts, .inl counts))] A) [.ref a_this, .int v1].toArray s 0 0 A) (F0 m 0 ls []) by rw [eH, eL] at K; exact K
  clear eH eL
  have J25 : ∀ (x3 : Int32) (H : Heap) (locs : List Loc) (ls : Array Slot), k_Wd D A s.heap [(a_this, .inr (0, [.ref a_codes, .ref a_counts, .int size, .int total])), (a_codes, .inl (cA 0, n_codes, .inl codes)), (a_counts, .inl (cA 0, n_counts, .inl counts))] H locs → lv_has ls 4 [(0, .ref a_this), (3, .int x3)] → f_X0_codeOfOccurrence_25 fu n_codes n_counts size codes counts v1 x3 = some (ret_) → W p l e rm_X0_codeOfOccurrence s m [.ref a_this, .int v1].toArray below meth c H locs 0 0 (MQ below (k_Q (some (.int ret_)) D [(a_this, .inr (0, [.ref a_codes, .ref a_counts, .int size, .int total])), (a_codes, .inl (cA 0, n_codes, .inl codes)), (a_counts, .inl (cA 0, n_counts, .inl counts))] A) [.ref a_this, .int v1].toArray s 0 0 A) (F0 m 25 ls []) := by
    intro x3 H locs ls hW hl h
    refine lv_aload_n hx hb dX0_codeOfOccurrence_25 rfl (lv_at hl 0 rfl) ?_
    refine lv_iload_n hx hb dX0_codeOfOccurrence_26 rfl (lv_at hl 1 rfl) ?_
    obtain ⟨r_2, h_1, h⟩ := k_bE1 h
    refine k_callV (C := RX0) (ws' := [(a_this, .inr (0, [.ref a_codes, .ref a_counts, .int size, .int total])), (a_codes, .inl (cA 0, n_codes, .inl codes)), (a_counts, .inl (cA 0, n_counts, .inl counts))]) (As := [.int x3]) (rest := []) (b := a_this) (m_X0_codeAt l D cA H.size a_this a_codes a_counts n_codes size total codes x3 r_2 h_1) hx hb hml hown hts hB hA hW hl.1 q2_23 q1_3 q2_21 q2_22 q2_20 pd_X0_codeAt ⟨rfl, rfl, Nat.le_of_ble_eq_true rfl, Nat.le_of_ble_eq_true rfl⟩ rfl 0 rfl rfl [0, 1] [2] ⟨rfl, rfl, trivial⟩ rfl ⟨⟨rfl, rfl, trivial⟩, ⟨rfl, trivial⟩, rfl⟩ rfl rfl (Nat.le_of_ble_eq_true rfl) ⟨Nat.zero_le _, Nat.zero_le _⟩ dX0_codeOfOccurrence_27 (st1 := [.int r_2]) rfl (fun H locs hW => ?_)
    have z0 := k_inj1 h
    rw [← z0]
    exact W.iret hx hb hr (fun t ht hWm => ⟨rfl, by rw [ht]; exact hW.1, hW.2.2.F ht⟩) hW.2.2.2.2 dX0_codeOfOccurrence_30
  have J4 : ∀ (n4 : Nat) (x2 : Int32) (x3 : Int32) (H : Heap) (locs : List Loc) (ls : Array Slot), k_Wd D A s.heap [(a_this, .inr (0, [.ref a_codes, .ref a_counts, .int size, .int total])), (a_codes, .inl (cA 0, n_codes, .inl codes)), (a_counts, .inl (cA 0, n_counts, .inl counts))] H locs → lv_has ls 4 [(0, .ref a_this), (1, .int v1), (2, .int x2), (3, .int x3)] → f_X0_codeOfOccurrence_4 fu n_codes n_counts size codes counts v1 n4 x2 x3 = some (ret_) → W p l e rm_X0_codeOfOccurrence s m [.ref a_this, .int v1].toArray below meth c H locs 0 0 (MQ below (k_Q (some (.int ret_)) D [(a_this, .inr (0, [.ref a_codes, .ref a_counts, .int size, .int total])), (a_codes, .inl (cA 0, n_codes, .inl codes)), (a_counts, .inl (cA 0, n_counts, .inl counts))] A) [.ref a_this, .int v1].toArray s 0 0 A) (F0 m 4 ls []) := by
    intro n4
    induction n4 with
    | zero => intro x2 x3 H locs ls hW hl h; exact k_no h
    | succ n4 ih4 =>
      intro x2 x3 H locs ls hW hl h
      have h := (fs_X0_codeOfOccurrence_4 _ _ _ _ _ _ _ _ _ _).symm.trans h
      refine lv_iload_n hx hb dX0_codeOfOccurrence_4 rfl (lv_at hl 3 rfl) ?_
      refine lv_aload_n hx hb dX0_codeOfOccurrence_5 rfl (lv_at hl 0 rfl) ?_
      refine va_get (D := D) (ci := 0) (v := .int size) (C := RX0) (T := TX0) (N := 4) hx hb hts iX0 hown hB.1 hW.1 0 rfl rfl 2 (by decide) (hts _ q1_48) (fun _ h9 => h9) rfl dX0_codeOfOccurrence_6 ?_
      refine lv_icmp_ge (tgt := 37) hx hb dX0_codeOfOccurrence_9 (by decide) (fun c_4 => ?_) (fun c_4 => ?_)
      · have h := k_t c_4 h
        refine lv_ldc (v := 1000000) hx hb hown (hts _ q2_24) dX0_codeOfOccurrence_37 ?_
        have z0 := k_inj1 h
        rw [← z0]
        exact W.iret hx hb hr (fun t ht hWm => ⟨rfl, by rw [ht]; exact hW.1, hW.2.2.F ht⟩) hW.2.2.2.2 dX0_codeOfOccurrence_39
      · have h := k_f c_4 h
        refine lv_iload_n hx hb dX0_codeOfOccurrence_12 rfl (lv_at hl 2 rfl) ?_
        refine lv_aload_n hx hb dX0_codeOfOccurrence_13 rfl (lv_at hl 0 rfl) ?_
        refine lv_iload_n hx hb dX0_codeOfOccurrence_14 rfl (lv_at hl 3 rfl) ?_
        obtain ⟨r_6, h_5, h⟩ := k_bE1 h
        refine k_callV (C := RX0) (ws' := [(a_this, .inr (0, [.ref a_codes, .ref a_counts, .int size, .int total])), (a_codes, .inl (cA 0, n_codes, .inl codes)), (a_counts, .inl (cA 0, n_counts, .inl counts))]) (As := [.int x3]) (rest := [.int x2]) (b := a_this) (m_X0_countAt l D cA H.size a_this a_counts a_codes n_counts size total counts x3 r_6 h_5) hx hb hml hown hts hB hA hW hl.1 q2_28 q1_3 q2_26 q2_27 q2_25 pd_X0_countAt ⟨rfl, rfl, Nat.le_of_ble_eq_true rfl, Nat.le_of_ble_eq_true rfl⟩ rfl 0 rfl rfl [0, 2] [1] ⟨rfl, rfl, trivial⟩ rfl ⟨⟨rfl, rfl, trivial⟩, ⟨rfl, trivial⟩, rfl⟩ rfl rfl (Nat.le_of_ble_eq_true rfl) ⟨Nat.zero_le _, Nat.zero_le _⟩ dX0_codeOfOccurrence_15 (st1 := [.int r_6, .int x2]) rfl (fun H locs hW => ?_)
        refine lv_iadd hx hb dX0_codeOfOccurrence_18 ?_
        refine lv_topi (fun x_8 ex_8 => ?_)
        have h := k_letE ex_8 h
        refine lv_istore_n (lv' := [(2, .int x_8), (0, .ref a_this), (1, .int v1), (3, .int x3)]) hx hb dX0_codeOfOccurrence_19 rfl hl (by decide) rfl (fun ls hl => ?_)
        refine lv_iload_n hx hb dX0_codeOfOccurrence_20 rfl (lv_at hl 2 rfl) ?_
        refine lv_iload_n hx hb dX0_codeOfOccurrence_21 rfl (lv_at hl 0 rfl) ?_
        refine lv_icmp_ge (tgt := 31) hx hb dX0_codeOfOccurrence_22 (by decide) (fun c_9 => ?_) (fun c_9 => ?_)
        · have h := k_t c_9 h
          obtain ⟨x_10, ex_10⟩ : ∃ y : Int32, y = x3 + 1 := ⟨_, rfl⟩
          have h := k_letE ex_10 h
          refine lv_iinc (v := x_10) (lv' := [(3, .int x_10), (2, .int x_8), (0, .ref a_this), (1, .int v1)]) hx hb dX0_codeOfOccurrence_31 hl (k := 3) rfl (by rw [ex_10]; rfl) (by decide) rfl (fun ls hl => ?_)
          refine lv_goto (tgt := 4) hx hb dX0_codeOfOccurrence_34 (by decide) ?_
          exact ih4 x_8 x_10 H locs ls hW (lv_sub hl [2, 3, 1, 0] rfl) h
        · have h := k_f c_9 h
          exact J25 x3 H locs ls hW (lv_sub hl [1, 3] rfl) h
  refine lv_iconst (v := 0) hx hb dX0_codeOfOccurrence_0 (by decide) ?_
  refine lv_istore_n (lv' := [(2, .int 0), (0, .ref a_this), (1, .int v1)]) hx hb dX0_codeOfOccurrence_1 rfl hl (by decide) rfl (fun ls hl => ?_)
  refine lv_iconst (v := 0) hx hb dX0_codeOfOccurrence_2 (by decide) ?_
  refine lv_istore_n (lv' := [(3, .int 0), (2, .int 0), (0, .ref a_this), (1, .int v1)]) hx hb dX0_codeOfOccurrence_3 rfl hl (by decide) rfl (fun ls hl => ?_)
  exact J4 fu 0 0 H locs ls hW (lv_sub hl [2, 3, 1, 0] rfl) h
noncomputable def f_X0_openPlace (n_codes : Nat) (n_counts : Nat) (v1 : Int32) (v2 : Int32) (size : Int32) (codes : Nat → Int32) (counts : Nat → Int32) : Option (Int32 × (Nat → Int32) × (Nat → Int32)) := (if v1 < 0 then (some (size, codes, counts)) else (if size < v1 then (some (size, codes, counts)) else (if (nI n_codes) ≤ size then (some (size, codes, counts)) else (if (nI n_counts) ≤ size then (some (size, codes, counts)) else (if (¬ v1 < 0 ∧ ¬ (v1 + 1) < 0 ∧ ¬ (size - v1) < 0 ∧ v1.toNatClampNeg + (size - v1).toNatClampNeg ≤ n_codes ∧ (v1 + 1).toNatClampNeg + (size - v1).toNatClampNeg ≤ n_codes) then (if (¬ v1 < 0 ∧ ¬ (v1 + 1) < 0 ∧ ¬ (size - v1) < 0 ∧ v1.toNatClampNeg + (size - v1).toNatClampNeg ≤ n_counts ∧ (v1 + 1).toNatClampNeg + (size - v1).toNatClampNeg ≤ n_counts) then (if ¬ (v1 < 0 ∨ n_codes ≤ v1.toNatClampNeg) then (if ¬ (v1 < 0 ∨ n_counts ≤ v1.toNatClampNeg) then (some ((size + 1), (upd (va_cpy codes codes v1.toNatClampNeg (v1 + 1).toNatClampNeg (size - v1).toNatClampNeg) v1.toNatClampNeg v2), (upd (va_cpy counts counts v1.toNatClampNeg (v1 + 1).toNatClampNeg (size - v1).toNatClampNeg) v1.toNatClampNeg 0))) else none) else none) else none) else none)))))
abbrev rm_X0_openPlace : Room := { frames := 1, cells := 0, slots := 0, locals := 60 }
theorem pd_X0_openPlace : k_D1 yX0_openPlace 2 := by decide +kernel
set_option maxHeartbeats 4000000 in
set_option maxRecDepth 100000 in
theorem m_X0_openPlace (l : Launch) (D : va_G) (cA : Nat → ClassId) (sz : Nat) (a_this a_codes a_counts : Nat) (n_codes : Nat) (n_counts : Nat) (size : Int32) (total : Int32) (codes : Nat → Int32) (counts : Nat → Int32) (v1 : Int32) (v2 : Int32) (size' : Int32) (codes' : Nat → Int32) (counts' : Nat → Int32) (h : f_X0_openPlace n_codes n_counts v1 v2 size codes counts = some (size', codes', counts')) : k_M l yX0_openPlace prog_2_method_14_code 3 (none : Option Jvm.ClassFile.FieldType) rm_X0_openPlace D cA [.ref a_this, .int v1, .int v2] [(a_this, .inr (0, [.ref a_codes, .ref a_counts, .int size, .int total])), (a_codes, .inl (cA 0, n_codes, .inl codes)), (a_counts, .inl (cA 0, n_counts, .inl counts))] sz (none) [(a_this, .inr (0, [.ref a_codes, .ref a_counts, .int (size'), .int total])), (a_codes, .inl (cA 0, n_codes, .inl (codes'))), (a_counts, .inl (cA 0, n_counts, .inl (counts')))] := by
  refine k_ofW (by decide) (Nat.le_of_ble_eq_true rfl) ?_
  intro p e s m below meth c A ls hx hb hr hml hts hown hlocks hB hA hW hl
  have hl : lv_has ls 3 [(0, .ref a_this), (1, .int v1), (2, .int v2)] := hl
  obtain ⟨H, eH⟩ : ∃ H, H = s.heap := ⟨_, rfl⟩
  obtain ⟨locs, eL⟩ : ∃ L : List Loc, L = [] := ⟨_, rfl⟩
  have hW : k_Wd D A s.heap [(a_this, .inr (0, [.ref a_codes, .ref a_counts, .int size, .int total])), (a_codes, .inl (cA 0, n_codes, .inl codes)), (a_counts, .inl (cA 0, n_counts, .inl counts))] H locs := by rw [eH, eL]; exact hW
  suffices K : W p l e rm_X0_openPlace s m [.ref a_this, .int v1, .int v2].toArray below meth c H locs 0 0 (MQ below (k_Q (none) D [(a_this, .inr (0, [.ref a_codes, .ref a_counts, .int (size'), .int total])), (a_codes, .inl (cA 0, n_codes, .inl (codes'))), (a_counts, .inl (cA 0, n_counts, .inl (counts')))] A) [.ref a_this, .int v1, .int v2].toArray s 0 0 A) (F0 m 0 ls []) by rw [eH, eL] at K; exact K
  clear eH eL
  refine lv_iload_n hx hb dX0_openPlace_0 rfl (lv_at hl 1 rfl) ?_
  refine lv_if_lt (tgt := 102) hx hb dX0_openPlace_1 (by decide) (fun c_1 => ?_) (fun c_1 => ?_)
  · have h := k_t c_1 h
    obtain ⟨z0, z1, z2⟩ := k_inj3 h
    rw [← z0, ← z1, ← z2]
    exact W.vret hx hb hr (fun t ht hWm => ⟨rfl, by rw [ht]; exact hW.1, hW.2.2.F ht⟩) hW.2.2.2.2 dX0_openPlace_102
  · have h := k_f c_1 h
    refine lv_iload_n hx hb dX0_openPlace_4 rfl (lv_at hl 1 rfl) ?_
    refine lv_aload_n hx hb dX0_openPlace_5 rfl (lv_at hl 0 rfl) ?_
    refine va_get (D := D) (ci := 0) (v := .int size) (C := RX0) (T := TX0) (N := 4) hx hb hts iX0 hown hB.1 hW.1 0 rfl rfl 2 (by decide) (hts _ q1_48) (fun _ h9 => h9) rfl dX0_openPlace_6 ?_
    refine lv_icmp_gt (tgt := 102) hx hb dX0_openPlace_9 (by decide) (fun c_2 => ?_) (fun c_2 => ?_)
    · have h := k_t c_2 h
      obtain ⟨z0, z1, z2⟩ := k_inj3 h
      rw [← z0, ← z1, ← z2]
      exact W.vret hx hb hr (fun t ht hWm => ⟨rfl, by rw [ht]; exact hW.1, hW.2.2.F ht⟩) hW.2.2.2.2 dX0_openPlace_102
    · have h := k_f c_2 h
      refine lv_aload_n hx hb dX0_openPlace_12 rfl (lv_at hl 0 rfl) ?_
      refine va_get (D := D) (ci := 0) (v := .int size) (C := RX0) (T := TX0) (N := 4) hx hb hts iX0 hown hB.1 hW.1 0 rfl rfl 2 (by decide) (hts _ q1_48) (fun _ h9 => h9) rfl dX0_openPlace_13 ?_
      refine lv_aload_n hx hb dX0_openPlace_16 rfl (lv_at hl 0 rfl) ?_
      refine va_get (D := D) (ci := 0) (v := .ref a_codes) (C := RX0) (T := TX0) (N := 4) hx hb hts iX0 hown hB.1 hW.1 0 rfl rfl 0 (by decide) (hts _ q1_46) (fun _ h9 => h9) rfl dX0_openPlace_17 ?_
      refine va_alen hx hb hB.1 hW.1 1 0 rfl (v := nI n_codes) rfl rfl dX0_openPlace_20 ?_
      refine lv_icmp_ge (tgt := 102) hx hb dX0_openPlace_21 (by decide) (fun c_3 => ?_) (fun c_3 => ?_)
      · have h := k_t c_3 h
        obtain ⟨z0, z1, z2⟩ := k_inj3 h
        rw [← z0, ← z1, ← z2]
        exact W.vret hx hb hr (fun t ht hWm => ⟨rfl, by rw [ht]; exact hW.1, hW.2.2.F ht⟩) hW.2.2.2.2 dX0_openPlace_102
      · have h := k_f c_3 h
        refine lv_aload_n hx hb dX0_openPlace_24 rfl (lv_at hl 0 rfl) ?_
        refine va_get (D := D) (ci := 0) (v := .int size) (C := RX0) (T := TX0) (N := 4) hx hb hts iX0 hown hB.1 hW.1 0 rfl rfl 2 (by decide) (hts _ q1_48) (fun _ h9 => h9) rfl dX0_openPlace_25 ?_
        refine lv_aload_n hx hb dX0_openPlace_28 rfl (lv_at hl 0 rfl) ?_
        refine va_get (D := D) (ci := 0) (v := .ref a_counts) (C := RX0) (T := TX0) (N := 4) hx hb hts iX0 hown hB.1 hW.1 0 rfl rfl 1 (by decide) (hts _ q1_47) (fun _ h9 => h9) rfl dX0_openPlace_29 ?_
        refine va_alen hx hb hB.1 hW.1 2 0 rfl (v := nI n_counts) rfl rfl dX0_openPlace_32 ?_
        refine lv_icmp_ge (tgt := 102) hx hb dX0_openPlace_33 (by decide) (fun c_4 => ?_) (fun c_4 => ?_)
        · have h := k_t c_4 h
          obtain ⟨z0, z1, z2⟩ := k_inj3 h
          rw [← z0, ← z1, ← z2]
          exact W.vret hx hb hr (fun t ht hWm => ⟨rfl, by rw [ht]; exact hW.1, hW.2.2.F ht⟩) hW.2.2.2.2 dX0_openPlace_102
        · have h := k_f c_4 h
          refine lv_aload_n hx hb dX0_openPlace_36 rfl (lv_at hl 0 rfl) ?_
          refine va_get (D := D) (ci := 0) (v := .ref a_codes) (C := RX0) (T := TX0) (N := 4) hx hb hts iX0 hown hB.1 hW.1 0 rfl rfl 0 (by decide) (hts _ q1_46) (fun _ h9 => h9) rfl dX0_openPlace_37 ?_
          refine lv_iload_n hx hb dX0_openPlace_40 rfl (lv_at hl 1 rfl) ?_
          refine lv_aload_n hx hb dX0_openPlace_41 rfl (lv_at hl 0 rfl) ?_
          refine va_get (D := D) (ci := 0) (v := .ref a_codes) (C := RX0) (T := TX0) (N := 4) hx hb hts iX0 hown hB.1 hW.1 0 rfl rfl 0 (by decide) (hts _ q1_46) (fun _ h9 => h9) rfl dX0_openPlace_42 ?_
          refine lv_iload_n hx hb dX0_openPlace_45 rfl (lv_at hl 1 rfl) ?_
          refine lv_iconst (v := 1) hx hb dX0_openPlace_46 (by decide) ?_
          refine lv_iadd hx hb dX0_openPlace_47 ?_
          refine lv_aload_n hx hb dX0_openPlace_48 rfl (lv_at hl 0 rfl) ?_
          refine va_get (D := D) (ci := 0) (v := .int size) (C := RX0) (T := TX0) (N := 4) hx hb hts iX0 hown hB.1 hW.1 0 rfl rfl 2 (by decide) (hts _ q1_48) (fun _ h9 => h9) rfl dX0_openPlace_49 ?_
          refine lv_iload_n hx hb dX0_openPlace_52 rfl (lv_at hl 1 rfl) ?_
          refine lv_isub hx hb dX0_openPlace_53 ?_
          obtain ⟨c_5, h⟩ := k_g h
          refine va_copyi hx hb (hml.trans hl.1.symm) hown (hts _ q2_123) (hts _ q2_125) (hts _ q2_124) (hts _ q1_16) hB.1 hW.1 hW.2.1 hW.2.2 1 1 0 0 rfl rfl rfl rfl rfl c_5.1 c_5.2.1 c_5.2.2.1 c_5.2.2.2.1 c_5.2.2.2.2 (fun _ _ => rfl) (Nat.le_of_ble_eq_true rfl) (Nat.le_of_ble_eq_true rfl) dX0_openPlace_54 (fun H locs hP hD hS => ?_)
          have hW : k_Wd D A s.heap [(a_this, .inr (0, [.ref a_codes, .ref a_counts, .int size, .int total])), (a_codes, .inl (cA 0, n_codes, .inl (va_cpy codes codes v1.toNatClampNeg (v1 + 1).toNatClampNeg (size - v1).toNatClampNeg))), (a_counts, .inl (cA 0, n_counts, .inl counts))] H locs := ⟨hP, hD, hS⟩
          refine lv_aload_n hx hb dX0_openPlace_57 rfl (lv_at hl 0 rfl) ?_
          refine va_get (D := D) (ci := 0) (v := .ref a_counts) (C := RX0) (T := TX0) (N := 4) hx hb hts iX0 hown hB.1 hW.1 0 rfl rfl 1 (by decide) (hts _ q1_47) (fun _ h9 => h9) rfl dX0_openPlace_58 ?_
          refine lv_iload_n hx hb dX0_openPlace_61 rfl (lv_at hl 1 rfl) ?_
          refine lv_aload_n hx hb dX0_openPlace_62 rfl (lv_at hl 0 rfl) ?_
          refine va_get (D := D) (ci := 0) (v := .ref a_counts) (C := RX0) (T := TX0) (N := 4) hx hb hts iX0 hown hB.1 hW.1 0 rfl rfl 1 (by decide) (hts _ q1_47) (fun _ h9 => h9) rfl dX0_openPlace_63 ?_
          refine lv_iload_n hx hb dX0_openPlace_66 rfl (lv_at hl 1 rfl) ?_
          refine lv_iconst (v := 1) hx hb dX0_openPlace_67 (by decide) ?_
          refine lv_iadd hx hb dX0_openPlace_68 ?_
          refine lv_aload_n hx hb dX0_openPlace_69 rfl (lv_at hl 0 rfl) ?_
          refine va_get (D := D) (ci := 0) (v := .int size) (C := RX0) (T := TX0) (N := 4) hx hb hts iX0 hown hB.1 hW.1 0 rfl rfl 2 (by decide) (hts _ q1_48) (fun _ h9 => h9) rfl dX0_openPlace_70 ?_
          refine lv_iload_n hx hb dX0_openPlace_73 rfl (lv_at hl 1 rfl) ?_
          refine lv_isub hx hb dX0_openPlace_74 ?_
          obtain ⟨c_6, h⟩ := k_g h
          refine va_copyi hx hb (hml.trans hl.1.symm) hown (hts _ q2_123) (hts _ q2_125) (hts _ q2_124) (hts _ q1_16) hB.1 hW.1 hW.2.1 hW.2.2 2 2 0 0 rfl rfl rfl rfl rfl c_6.1 c_6.2.1 c_6.2.2.1 c_6.2.2.2.1 c_6.2.2.2.2 (fun _ _ => rfl) (Nat.le_of_ble_eq_true rfl) (Nat.le_of_ble_eq_true rfl) dX0_openPlace_75 (fun H locs hP hD hS => ?_)
          have hW : k_Wd D A s.heap [(a_this, .inr (0, [.ref a_codes, .ref a_counts, .int size, .int total])), (a_codes, .inl (cA 0, n_codes, .inl (va_cpy codes codes v1.toNatClampNeg (v1 + 1).toNatClampNeg (size - v1).toNatClampNeg))), (a_counts, .inl (cA 0, n_counts, .inl (va_cpy counts counts v1.toNatClampNeg (v1 + 1).toNatClampNeg (size - v1).toNatClampNeg)))] H locs := ⟨hP, hD, hS⟩
          refine lv_aload_n hx hb dX0_openPlace_78 rfl (lv_at hl 0 rfl) ?_
          refine va_get (D := D) (ci := 0) (v := .ref a_codes) (C := RX0) (T := TX0) (N := 4) hx hb hts iX0 hown hB.1 hW.1 0 rfl rfl 0 (by decide) (hts _ q1_46) (fun _ h9 => h9) rfl dX0_openPlace_79 ?_
          refine lv_iload_n hx hb dX0_openPlace_82 rfl (lv_at hl 1 rfl) ?_
          refine lv_iload_n hx hb dX0_openPlace_83 rfl (lv_at hl 2 rfl) ?_
          obtain ⟨c_7, h⟩ := k_g h
          refine va_iast hx hb hB.1 hW.1 hW.2.1 hW.2.2 1 0 rfl rfl c_7 dX0_openPlace_84 (fun H locs hP hD hS => ?_)
          have hW : k_Wd D A s.heap [(a_this, .inr (0, [.ref a_codes, .ref a_counts, .int size, .int total])), (a_codes, .inl (cA 0, n_codes, .inl (upd (va_cpy codes codes v1.toNatClampNeg (v1 + 1).toNatClampNeg (size - v1).toNatClampNeg) v1.toNatClampNeg v2))), (a_counts, .inl (cA 0, n_counts, .inl (va_cpy counts counts v1.toNatClampNeg (v1 + 1).toNatClampNeg (size - v1).toNatClampNeg)))] H locs := ⟨hP, hD, hS⟩
          refine lv_aload_n hx hb dX0_openPlace_85 rfl (lv_at hl 0 rfl) ?_
          refine va_get (D := D) (ci := 0) (v := .ref a_counts) (C := RX0) (T := TX0) (N := 4) hx hb hts iX0 hown hB.1 hW.1 0 rfl rfl 1 (by decide) (hts _ q1_47) (fun _ h9 => h9) rfl dX0_openPlace_86 ?_
          refine lv_iload_n hx hb dX0_openPlace_89 rfl (lv_at hl 1 rfl) ?_
          refine lv_iconst (v := 0) hx hb dX0_openPlace_90 (by decide) ?_
          obtain ⟨c_8, h⟩ := k_g h
          refine va_iast hx hb hB.1 hW.1 hW.2.1 hW.2.2 2 0 rfl rfl c_8 dX0_openPlace_91 (fun H locs hP hD hS => ?_)
          have hW : k_Wd D A s.heap [(a_this, .inr (0, [.ref a_codes, .ref a_counts, .int size, .int total])), (a_codes, .inl (cA 0, n_codes, .inl (upd (va_cpy codes codes v1.toNatClampNeg (v1 + 1).toNatClampNeg (size - v1).toNatClampNeg) v1.toNatClampNeg v2))), (a_counts, .inl (cA 0, n_counts, .inl (upd (va_cpy counts counts v1.toNatClampNeg (v1 + 1).toNatClampNeg (size - v1).toNatClampNeg) v1.toNatClampNeg 0)))] H locs := ⟨hP, hD, hS⟩
          refine lv_aload_n hx hb dX0_openPlace_92 rfl (lv_at hl 0 rfl) ?_
          refine lv_dup hx hb dX0_openPlace_93 rfl ?_
          refine va_get (D := D) (ci := 0) (v := .int size) (C := RX0) (T := TX0) (N := 4) hx hb hts iX0 hown hB.1 hW.1 0 rfl rfl 2 (by decide) (hts _ q1_48) (fun _ h9 => h9) rfl dX0_openPlace_94 ?_
          refine lv_iconst (v := 1) hx hb dX0_openPlace_97 (by decide) ?_
          refine lv_iadd hx hb dX0_openPlace_98 ?_
          refine va_put (D := D) (ci := 0) (v := .int (size + 1)) (ty := .int) (C := RX0) (T := TX0) (N := 4) hx hb hts iX0 tyX0 tyX0_ok nmX0 hown hB.1 hW.1 hW.2.1 hW.2.2 0 rfl rfl 2 (by decide) (hts _ q1_48) (fun _ h9 => h9) rfl (tyX0_ok 2 (by decide)) rfl rfl (Nat.le_of_ble_eq_true rfl) dX0_openPlace_99 (fun H locs hP hD hS => ?_)
          have hW : k_Wd D A s.heap [(a_this, .inr (0, [.ref a_codes, .ref a_counts, .int (size + 1), .int total])), (a_codes, .inl (cA 0, n_codes, .inl (upd (va_cpy codes codes v1.toNatClampNeg (v1 + 1).toNatClampNeg (size - v1).toNatClampNeg) v1.toNatClampNeg v2))), (a_counts, .inl (cA 0, n_counts, .inl (upd (va_cpy counts counts v1.toNatClampNeg (v1 + 1).toNatClampNeg (size - v1).toNatClampNeg) v1.toNatClampNeg 0)))] H locs := ⟨hP, hD, hS⟩
          obtain ⟨z0, z1, z2⟩ := k_inj3 h
          rw [← z0, ← z1, ← z2]
          exact W.vret hx hb hr (fun t ht hWm => ⟨rfl, by rw [ht]; exact hW.1, hW.2.2.F ht⟩) hW.2.2.2.2 dX0_openPlace_102
noncomputable def f_X0_closePlace (n_codes : Nat) (n_counts : Nat) (v1 : Int32) (size : Int32) (codes : Nat → Int32) (counts : Nat → Int32) : Option (Int32 × (Nat → Int32) × (Nat → Int32)) := (if v1 < 0 then (some (size, codes, counts)) else (if size ≤ v1 then (some (size, codes, counts)) else (if (nI n_codes) < size then (some (size, codes, counts)) else (if (nI n_counts) < size then (some (size, codes, counts)) else (if (¬ (v1 + 1) < 0 ∧ ¬ v1 < 0 ∧ ¬ ((size - v1) - 1) < 0 ∧ (v1 + 1).toNatClampNeg + ((size - v1) - 1).toNatClampNeg ≤ n_codes ∧ v1.toNatClampNeg + ((size - v1) - 1).toNatClampNeg ≤ n_codes) then (if (¬ (v1 + 1) < 0 ∧ ¬ v1 < 0 ∧ ¬ ((size - v1) - 1) < 0 ∧ (v1 + 1).toNatClampNeg + ((size - v1) - 1).toNatClampNeg ≤ n_counts ∧ v1.toNatClampNeg + ((size - v1) - 1).toNatClampNeg ≤ n_counts) then (some ((size - 1), (va_cpy codes codes (v1 + 1).toNatClampNeg v1.toNatClampNeg ((size - v1) - 1).toNatClampNeg), (va_cpy counts counts (v1 + 1).toNatClampNeg v1.toNatClampNeg ((size - v1) - 1).toNatClampNeg))) else none) else none)))))
abbrev rm_X0_closePlace : Room := { frames := 1, cells := 0, slots := 0, locals := 60 }
theorem pd_X0_closePlace : k_D1 yX0_closePlace 1 := by decide +kernel
set_option maxHeartbeats 4000000 in
set_option maxRecDepth 100000 in
theorem m_X0_closePlace (l : Launch) (D : va_G) (cA : Nat → ClassId) (sz : Nat) (a_this a_codes a_counts : Nat) (n_codes : Nat) (n_counts : Nat) (size : Int32) (total : Int32) (codes : Nat → Int32) (counts : Nat → Int32) (v1 : Int32) (size' : Int32) (codes' : Nat → Int32) (counts' : Nat → Int32) (h : f_X0_closePlace n_codes n_counts v1 size codes counts = some (size', codes', counts')) : k_M l yX0_closePlace prog_2_method_15_code 2 (none : Option Jvm.ClassFile.FieldType) rm_X0_closePlace D cA [.ref a_this, .int v1] [(a_this, .inr (0, [.ref a_codes, .ref a_counts, .int size, .int total])), (a_codes, .inl (cA 0, n_codes, .inl codes)), (a_counts, .inl (cA 0, n_counts, .inl counts))] sz (none) [(a_this, .inr (0, [.ref a_codes, .ref a_counts, .int (size'), .int total])), (a_codes, .inl (cA 0, n_codes, .inl (codes'))), (a_counts, .inl (cA 0, n_counts, .inl (counts')))] := by
  refine k_ofW (by decide) (Nat.le_of_ble_eq_true rfl) ?_
  intro p e s m below meth c A ls hx hb hr hml hts hown hlocks hB hA hW hl
  have hl : lv_has ls 2 [(0, .ref a_this), (1, .int v1)] := hl
  obtain ⟨H, eH⟩ : ∃ H, H = s.heap := ⟨_, rfl⟩
  obtain ⟨locs, eL⟩ : ∃ L : List Loc, L = [] := ⟨_, rfl⟩
  have hW : k_Wd D A s.heap [(a_this, .inr (0, [.ref a_codes, .ref a_counts, .int size, .int total])), (a_codes, .inl (cA 0, n_codes, .inl codes)), (a_counts, .inl (cA 0, n_counts, .inl counts))] H locs := by rw [eH, eL]; exact hW
  suffices K : W p l e rm_X0_closePlace s m [.ref a_this, .int v1].toArray below meth c H locs 0 0 (MQ below (k_Q (none) D [(a_this, .inr (0, [.ref a_codes, .ref a_counts, .int (size'), .int total])), (a_codes, .inl (cA 0, n_codes, .inl (codes'))), (a_counts, .inl (cA 0, n_counts, .inl (counts')))] A) [.ref a_this, .int v1].toArray s 0 0 A) (F0 m 0 ls []) by rw [eH, eL] at K; exact K
  clear eH eL
  refine lv_iload_n hx hb dX0_closePlace_0 rfl (lv_at hl 1 rfl) ?_
  refine lv_if_lt (tgt := 92) hx hb dX0_closePlace_1 (by decide) (fun c_1 => ?_) (fun c_1 => ?_)
  · have h := k_t c_1 h
    obtain ⟨z0, z1, z2⟩ := k_inj3 h
    rw [← z0, ← z1, ← z2]
    exact W.vret hx hb hr (fun t ht hWm => ⟨rfl, by rw [ht]; exact hW.1, hW.2.2.F ht⟩) hW.2.2.2.2 dX0_closePlace_92
  · have h := k_f c_1 h
    refine lv_iload_n hx hb dX0_closePlace_4 rfl (lv_at hl 1 rfl) ?_
    refine lv_aload_n hx hb dX0_closePlace_5 rfl (lv_at hl 0 rfl) ?_
    refine va_get (D := D) (ci := 0) (v := .int size) (C := RX0) (T := TX0) (N := 4) hx hb hts iX0 hown hB.1 hW.1 0 rfl rfl 2 (by decide) (hts _ q1_48) (fun _ h9 => h9) rfl dX0_closePlace_6 ?_
    refine lv_icmp_ge (tgt := 92) hx hb dX0_closePlace_9 (by decide) (fun c_2 => ?_) (fun c_2 => ?_)
    · have h := k_t c_2 h
      obtain ⟨z0, z1, z2⟩ := k_inj3 h
      rw [← z0, ← z1, ← z2]
      exact W.vret hx hb hr (fun t ht hWm => ⟨rfl, by rw [ht]; exact hW.1, hW.2.2.F ht⟩) hW.2.2.2.2 dX0_closePlace_92
    · have h := k_f c_2 h
      refine lv_aload_n hx hb dX0_closePlace_12 rfl (lv_at hl 0 rfl) ?_
      refine va_get (D := D) (ci := 0) (v := .int size) (C := RX0) (T := TX0) (N := 4) hx hb hts iX0 hown hB.1 hW.1 0 rfl rfl 2 (by decide) (hts _ q1_48) (fun _ h9 => h9) rfl dX0_closePlace_13 ?_
      refine lv_aload_n hx hb dX0_closePlace_16 rfl (lv_at hl 0 rfl) ?_
      refine va_get (D := D) (ci := 0) (v := .ref a_codes) (C := RX0) (T := TX0) (N := 4) hx hb hts iX0 hown hB.1 hW.1 0 rfl rfl 0 (by decide) (hts _ q1_46) (fun _ h9 => h9) rfl dX0_closePlace_17 ?_
      refine va_alen hx hb hB.1 hW.1 1 0 rfl (v := nI n_codes) rfl rfl dX0_closePlace_20 ?_
      refine lv_icmp_gt (tgt := 92) hx hb dX0_closePlace_21 (by decide) (fun c_3 => ?_) (fun c_3 => ?_)
      · have h := k_t c_3 h
        obtain ⟨z0, z1, z2⟩ := k_inj3 h
        rw [← z0, ← z1, ← z2]
        exact W.vret hx hb hr (fun t ht hWm => ⟨rfl, by rw [ht]; exact hW.1, hW.2.2.F ht⟩) hW.2.2.2.2 dX0_closePlace_92
      · have h := k_f c_3 h
        refine lv_aload_n hx hb dX0_closePlace_24 rfl (lv_at hl 0 rfl) ?_
        refine va_get (D := D) (ci := 0) (v := .int size) (C := RX0) (T := TX0) (N := 4) hx hb hts iX0 hown hB.1 hW.1 0 rfl rfl 2 (by decide) (hts _ q1_48) (fun _ h9 => h9) rfl dX0_closePlace_25 ?_
        refine lv_aload_n hx hb dX0_closePlace_28 rfl (lv_at hl 0 rfl) ?_
        refine va_get (D := D) (ci := 0) (v := .ref a_counts) (C := RX0) (T := TX0) (N := 4) hx hb hts iX0 hown hB.1 hW.1 0 rfl rfl 1 (by decide) (hts _ q1_47) (fun _ h9 => h9) rfl dX0_closePlace_29 ?_
        refine va_alen hx hb hB.1 hW.1 2 0 rfl (v := nI n_counts) rfl rfl dX0_closePlace_32 ?_
        refine lv_icmp_gt (tgt := 92) hx hb dX0_closePlace_33 (by decide) (fun c_4 => ?_) (fun c_4 => ?_)
        · have h := k_t c_4 h
          obtain ⟨z0, z1, z2⟩ := k_inj3 h
          rw [← z0, ← z1, ← z2]
          exact W.vret hx hb hr (fun t ht hWm => ⟨rfl, by rw [ht]; exact hW.1, hW.2.2.F ht⟩) hW.2.2.2.2 dX0_closePlace_92
        · have h := k_f c_4 h
          refine lv_aload_n hx hb dX0_closePlace_36 rfl (lv_at hl 0 rfl) ?_
          refine va_get (D := D) (ci := 0) (v := .ref a_codes) (C := RX0) (T := TX0) (N := 4) hx hb hts iX0 hown hB.1 hW.1 0 rfl rfl 0 (by decide) (hts _ q1_46) (fun _ h9 => h9) rfl dX0_closePlace_37 ?_
          refine lv_iload_n hx hb dX0_closePlace_40 rfl (lv_at hl 1 rfl) ?_
          refine lv_iconst (v := 1) hx hb dX0_closePlace_41 (by decide) ?_
          refine lv_iadd hx hb dX0_closePlace_42 ?_
          refine lv_aload_n hx hb dX0_closePlace_43 rfl (lv_at hl 0 rfl) ?_
          refine va_get (D := D) (ci := 0) (v := .ref a_codes) (C := RX0) (T := TX0) (N := 4) hx hb hts iX0 hown hB.1 hW.1 0 rfl rfl 0 (by decide) (hts _ q1_46) (fun _ h9 => h9) rfl dX0_closePlace_44 ?_
          refine lv_iload_n hx hb dX0_closePlace_47 rfl (lv_at hl 1 rfl) ?_
          refine lv_aload_n hx hb dX0_closePlace_48 rfl (lv_at hl 0 rfl) ?_
          refine va_get (D := D) (ci := 0) (v := .int size) (C := RX0) (T := TX0) (N := 4) hx hb hts iX0 hown hB.1 hW.1 0 rfl rfl 2 (by decide) (hts _ q1_48) (fun _ h9 => h9) rfl dX0_closePlace_49 ?_
          refine lv_iload_n hx hb dX0_closePlace_52 rfl (lv_at hl 1 rfl) ?_
          refine lv_isub hx hb dX0_closePlace_53 ?_
          refine lv_iconst (v := 1) hx hb dX0_closePlace_54 (by decide) ?_
          refine lv_isub hx hb dX0_closePlace_55 ?_
          obtain ⟨c_5, h⟩ := k_g h
          refine va_copyi hx hb (hml.trans hl.1.symm) hown (hts _ q2_123) (hts _ q2_125) (hts _ q2_124) (hts _ q1_16) hB.1 hW.1 hW.2.1 hW.2.2 1 1 0 0 rfl rfl rfl rfl rfl c_5.1 c_5.2.1 c_5.2.2.1 c_5.2.2.2.1 c_5.2.2.2.2 (fun _ _ => rfl) (Nat.le_of_ble_eq_true rfl) (Nat.le_of_ble_eq_true rfl) dX0_closePlace_56 (fun H locs hP hD hS => ?_)
          have hW : k_Wd D A s.heap [(a_this, .inr (0, [.ref a_codes, .ref a_counts, .int size, .int total])), (a_codes, .inl (cA 0, n_codes, .inl (va_cpy codes codes (v1 + 1).toNatClampNeg v1.toNatClampNeg ((size - v1) - 1).toNatClampNeg))), (a_counts, .inl (cA 0, n_counts, .inl counts))] H locs := ⟨hP, hD, hS⟩
          refine lv_aload_n hx hb dX0_closePlace_59 rfl (lv_at hl 0 rfl) ?_
          refine va_get (D := D) (ci := 0) (v := .ref a_counts) (C := RX0) (T := TX0) (N := 4) hx hb hts iX0 hown hB.1 hW.1 0 rfl rfl 1 (by decide) (hts _ q1_47) (fun _ h9 => h9) rfl dX0_closePlace_60 ?_
          refine lv_iload_n hx hb dX0_closePlace_63 rfl (lv_at hl 1 rfl) ?_
          refine lv_iconst (v := 1) hx hb dX0_closePlace_64 (by decide) ?_
          refine lv_iadd hx hb dX0_closePlace_65 ?_
          refine lv_aload_n hx hb dX0_closePlace_66 rfl (lv_at hl 0 rfl) ?_
          refine va_get (D := D) (ci := 0) (v := .ref a_counts) (C := RX0) (T := TX0) (N := 4) hx hb hts iX0 hown hB.1 hW.1 0 rfl rfl 1 (by decide) (hts _ q1_47) (fun _ h9 => h9) rfl dX0_closePlace_67 ?_
          refine lv_iload_n hx hb dX0_closePlace_70 rfl (lv_at hl 1 rfl) ?_
          refine lv_aload_n hx hb dX0_closePlace_71 rfl (lv_at hl 0 rfl) ?_
          refine va_get (D := D) (ci := 0) (v := .int size) (C := RX0) (T := TX0) (N := 4) hx hb hts iX0 hown hB.1 hW.1 0 rfl rfl 2 (by decide) (hts _ q1_48) (fun _ h9 => h9) rfl dX0_closePlace_72 ?_
          refine lv_iload_n hx hb dX0_closePlace_75 rfl (lv_at hl 1 rfl) ?_
          refine lv_isub hx hb dX0_closePlace_76 ?_
          refine lv_iconst (v := 1) hx hb dX0_closePlace_77 (by decide) ?_
          refine lv_isub hx hb dX0_closePlace_78 ?_
          obtain ⟨c_6, h⟩ := k_g h
          refine va_copyi hx hb (hml.trans hl.1.symm) hown (hts _ q2_123) (hts _ q2_125) (hts _ q2_124) (hts _ q1_16) hB.1 hW.1 hW.2.1 hW.2.2 2 2 0 0 rfl rfl rfl rfl rfl c_6.1 c_6.2.1 c_6.2.2.1 c_6.2.2.2.1 c_6.2.2.2.2 (fun _ _ => rfl) (Nat.le_of_ble_eq_true rfl) (Nat.le_of_ble_eq_true rfl) dX0_closePlace_79 (fun H locs hP hD hS => ?_)
          have hW : k_Wd D A s.heap [(a_this, .inr (0, [.ref a_codes, .ref a_counts, .int size, .int total])), (a_codes, .inl (cA 0, n_codes, .inl (va_cpy codes codes (v1 + 1).toNatClampNeg v1.toNatClampNeg ((size - v1) - 1).toNatClampNeg))), (a_counts, .inl (cA 0, n_counts, .inl (va_cpy counts counts (v1 + 1).toNatClampNeg v1.toNatClampNeg ((size - v1) - 1).toNatClampNeg)))] H locs := ⟨hP, hD, hS⟩
          refine lv_aload_n hx hb dX0_closePlace_82 rfl (lv_at hl 0 rfl) ?_
          refine lv_dup hx hb dX0_closePlace_83 rfl ?_
          refine va_get (D := D) (ci := 0) (v := .int size) (C := RX0) (T := TX0) (N := 4) hx hb hts iX0 hown hB.1 hW.1 0 rfl rfl 2 (by decide) (hts _ q1_48) (fun _ h9 => h9) rfl dX0_closePlace_84 ?_
          refine lv_iconst (v := 1) hx hb dX0_closePlace_87 (by decide) ?_
          refine lv_isub hx hb dX0_closePlace_88 ?_
          refine va_put (D := D) (ci := 0) (v := .int (size - 1)) (ty := .int) (C := RX0) (T := TX0) (N := 4) hx hb hts iX0 tyX0 tyX0_ok nmX0 hown hB.1 hW.1 hW.2.1 hW.2.2 0 rfl rfl 2 (by decide) (hts _ q1_48) (fun _ h9 => h9) rfl (tyX0_ok 2 (by decide)) rfl rfl (Nat.le_of_ble_eq_true rfl) dX0_closePlace_89 (fun H locs hP hD hS => ?_)
          have hW : k_Wd D A s.heap [(a_this, .inr (0, [.ref a_codes, .ref a_counts, .int (size - 1), .int total])), (a_codes, .inl (cA 0, n_codes, .inl (va_cpy codes codes (v1 + 1).toNatClampNeg v1.toNatClampNeg ((size - v1) - 1).toNatClampNeg))), (a_counts, .inl (cA 0, n_counts, .inl (va_cpy counts counts (v1 + 1).toNatClampNeg v1.toNatClampNeg ((size - v1) - 1).toNatClampNeg)))] H locs := ⟨hP, hD, hS⟩
          obtain ⟨z0, z1, z2⟩ := k_inj3 h
          rw [← z0, ← z1, ← z2]
          exact W.vret hx hb hr (fun t ht hWm => ⟨rfl, by rw [ht]; exact hW.1, hW.2.2.F ht⟩) hW.2.2.2.2 dX0_closePlace_92
noncomputable def f_X0_add_21 (fu : Nat) (n_codes : Nat) (n_counts : Nat) (v1 : Int32) (v2 : Int32) (x3 : Int32) (size : Int32) (total : Int32) (codes : Nat → Int32) (counts : Nat → Int32) : Option (Int32 × Int32 × (Nat → Int32) × (Nat → Int32)) := (k_b1 (f_X0_codeAt n_codes size codes x3) fun r_2 => (if r_2 = v1 then (if x3 < 0 then (some (size, total, codes, counts)) else (if x3 < (nI n_counts) then (if ¬ (x3 < 0 ∨ n_counts ≤ x3.toNatClampNeg) then k_let (counts x3.toNatClampNeg) fun x_8 => (if ¬ (x3 < 0 ∨ n_counts ≤ x3.toNatClampNeg) then (if ¬ (x3 < 0 ∨ n_counts ≤ x3.toNatClampNeg) then k_let ((upd counts x3.toNatClampNeg (x_8 + v2)) x3.toNatClampNeg) fun x_11 => (if x_11 = 0 then (k_b3 (f_X0_closePlace n_codes n_counts x3 size codes (upd counts x3.toNatClampNeg (x_8 + v2))) fun size__14 codes__15 counts__16 => (some (size__14, (total + v2), codes__15, counts__16))) else (some (size, (total + v2), codes, (upd counts x3.toNatClampNeg (x_8 + v2))))) else none) else none) else none) else (some (size, total, codes, counts)))) else (some (size, total, codes, counts))))
noncomputable def f_X0_add (fu : Nat) (n_codes : Nat) (n_counts : Nat) (v1 : Int32) (v2 : Int32) (size : Int32) (total : Int32) (codes : Nat → Int32) (counts : Nat → Int32) : Option (Int32 × Int32 × (Nat → Int32) × (Nat → Int32)) := (k_b1 (f_X0_firstNotLess fu n_codes size codes v1) fun r_19 => (k_b1 (f_X0_codeAt n_codes size codes r_19) fun r_22 => (if r_22 = v1 then ((f_X0_add_21 fu n_codes n_counts v1 v2 r_19 size total codes counts)) else (k_b3 (f_X0_openPlace n_codes n_counts r_19 v1 size codes counts) fun size__26 codes__27 counts__28 => ((f_X0_add_21 fu n_codes n_counts v1 v2 r_19 size__26 total codes__27 counts__28))))))
abbrev rm_X0_add : Room := { frames := 2, cells := 0, slots := 0, locals := 82 }
theorem pd_X0_add : k_D1 yX0_add 2 := by decide +kernel
set_option maxHeartbeats 4000000 in
set_option maxRecDepth 100000 in
theorem m_X0_add (l : Launch) (D : va_G) (cA : Nat → ClassId) (sz : Nat) (a_this a_codes a_counts : Nat) (fu : Nat) (n_codes : Nat) (n_counts : Nat) (size : Int32) (total : Int32) (codes : Nat → Int32) (counts : Nat → Int32) (v1 : Int32) (v2 : Int32) (size' : Int32) (total' : Int32) (codes' : Nat → Int32) (counts' : Nat → Int32) (h : f_X0_add fu n_codes n_counts v1 v2 size total codes counts = some (size', total', codes', counts')) : k_M l yX0_add prog_2_method_9_code 4 (none : Option Jvm.ClassFile.FieldType) rm_X0_add D cA [.ref a_this, .int v1, .int v2] [(a_this, .inr (0, [.ref a_codes, .ref a_counts, .int size, .int total])), (a_codes, .inl (cA 0, n_codes, .inl codes)), (a_counts, .inl (cA 0, n_counts, .inl counts))] sz (none) [(a_this, .inr (0, [.ref a_codes, .ref a_counts, .int (size'), .int (total')])), (a_codes, .inl (cA 0, n_codes, .inl (codes'))), (a_counts, .inl (cA 0, n_counts, .inl (counts')))] := by
  refine k_ofW (by decide) (Nat.le_of_ble_eq_true rfl) ?_
  intro p e s m below meth c A ls hx hb hr hml hts hown hlocks hB hA hW hl
  have hl : lv_has ls 4 [(0, .ref a_this), (1, .int v1), (2, .int v2)] := hl
  obtain ⟨H, eH⟩ : ∃ H, H = s.heap := ⟨_, rfl⟩
  obtain ⟨locs, eL⟩ : ∃ L : List Loc, L = [] := ⟨_, rfl⟩
  have hW : k_Wd D A s.heap [(a_this, .inr (0, [.ref a_codes, .ref a_counts, .int size, .int total])), (a_codes, .inl (cA 0, n_codes, .inl codes)), (a_counts, .inl (cA 0, n_counts, .inl counts))] H locs := by rw [eH, eL]; exact hW
  suffices K : W p l e rm_X0_add s m [.ref a_this, .int v1, .int v2].toArray below meth c H locs 0 0 (MQ below (k_Q (none) D [(a_this, .inr (0, [.ref a_codes, .ref a_counts, .int (size'), .int (total')])), (a_codes, .inl (cA 0, n_codes, .inl (codes'))), (a_counts, .inl (cA 0, n_counts, .inl (counts')))] A) [.ref a_this, .int v1, .int v2].toArray s 0 0 A) (F0 m 0 ls []) by rw [eH, eL] at K; exact K
  clear eH eL
  have J21 : ∀ (x3 : Int32) (size : Int32) (total : Int32) (codes : Nat → Int32) (counts : Nat → Int32) (H : Heap) (locs : List Loc) (ls : Array Slot), k_Wd D A s.heap [(a_this, .inr (0, [.ref a_codes, .ref a_counts, .int size, .int total])), (a_codes, .inl (cA 0, n_codes, .inl codes)), (a_counts, .inl (cA 0, n_counts, .inl counts))] H locs → lv_has ls 4 [(0, .ref a_this), (1, .int v1), (2, .int v2), (3, .int x3)] → f_X0_add_21 fu n_codes n_counts v1 v2 x3 size total codes counts = some (size', total', codes', counts') → W p l e rm_X0_add s m [.ref a_this, .int v1, .int v2].toArray below meth c H locs 0 0 (MQ below (k_Q (none) D [(a_this, .inr (0, [.ref a_codes, .ref a_counts, .int (size'), .int (total')])), (a_codes, .inl (cA 0, n_codes, .inl (codes'))), (a_counts, .inl (cA 0, n_counts, .inl (counts')))] A) [.ref a_this, .int v1, .int v2].toArray s 0 0 A) (F0 m 21 ls []) := by
    intro x3 size total codes counts H locs ls hW hl h
    refine lv_aload_n hx hb dX0_add_21 rfl (lv_at hl 0 rfl) ?_
    refine lv_iload_n hx hb dX0_add_22 rfl (lv_at hl 3 rfl) ?_
    obtain ⟨r_2, h_1, h⟩ := k_bE1 h
    refine k_callV (C := RX0) (ws' := [(a_this, .inr (0, [.ref a_codes, .ref a_counts, .int size, .int total])), (a_codes, .inl (cA 0, n_codes, .inl codes)), (a_counts, .inl (cA 0, n_counts, .inl counts))]) (As := [.int x3]) (rest := []) (b := a_this) (m_X0_codeAt l D cA H.size a_this a_codes a_counts n_codes size total codes x3 r_2 h_1) hx hb hml hown hts hB hA hW hl.1 q2_23 q1_3 q2_21 q2_22 q2_20 pd_X0_codeAt ⟨rfl, rfl, Nat.le_of_ble_eq_true rfl, Nat.le_of_ble_eq_true rfl⟩ rfl 0 rfl rfl [0, 1] [2] ⟨rfl, rfl, trivial⟩ rfl ⟨⟨rfl, rfl, trivial⟩, ⟨rfl, trivial⟩, rfl⟩ rfl rfl (Nat.le_of_ble_eq_true rfl) ⟨Nat.zero_le _, Nat.zero_le _⟩ dX0_add_23 (st1 := [.int r_2]) rfl (fun H locs hW => ?_)
    refine lv_iload_n hx hb dX0_add_26 rfl (lv_at hl 1 rfl) ?_
    refine lv_icmp_ne (tgt := 43) hx hb dX0_add_27 (by decide) (fun c_4 => ?_) (fun c_4 => ?_)
    · have h := k_f c_4 h
      obtain ⟨z0, z1, z2, z3⟩ := k_inj4 h
      rw [← z0, ← z1, ← z2, ← z3]
      exact W.vret hx hb hr (fun t ht hWm => ⟨rfl, by rw [ht]; exact hW.1, hW.2.2.F ht⟩) hW.2.2.2.2 dX0_add_43
    · have h := k_t c_4 h
      refine lv_iload_n hx hb dX0_add_30 rfl (lv_at hl 3 rfl) ?_
      refine lv_if_lt (tgt := 43) hx hb dX0_add_31 (by decide) (fun c_5 => ?_) (fun c_5 => ?_)
      · have h := k_t c_5 h
        obtain ⟨z0, z1, z2, z3⟩ := k_inj4 h
        rw [← z0, ← z1, ← z2, ← z3]
        exact W.vret hx hb hr (fun t ht hWm => ⟨rfl, by rw [ht]; exact hW.1, hW.2.2.F ht⟩) hW.2.2.2.2 dX0_add_43
      · have h := k_f c_5 h
        refine lv_iload_n hx hb dX0_add_34 rfl (lv_at hl 3 rfl) ?_
        refine lv_aload_n hx hb dX0_add_35 rfl (lv_at hl 0 rfl) ?_
        refine va_get (D := D) (ci := 0) (v := .ref a_counts) (C := RX0) (T := TX0) (N := 4) hx hb hts iX0 hown hB.1 hW.1 0 rfl rfl 1 (by decide) (hts _ q1_47) (fun _ h9 => h9) rfl dX0_add_36 ?_
        refine va_alen hx hb hB.1 hW.1 2 0 rfl (v := nI n_counts) rfl rfl dX0_add_39 ?_
        refine lv_icmp_lt (tgt := 44) hx hb dX0_add_40 (by decide) (fun c_6 => ?_) (fun c_6 => ?_)
        · have h := k_t c_6 h
          refine lv_aload_n hx hb dX0_add_44 rfl (lv_at hl 0 rfl) ?_
          refine va_get (D := D) (ci := 0) (v := .ref a_counts) (C := RX0) (T := TX0) (N := 4) hx hb hts iX0 hown hB.1 hW.1 0 rfl rfl 1 (by decide) (hts _ q1_47) (fun _ h9 => h9) rfl dX0_add_45 ?_
          refine lv_iload_n hx hb dX0_add_48 rfl (lv_at hl 3 rfl) ?_
          refine lv_dup2_11 hx hb dX0_add_49 rfl rfl ?_
          obtain ⟨c_7, h⟩ := k_g h
          refine va_iald hx hb hB.1 hW.1 2 0 rfl rfl c_7 dX0_add_50 ?_
          refine lv_topi (fun x_8 ex_8 => ?_)
          have h := k_letE ex_8 h
          refine lv_iload_n hx hb dX0_add_51 rfl (lv_at hl 2 rfl) ?_
          refine lv_iadd hx hb dX0_add_52 ?_
          obtain ⟨c_9, h⟩ := k_g h
          refine va_iast hx hb hB.1 hW.1 hW.2.1 hW.2.2 2 0 rfl rfl c_9 dX0_add_53 (fun H locs hP hD hS => ?_)
          have hW : k_Wd D A s.heap [(a_this, .inr (0, [.ref a_codes, .ref a_counts, .int size, .int total])), (a_codes, .inl (cA 0, n_codes, .inl codes)), (a_counts, .inl (cA 0, n_counts, .inl (upd counts x3.toNatClampNeg (x_8 + v2))))] H locs := ⟨hP, hD, hS⟩
          refine lv_aload_n hx hb dX0_add_54 rfl (lv_at hl 0 rfl) ?_
          refine lv_dup hx hb dX0_add_55 rfl ?_
          refine va_get (D := D) (ci := 0) (v := .int total) (C := RX0) (T := TX0) (N := 4) hx hb hts iX0 hown hB.1 hW.1 0 rfl rfl 3 (by decide) (hts _ q1_49) (fun _ h9 => h9) rfl dX0_add_56 ?_
          refine lv_iload_n hx hb dX0_add_59 rfl (lv_at hl 2 rfl) ?_
          refine lv_iadd hx hb dX0_add_60 ?_
          refine va_put (D := D) (ci := 0) (v := .int (total + v2)) (ty := .int) (C := RX0) (T := TX0) (N := 4) hx hb hts iX0 tyX0 tyX0_ok nmX0 hown hB.1 hW.1 hW.2.1 hW.2.2 0 rfl rfl 3 (by decide) (hts _ q1_49) (fun _ h9 => h9) rfl (tyX0_ok 3 (by decide)) rfl rfl (Nat.le_of_ble_eq_true rfl) dX0_add_61 (fun H locs hP hD hS => ?_)
          have hW : k_Wd D A s.heap [(a_this, .inr (0, [.ref a_codes, .ref a_counts, .int size, .int (total + v2)])), (a_codes, .inl (cA 0, n_codes, .inl codes)), (a_counts, .inl (cA 0, n_counts, .inl (upd counts x3.toNatClampNeg (x_8 + v2))))] H locs := ⟨hP, hD, hS⟩
          refine lv_aload_n hx hb dX0_add_64 rfl (lv_at hl 0 rfl) ?_
          refine va_get (D := D) (ci := 0) (v := .ref a_counts) (C := RX0) (T := TX0) (N := 4) hx hb hts iX0 hown hB.1 hW.1 0 rfl rfl 1 (by decide) (hts _ q1_47) (fun _ h9 => h9) rfl dX0_add_65 ?_
          refine lv_iload_n hx hb dX0_add_68 rfl (lv_at hl 3 rfl) ?_
          obtain ⟨c_10, h⟩ := k_g h
          refine va_iald hx hb hB.1 hW.1 2 0 rfl rfl c_10 dX0_add_69 ?_
          refine lv_topi (fun x_11 ex_11 => ?_)
          have h := k_letE ex_11 h
          refine lv_if_ne (tgt := 78) hx hb dX0_add_70 (by decide) (fun c_12 => ?_) (fun c_12 => ?_)
          · have h := k_f c_12 h
            obtain ⟨z0, z1, z2, z3⟩ := k_inj4 h
            rw [← z0, ← z1, ← z2, ← z3]
            exact W.vret hx hb hr (fun t ht hWm => ⟨rfl, by rw [ht]; exact hW.1, hW.2.2.F ht⟩) hW.2.2.2.2 dX0_add_78
          · have h := k_t c_12 h
            refine lv_aload_n hx hb dX0_add_73 rfl (lv_at hl 0 rfl) ?_
            refine lv_iload_n hx hb dX0_add_74 rfl (lv_at hl 3 rfl) ?_
            obtain ⟨size__14, codes__15, counts__16, h_13, h⟩ := k_bE3 h
            refine k_callV (C := RX0) (ws' := [(a_this, .inr (0, [.ref a_codes, .ref a_counts, .int size__14, .int (total + v2)])), (a_codes, .inl (cA 0, n_codes, .inl codes__15)), (a_counts, .inl (cA 0, n_counts, .inl counts__16))]) (As := [.int x3]) (rest := []) (b := a_this) (m_X0_closePlace l D cA H.size a_this a_codes a_counts n_codes n_counts size (total + v2) codes (upd counts x3.toNatClampNeg (x_8 + v2)) x3 size__14 codes__15 counts__16 h_13) hx hb hml hown hts hB hA hW hl.1 q2_129 q1_3 q2_128 qs_yX0_closePlace q2_126 pd_X0_closePlace ⟨rfl, rfl, Nat.le_of_ble_eq_true rfl, Nat.le_of_ble_eq_true rfl⟩ rfl 0 rfl rfl [0, 1, 2] [] ⟨rfl, rfl, rfl, trivial⟩ rfl ⟨⟨rfl, rfl, rfl, trivial⟩, trivial, rfl⟩ rfl rfl (Nat.le_of_ble_eq_true rfl) ⟨Nat.zero_le _, Nat.zero_le _⟩ dX0_add_75 (st1 := []) rfl (fun H locs hW => ?_)
            obtain ⟨z0, z1, z2, z3⟩ := k_inj4 h
            rw [← z0, ← z1, ← z2, ← z3]
            exact W.vret hx hb hr (fun t ht hWm => ⟨rfl, by rw [ht]; exact hW.1, hW.2.2.F ht⟩) hW.2.2.2.2 dX0_add_78
        · have h := k_f c_6 h
          obtain ⟨z0, z1, z2, z3⟩ := k_inj4 h
          rw [← z0, ← z1, ← z2, ← z3]
          exact W.vret hx hb hr (fun t ht hWm => ⟨rfl, by rw [ht]; exact hW.1, hW.2.2.F ht⟩) hW.2.2.2.2 dX0_add_43
  refine lv_aload_n hx hb dX0_add_0 rfl (lv_at hl 0 rfl) ?_
  refine lv_iload_n hx hb dX0_add_1 rfl (lv_at hl 1 rfl) ?_
  obtain ⟨r_19, h_18, h⟩ := k_bE1 h
  refine k_callV (C := RX0) (ws' := [(a_this, .inr (0, [.ref a_codes, .ref a_counts, .int size, .int total])), (a_codes, .inl (cA 0, n_codes, .inl codes)), (a_counts, .inl (cA 0, n_counts, .inl counts))]) (As := [.int v1]) (rest := []) (b := a_this) (m_X0_firstNotLess l D cA H.size a_this a_codes a_counts fu n_codes size total codes v1 r_19 h_18) hx hb hml hown hts hB hA hW hl.1 q2_87 q1_3 q2_85 q2_86 q2_118 pd_X0_firstNotLess ⟨rfl, rfl, Nat.le_of_ble_eq_true rfl, Nat.le_of_ble_eq_true rfl⟩ rfl 0 rfl rfl [0, 1] [2] ⟨rfl, rfl, trivial⟩ rfl ⟨⟨rfl, rfl, trivial⟩, ⟨rfl, trivial⟩, rfl⟩ rfl rfl (Nat.le_of_ble_eq_true rfl) ⟨Nat.zero_le _, Nat.zero_le _⟩ dX0_add_2 (st1 := [.int r_19]) rfl (fun H locs hW => ?_)
  refine lv_istore_n (lv' := [(3, .int r_19), (0, .ref a_this), (1, .int v1), (2, .int v2)]) hx hb dX0_add_5 rfl hl (by decide) rfl (fun ls hl => ?_)
  refine lv_aload_n hx hb dX0_add_6 rfl (lv_at hl 1 rfl) ?_
  refine lv_iload_n hx hb dX0_add_7 rfl (lv_at hl 0 rfl) ?_
  obtain ⟨r_22, h_21, h⟩ := k_bE1 h
  refine k_callV (C := RX0) (ws' := [(a_this, .inr (0, [.ref a_codes, .ref a_counts, .int size, .int total])), (a_codes, .inl (cA 0, n_codes, .inl codes)), (a_counts, .inl (cA 0, n_counts, .inl counts))]) (As := [.int r_19]) (rest := []) (b := a_this) (m_X0_codeAt l D cA H.size a_this a_codes a_counts n_codes size total codes r_19 r_22 h_21) hx hb hml hown hts hB hA hW hl.1 q2_23 q1_3 q2_21 q2_22 q2_20 pd_X0_codeAt ⟨rfl, rfl, Nat.le_of_ble_eq_true rfl, Nat.le_of_ble_eq_true rfl⟩ rfl 0 rfl rfl [0, 1] [2] ⟨rfl, rfl, trivial⟩ rfl ⟨⟨rfl, rfl, trivial⟩, ⟨rfl, trivial⟩, rfl⟩ rfl rfl (Nat.le_of_ble_eq_true rfl) ⟨Nat.zero_le _, Nat.zero_le _⟩ dX0_add_8 (st1 := [.int r_22]) rfl (fun H locs hW => ?_)
  refine lv_iload_n hx hb dX0_add_11 rfl (lv_at hl 2 rfl) ?_
  refine lv_icmp_eq (tgt := 21) hx hb dX0_add_12 (by decide) (fun c_24 => ?_) (fun c_24 => ?_)
  · have h := k_t c_24 h
    exact J21 r_19 size total codes counts H locs ls hW (lv_sub hl [1, 2, 3, 0] rfl) h
  · have h := k_f c_24 h
    refine lv_aload_n hx hb dX0_add_15 rfl (lv_at hl 1 rfl) ?_
    refine lv_iload_n hx hb dX0_add_16 rfl (lv_at hl 0 rfl) ?_
    refine lv_iload_n hx hb dX0_add_17 rfl (lv_at hl 2 rfl) ?_
    obtain ⟨size__26, codes__27, counts__28, h_25, h⟩ := k_bE3 h
    refine k_callV (C := RX0) (ws' := [(a_this, .inr (0, [.ref a_codes, .ref a_counts, .int size__26, .int total])), (a_codes, .inl (cA 0, n_codes, .inl codes__27)), (a_counts, .inl (cA 0, n_counts, .inl counts__28))]) (As := [.int r_19, .int v1]) (rest := []) (b := a_this) (m_X0_openPlace l D cA H.size a_this a_codes a_counts n_codes n_counts size total codes counts r_19 v1 size__26 codes__27 counts__28 h_25) hx hb hml hown hts hB hA hW hl.1 q2_122 q1_3 q2_121 qs_yX0_openPlace q2_119 pd_X0_openPlace ⟨rfl, rfl, Nat.le_of_ble_eq_true rfl, Nat.le_of_ble_eq_true rfl⟩ rfl 0 rfl rfl [0, 1, 2] [] ⟨rfl, rfl, rfl, trivial⟩ rfl ⟨⟨rfl, rfl, rfl, trivial⟩, trivial, rfl⟩ rfl rfl (Nat.le_of_ble_eq_true rfl) ⟨Nat.zero_le _, Nat.zero_le _⟩ dX0_add_18 (st1 := []) rfl (fun H locs hW => ?_)
    exact J21 r_19 size__26 total codes__27 counts__28 H locs ls hW (lv_sub hl [1, 2, 3, 0] rfl) h
noncomputable def f_X0_append (n_codes : Nat) (n_counts : Nat) (v1 : Int32) (v2 : Int32) (size : Int32) (total : Int32) (codes : Nat → Int32) (counts : Nat → Int32) : Option (Int32 × Int32 × (Nat → Int32) × (Nat → Int32)) := (if size < 0 then (some (size, total, codes, counts)) else (if (nI n_codes) ≤ size then (some (size, total, codes, counts)) else (if (nI n_counts) ≤ size then (some (size, total, codes, counts)) else (if ¬ (size < 0 ∨ n_codes ≤ size.toNatClampNeg) then (if ¬ (size < 0 ∨ n_counts ≤ size.toNatClampNeg) then (some ((size + 1), (total + v2), (upd codes size.toNatClampNeg v1), (upd counts size.toNatClampNeg v2))) else none) else none))))
abbrev rm_X0_append : Room := { frames := 0, cells := 0, slots := 0, locals := 0 }
theorem pd_X0_append : k_D1 yX0_append 2 := by decide +kernel
set_option maxHeartbeats 4000000 in
set_option maxRecDepth 100000 in
theorem m_X0_append (l : Launch) (D : va_G) (cA : Nat → ClassId) (sz : Nat) (a_this a_codes a_counts : Nat) (n_codes : Nat) (n_counts : Nat) (size : Int32) (total : Int32) (codes : Nat → Int32) (counts : Nat → Int32) (v1 : Int32) (v2 : Int32) (size' : Int32) (total' : Int32) (codes' : Nat → Int32) (counts' : Nat → Int32) (h : f_X0_append n_codes n_counts v1 v2 size total codes counts = some (size', total', codes', counts')) : k_M l yX0_append prog_2_method_10_code 3 (none : Option Jvm.ClassFile.FieldType) rm_X0_append D cA [.ref a_this, .int v1, .int v2] [(a_this, .inr (0, [.ref a_codes, .ref a_counts, .int size, .int total])), (a_codes, .inl (cA 0, n_codes, .inl codes)), (a_counts, .inl (cA 0, n_counts, .inl counts))] sz (none) [(a_this, .inr (0, [.ref a_codes, .ref a_counts, .int (size'), .int (total')])), (a_codes, .inl (cA 0, n_codes, .inl (codes'))), (a_counts, .inl (cA 0, n_counts, .inl (counts')))] := by
  refine k_ofW (by decide) (Nat.le_of_ble_eq_true rfl) ?_
  intro p e s m below meth c A ls hx hb hr hml hts hown hlocks hB hA hW hl
  have hl : lv_has ls 3 [(0, .ref a_this), (1, .int v1), (2, .int v2)] := hl
  obtain ⟨H, eH⟩ : ∃ H, H = s.heap := ⟨_, rfl⟩
  obtain ⟨locs, eL⟩ : ∃ L : List Loc, L = [] := ⟨_, rfl⟩
  have hW : k_Wd D A s.heap [(a_this, .inr (0, [.ref a_codes, .ref a_counts, .int size, .int total])), (a_codes, .inl (cA 0, n_codes, .inl codes)), (a_counts, .inl (cA 0, n_counts, .inl counts))] H locs := by rw [eH, eL]; exact hW
  suffices K : W p l e rm_X0_append s m [.ref a_this, .int v1, .int v2].toArray below meth c H locs 0 0 (MQ below (k_Q (none) D [(a_this, .inr (0, [.ref a_codes, .ref a_counts, .int (size'), .int (total')])), (a_codes, .inl (cA 0, n_codes, .inl (codes'))), (a_counts, .inl (cA 0, n_counts, .inl (counts')))] A) [.ref a_this, .int v1, .int v2].toArray s 0 0 A) (F0 m 0 ls []) by rw [eH, eL] at K; exact K
  clear eH eL
  refine lv_aload_n hx hb dX0_append_0 rfl (lv_at hl 0 rfl) ?_
  refine va_get (D := D) (ci := 0) (v := .int size) (C := RX0) (T := TX0) (N := 4) hx hb hts iX0 hown hB.1 hW.1 0 rfl rfl 2 (by decide) (hts _ q1_48) (fun _ h9 => h9) rfl dX0_append_1 ?_
  refine lv_if_lt (tgt := 71) hx hb dX0_append_4 (by decide) (fun c_1 => ?_) (fun c_1 => ?_)
  · have h := k_t c_1 h
    obtain ⟨z0, z1, z2, z3⟩ := k_inj4 h
    rw [← z0, ← z1, ← z2, ← z3]
    exact W.vret hx hb hr (fun t ht hWm => ⟨rfl, by rw [ht]; exact hW.1, hW.2.2.F ht⟩) hW.2.2.2.2 dX0_append_71
  · have h := k_f c_1 h
    refine lv_aload_n hx hb dX0_append_7 rfl (lv_at hl 0 rfl) ?_
    refine va_get (D := D) (ci := 0) (v := .int size) (C := RX0) (T := TX0) (N := 4) hx hb hts iX0 hown hB.1 hW.1 0 rfl rfl 2 (by decide) (hts _ q1_48) (fun _ h9 => h9) rfl dX0_append_8 ?_
    refine lv_aload_n hx hb dX0_append_11 rfl (lv_at hl 0 rfl) ?_
    refine va_get (D := D) (ci := 0) (v := .ref a_codes) (C := RX0) (T := TX0) (N := 4) hx hb hts iX0 hown hB.1 hW.1 0 rfl rfl 0 (by decide) (hts _ q1_46) (fun _ h9 => h9) rfl dX0_append_12 ?_
    refine va_alen hx hb hB.1 hW.1 1 0 rfl (v := nI n_codes) rfl rfl dX0_append_15 ?_
    refine lv_icmp_ge (tgt := 71) hx hb dX0_append_16 (by decide) (fun c_2 => ?_) (fun c_2 => ?_)
    · have h := k_t c_2 h
      obtain ⟨z0, z1, z2, z3⟩ := k_inj4 h
      rw [← z0, ← z1, ← z2, ← z3]
      exact W.vret hx hb hr (fun t ht hWm => ⟨rfl, by rw [ht]; exact hW.1, hW.2.2.F ht⟩) hW.2.2.2.2 dX0_append_71
    · have h := k_f c_2 h
      refine lv_aload_n hx hb dX0_append_19 rfl (lv_at hl 0 rfl) ?_
      refine va_get (D := D) (ci := 0) (v := .int size) (C := RX0) (T := TX0) (N := 4) hx hb hts iX0 hown hB.1 hW.1 0 rfl rfl 2 (by decide) (hts _ q1_48) (fun _ h9 => h9) rfl dX0_append_20 ?_
      refine lv_aload_n hx hb dX0_append_23 rfl (lv_at hl 0 rfl) ?_
      refine va_get (D := D) (ci := 0) (v := .ref a_counts) (C := RX0) (T := TX0) (N := 4) hx hb hts iX0 hown hB.1 hW.1 0 rfl rfl 1 (by decide) (hts _ q1_47) (fun _ h9 => h9) rfl dX0_append_24 ?_
      refine va_alen hx hb hB.1 hW.1 2 0 rfl (v := nI n_counts) rfl rfl dX0_append_27 ?_
      refine lv_icmp_ge (tgt := 71) hx hb dX0_append_28 (by decide) (fun c_3 => ?_) (fun c_3 => ?_)
      · have h := k_t c_3 h
        obtain ⟨z0, z1, z2, z3⟩ := k_inj4 h
        rw [← z0, ← z1, ← z2, ← z3]
        exact W.vret hx hb hr (fun t ht hWm => ⟨rfl, by rw [ht]; exact hW.1, hW.2.2.F ht⟩) hW.2.2.2.2 dX0_append_71
      · have h := k_f c_3 h
        refine lv_aload_n hx hb dX0_append_31 rfl (lv_at hl 0 rfl) ?_
        refine va_get (D := D) (ci := 0) (v := .ref a_codes) (C := RX0) (T := TX0) (N := 4) hx hb hts iX0 hown hB.1 hW.1 0 rfl rfl 0 (by decide) (hts _ q1_46) (fun _ h9 => h9) rfl dX0_append_32 ?_
        refine lv_aload_n hx hb dX0_append_35 rfl (lv_at hl 0 rfl) ?_
        refine va_get (D := D) (ci := 0) (v := .int size) (C := RX0) (T := TX0) (N := 4) hx hb hts iX0 hown hB.1 hW.1 0 rfl rfl 2 (by decide) (hts _ q1_48) (fun _ h9 => h9) rfl dX0_append_36 ?_
        refine lv_iload_n hx hb dX0_append_39 rfl (lv_at hl 1 rfl) ?_
        obtain ⟨c_4, h⟩ := k_g h
        refine va_iast hx hb hB.1 hW.1 hW.2.1 hW.2.2 1 0 rfl rfl c_4 dX0_append_40 (fun H locs hP hD hS => ?_)
        have hW : k_Wd D A s.heap [(a_this, .inr (0, [.ref a_codes, .ref a_counts, .int size, .int total])), (a_codes, .inl (cA 0, n_codes, .inl (upd codes size.toNatClampNeg v1))), (a_counts, .inl (cA 0, n_counts, .inl counts))] H locs := ⟨hP, hD, hS⟩
        refine lv_aload_n hx hb dX0_append_41 rfl (lv_at hl 0 rfl) ?_
        refine va_get (D := D) (ci := 0) (v := .ref a_counts) (C := RX0) (T := TX0) (N := 4) hx hb hts iX0 hown hB.1 hW.1 0 rfl rfl 1 (by decide) (hts _ q1_47) (fun _ h9 => h9) rfl dX0_append_42 ?_
        refine lv_aload_n hx hb dX0_append_45 rfl (lv_at hl 0 rfl) ?_
        refine va_get (D := D) (ci := 0) (v := .int size) (C := RX0) (T := TX0) (N := 4) hx hb hts iX0 hown hB.1 hW.1 0 rfl rfl 2 (by decide) (hts _ q1_48) (fun _ h9 => h9) rfl dX0_append_46 ?_
        refine lv_iload_n hx hb dX0_append_49 rfl (lv_at hl 2 rfl) ?_
        obtain ⟨c_5, h⟩ := k_g h
        refine va_iast hx hb hB.1 hW.1 hW.2.1 hW.2.2 2 0 rfl rfl c_5 dX0_append_50 (fun H locs hP hD hS => ?_)
        have hW : k_Wd D A s.heap [(a_this, .inr (0, [.ref a_codes, .ref a_counts, .int size, .int total])), (a_codes, .inl (cA 0, n_codes, .inl (upd codes size.toNatClampNeg v1))), (a_counts, .inl (cA 0, n_counts, .inl (upd counts size.toNatClampNeg v2)))] H locs := ⟨hP, hD, hS⟩
        refine lv_aload_n hx hb dX0_append_51 rfl (lv_at hl 0 rfl) ?_
        refine lv_dup hx hb dX0_append_52 rfl ?_
        refine va_get (D := D) (ci := 0) (v := .int size) (C := RX0) (T := TX0) (N := 4) hx hb hts iX0 hown hB.1 hW.1 0 rfl rfl 2 (by decide) (hts _ q1_48) (fun _ h9 => h9) rfl dX0_append_53 ?_
        refine lv_iconst (v := 1) hx hb dX0_append_56 (by decide) ?_
        refine lv_iadd hx hb dX0_append_57 ?_
        refine va_put (D := D) (ci := 0) (v := .int (size + 1)) (ty := .int) (C := RX0) (T := TX0) (N := 4) hx hb hts iX0 tyX0 tyX0_ok nmX0 hown hB.1 hW.1 hW.2.1 hW.2.2 0 rfl rfl 2 (by decide) (hts _ q1_48) (fun _ h9 => h9) rfl (tyX0_ok 2 (by decide)) rfl rfl (Nat.le_of_ble_eq_true rfl) dX0_append_58 (fun H locs hP hD hS => ?_)
        have hW : k_Wd D A s.heap [(a_this, .inr (0, [.ref a_codes, .ref a_counts, .int (size + 1), .int total])), (a_codes, .inl (cA 0, n_codes, .inl (upd codes size.toNatClampNeg v1))), (a_counts, .inl (cA 0, n_counts, .inl (upd counts size.toNatClampNeg v2)))] H locs := ⟨hP, hD, hS⟩
        refine lv_aload_n hx hb dX0_append_61 rfl (lv_at hl 0 rfl) ?_
        refine lv_dup hx hb dX0_append_62 rfl ?_
        refine va_get (D := D) (ci := 0) (v := .int total) (C := RX0) (T := TX0) (N := 4) hx hb hts iX0 hown hB.1 hW.1 0 rfl rfl 3 (by decide) (hts _ q1_49) (fun _ h9 => h9) rfl dX0_append_63 ?_
        refine lv_iload_n hx hb dX0_append_66 rfl (lv_at hl 2 rfl) ?_
        refine lv_iadd hx hb dX0_append_67 ?_
        refine va_put (D := D) (ci := 0) (v := .int (total + v2)) (ty := .int) (C := RX0) (T := TX0) (N := 4) hx hb hts iX0 tyX0 tyX0_ok nmX0 hown hB.1 hW.1 hW.2.1 hW.2.2 0 rfl rfl 3 (by decide) (hts _ q1_49) (fun _ h9 => h9) rfl (tyX0_ok 3 (by decide)) rfl rfl (Nat.le_of_ble_eq_true rfl) dX0_append_68 (fun H locs hP hD hS => ?_)
        have hW : k_Wd D A s.heap [(a_this, .inr (0, [.ref a_codes, .ref a_counts, .int (size + 1), .int (total + v2)])), (a_codes, .inl (cA 0, n_codes, .inl (upd codes size.toNatClampNeg v1))), (a_counts, .inl (cA 0, n_counts, .inl (upd counts size.toNatClampNeg v2)))] H locs := ⟨hP, hD, hS⟩
        obtain ⟨z0, z1, z2, z3⟩ := k_inj4 h
        rw [← z0, ← z1, ← z2, ← z3]
        exact W.vret hx hb hr (fun t ht hWm => ⟨rfl, by rw [ht]; exact hW.1, hW.2.2.F ht⟩) hW.2.2.2.2 dX0_append_71
noncomputable def f_X0_clear (size : Int32) (total : Int32) : Option (Int32 × Int32) := (some (0, 0))
abbrev rm_X0_clear : Room := { frames := 0, cells := 0, slots := 0, locals := 0 }
theorem pd_X0_clear : k_D1 yX0_clear 0 := by decide +kernel
set_option maxHeartbeats 4000000 in
set_option maxRecDepth 100000 in
theorem m_X0_clear (l : Launch) (D : va_G) (cA : Nat → ClassId) (sz : Nat) (a_this : Nat) (w_codes : Nat) (w_counts : Nat) (size : Int32) (total : Int32) (size' : Int32) (total' : Int32) (h : f_X0_clear size total = some (size', total')) : k_M l yX0_clear prog_2_method_11_code 1 (none : Option Jvm.ClassFile.FieldType) rm_X0_clear D cA [.ref a_this] [(a_this, .inr (0, [.ref w_codes, .ref w_counts, .int size, .int total]))] sz (none) [(a_this, .inr (0, [.ref w_codes, .ref w_counts, .int (size'), .int (total')]))] := by
  refine k_ofW (by decide) (Nat.le_of_ble_eq_true rfl) ?_
  intro p e s m below meth c A ls hx hb hr hml hts hown hlocks hB hA hW hl
  have hl : lv_has ls 1 [(0, .ref a_this)] := hl
  obtain ⟨H, eH⟩ : ∃ H, H = s.heap := ⟨_, rfl⟩
  obtain ⟨locs, eL⟩ : ∃ L : List Loc, L = [] := ⟨_, rfl⟩
  have hW : k_Wd D A s.heap [(a_this, .inr (0, [.ref w_codes, .ref w_counts, .int size, .int total]))] H locs := by rw [eH, eL]; exact hW
  suffices K : W p l e rm_X0_clear s m [.ref a_this].toArray below meth c H locs 0 0 (MQ below (k_Q (none) D [(a_this, .inr (0, [.ref w_codes, .ref w_counts, .int (size'), .int (total')]))] A) [.ref a_this].toArray s 0 0 A) (F0 m 0 ls []) by rw [eH, eL] at K; exact K
  clear eH eL
  refine lv_aload_n hx hb dX0_clear_0 rfl (lv_at hl 0 rfl) ?_
  refine lv_iconst (v := 0) hx hb dX0_clear_1 (by decide) ?_
  refine va_put (D := D) (ci := 0) (v := .int 0) (ty := .int) (C := RX0) (T := TX0) (N := 4) hx hb hts iX0 tyX0 tyX0_ok nmX0 hown hB.1 hW.1 hW.2.1 hW.2.2 0 rfl rfl 2 (by decide) (hts _ q1_48) (fun _ h9 => h9) rfl (tyX0_ok 2 (by decide)) rfl rfl (Nat.le_of_ble_eq_true rfl) dX0_clear_2 (fun H locs hP hD hS => ?_)
  have hW : k_Wd D A s.heap [(a_this, .inr (0, [.ref w_codes, .ref w_counts, .int 0, .int total]))] H locs := ⟨hP, hD, hS⟩
  refine lv_aload_n hx hb dX0_clear_5 rfl (lv_at hl 0 rfl) ?_
  refine lv_iconst (v := 0) hx hb dX0_clear_6 (by decide) ?_
  refine va_put (D := D) (ci := 0) (v := .int 0) (ty := .int) (C := RX0) (T := TX0) (N := 4) hx hb hts iX0 tyX0 tyX0_ok nmX0 hown hB.1 hW.1 hW.2.1 hW.2.2 0 rfl rfl 3 (by decide) (hts _ q1_49) (fun _ h9 => h9) rfl (tyX0_ok 3 (by decide)) rfl rfl (Nat.le_of_ble_eq_true rfl) dX0_clear_7 (fun H locs hP hD hS => ?_)
  have hW : k_Wd D A s.heap [(a_this, .inr (0, [.ref w_codes, .ref w_counts, .int 0, .int 0]))] H locs := ⟨hP, hD, hS⟩
  obtain ⟨z0, z1⟩ := k_inj2 h
  rw [← z0, ← z1]
  exact W.vret hx hb hr (fun t ht hWm => ⟨rfl, by rw [ht]; exact hW.1, hW.2.2.F ht⟩) hW.2.2.2.2 dX0_clear_10
noncomputable def f_X0_copyFrom_6 (fu : Nat) (n_codes : Nat) (n_counts : Nat) (n_p1_codes : Nat) (n_p1_counts : Nat) (p1_size : Int32) (p1_codes : Nat → Int32) (p1_counts : Nat → Int32) : Nat → Int32 → Int32 → Int32 → (Nat → Int32) → (Nat → Int32) → Option (Int32 × Int32 × (Nat → Int32) × (Nat → Int32))
  | 0 => fun _ _ _ _ _ => none
  | n + 1 => fun x2 size total codes counts => (if p1_size ≤ x2 then (some (size, total, codes, counts)) else (k_b1 (f_X0_codeAt n_p1_codes p1_size p1_codes x2) fun r_3 => (k_b1 (f_X0_countAt n_p1_counts p1_size p1_counts x2) fun r_6 => (k_b4 (f_X0_append n_codes n_counts r_3 r_6 size total codes counts) fun size__9 total__10 codes__11 counts__12 => (k_let (x2 + 1) fun x_14 => (f_X0_copyFrom_6 fu n_codes n_counts n_p1_codes n_p1_counts p1_size p1_codes p1_counts n x_14 size__9 total__10 codes__11 counts__12))))))
theorem fs_X0_copyFrom_6 (fu : Nat) (n_codes : Nat) (n_counts : Nat) (n_p1_codes : Nat) (n_p1_counts : Nat) (p1_size : Int32) (p1_codes : Nat → Int32) (p1_counts : Nat → Int32) (n : Nat) (x2 : Int32) (size : Int32) (total : Int32) (codes : Nat → Int32) (counts : Nat → Int32) : f_X0_copyFrom_6 fu n_codes n_counts n_p1_codes n_p1_counts p1_size p1_codes p1_counts (n + 1) x2 size total codes counts = (if p1_size ≤ x2 then (some (size, total, codes, counts)) else (k_b1 (f_X0_codeAt n_p1_codes p1_size p1_codes x2) fun r_3 => (k_b1 (f_X0_countAt n_p1_counts p1_size p1_counts x2) fun r_6 => (k_b4 (f_X0_append n_codes n_counts r_3 r_6 size total codes counts) fun size__9 total__10 codes__11 counts__12 => (k_let (x2 + 1) fun x_14 => (f_X0_copyFrom_6 fu n_codes n_counts n_p1_codes n_p1_counts p1_size p1_codes p1_counts n x_14 size__9 total__10 codes__11 counts__12)))))) := rfl
noncomputable def f_X0_copyFrom (fu : Nat) (n_codes : Nat) (n_counts : Nat) (n_p1_codes : Nat) (n_p1_counts : Nat) (p1_size : Int32) (p1_codes : Nat → Int32) (p1_counts : Nat → Int32) (size : Int32) (total : Int32) (codes : Nat → Int32) (counts : Nat → Int32) : Option (Int32 × Int32 × (Nat → Int32) × (Nat → Int32)) := (k_b2 (f_X0_clear size total) fun size__16 total__17 => ((f_X0_copyFrom_6 fu n_codes n_counts n_p1_codes n_p1_counts p1_size p1_codes p1_counts fu 0 size__16 total__17 codes counts)))
abbrev rm_X0_copyFrom : Room := { frames := 1, cells := 0, slots := 0, locals := 22 }
theorem pd_X0_copyFrom : k_D1 yX0_copyFrom 1 := by decide +kernel
set_option maxHeartbeats 4000000 in
set_option maxRecDepth 100000 in
theorem m_X0_copyFrom (l : Launch) (D : va_G) (cA : Nat → ClassId) (sz : Nat) (a_this a_codes a_counts a_p1 a_p1_codes a_p1_counts : Nat) (fu : Nat) (n_codes : Nat) (n_counts : Nat) (n_p1_codes : Nat) (n_p1_counts : Nat) (size : Int32) (total : Int32) (codes : Nat → Int32) (counts : Nat → Int32) (p1_size : Int32) (p1_total : Int32) (p1_codes : Nat → Int32) (p1_counts : Nat → Int32) (size' : Int32) (total' : Int32) (codes' : Nat → Int32) (counts' : Nat → Int32) (h : f_X0_copyFrom fu n_codes n_counts n_p1_codes n_p1_counts p1_size p1_codes p1_counts size total codes counts = some (size', total', codes', counts')) : k_M l yX0_copyFrom prog_2_method_12_code 3 (none : Option Jvm.ClassFile.FieldType) rm_X0_copyFrom D cA [.ref a_this, .ref a_p1] [(a_this, .inr (0, [.ref a_codes, .ref a_counts, .int size, .int total])), (a_codes, .inl (cA 0, n_codes, .inl codes)), (a_counts, .inl (cA 0, n_counts, .inl counts)), (a_p1, .inr (0, [.ref a_p1_codes, .ref a_p1_counts, .int p1_size, .int p1_total])), (a_p1_codes, .inl (cA 0, n_p1_codes, .inl p1_codes)), (a_p1_counts, .inl (cA 0, n_p1_counts, .inl p1_counts))] sz (none) [(a_this, .inr (0, [.ref a_codes, .ref a_counts, .int (size'), .int (total')])), (a_codes, .inl (cA 0, n_codes, .inl (codes'))), (a_counts, .inl (cA 0, n_counts, .inl (counts'))), (a_p1, .inr (0, [.ref a_p1_codes, .ref a_p1_counts, .int p1_size, .int p1_total])), (a_p1_codes, .inl (cA 0, n_p1_codes, .inl p1_codes)), (a_p1_counts, .inl (cA 0, n_p1_counts, .inl p1_counts))] := by
  refine k_ofW (by decide) (Nat.le_of_ble_eq_true rfl) ?_
  intro p e s m below meth c A ls hx hb hr hml hts hown hlocks hB hA hW hl
  have hl : lv_has ls 3 [(0, .ref a_this), (1, .ref a_p1)] := hl
  obtain ⟨H, eH⟩ : ∃ H, H = s.heap := ⟨_, rfl⟩
  obtain ⟨locs, eL⟩ : ∃ L : List Loc, L = [] := ⟨_, rfl⟩
  have hW : k_Wd D A s.heap [(a_this, .inr (0, [.ref a_codes, .ref a_counts, .int size, .int total])), (a_codes, .inl (cA 0, n_codes, .inl codes)), (a_counts, .inl (cA 0, n_counts, .inl counts)), (a_p1, .inr (0, [.ref a_p1_codes, .ref a_p1_counts, .int p1_size, .int p1_total])), (a_p1_codes, .inl (cA 0, n_p1_codes, .inl p1_codes)), (a_p1_counts, .inl (cA 0, n_p1_counts, .inl p1_counts))] H locs := by rw [eH, eL]; exact hW
  suffices K : W p l e rm_X0_copyFrom s m [.ref a_this, .ref a_p1].toArray below meth c H locs 0 0 (MQ below (k_Q (none) D [(a_this, .inr (0, [.ref a_codes, .ref a_counts, .int (size'), .int (total')])), (a_codes, .inl (cA 0, n_codes, .inl (codes'))), (a_counts, .inl (cA 0, n_counts, .inl (counts'))), (a_p1, .inr (0, [.ref a_p1_codes, .ref a_p1_counts, .int p1_size, .int p1_total])), (a_p1_codes, .inl (cA 0, n_p1_codes, .inl p1_codes)), (a_p1_counts, .inl (cA 0, n_p1_counts, .inl p1_counts))] A) [.ref a_this, .ref a_p1].toArray s 0 0 A) (F0 m 0 ls []) by rw [eH, eL] at K; exact K
  clear eH eL
  have J6 : ∀ (n6 : Nat) (x2 : Int32) (size : Int32) (total : Int32) (codes : Nat → Int32) (counts : Nat → Int32) (H : Heap) (locs : List Loc) (ls : Array Slot), k_Wd D A s.heap [(a_this, .inr (0, [.ref a_codes, .ref a_counts, .int size, .int total])), (a_codes, .inl (cA 0, n_codes, .inl codes)), (a_counts, .inl (cA 0, n_counts, .inl counts)), (a_p1, .inr (0, [.ref a_p1_codes, .ref a_p1_counts, .int p1_size, .int p1_total])), (a_p1_codes, .inl (cA 0, n_p1_codes, .inl p1_codes)), (a_p1_counts, .inl (cA 0, n_p1_counts, .inl p1_counts))] H locs → lv_has ls 3 [(0, .ref a_this), (1, .ref a_p1), (2, .int x2)] → f_X0_copyFrom_6 fu n_codes n_counts n_p1_codes n_p1_counts p1_size p1_codes p1_counts n6 x2 size total codes counts = some (size', total', codes', counts') → W p l e rm_X0_copyFrom s m [.ref a_this, .ref a_p1].toArray below meth c H locs 0 0 (MQ below (k_Q (none) D [(a_this, .inr (0, [.ref a_codes, .ref a_counts, .int (size'), .int (total')])), (a_codes, .inl (cA 0, n_codes, .inl (codes'))), (a_counts, .inl (cA 0, n_counts, .inl (counts'))), (a_p1, .inr (0, [.ref a_p1_codes, .ref a_p1_counts, .int p1_size, .int p1_total])), (a_p1_codes, .inl (cA 0, n_p1_codes, .inl p1_codes)), (a_p1_counts, .inl (cA 0, n_p1_counts, .inl p1_counts))] A) [.ref a_this, .ref a_p1].toArray s 0 0 A) (F0 m 6 ls []) := by
    intro n6
    induction n6 with
    | zero => intro x2 size total codes counts H locs ls hW hl h; exact k_no h
    | succ n6 ih6 =>
      intro x2 size total codes counts H locs ls hW hl h
      have h := (fs_X0_copyFrom_6 _ _ _ _ _ _ _ _ _ _ _ _ _ _).symm.trans h
      refine lv_iload_n hx hb dX0_copyFrom_6 rfl (lv_at hl 2 rfl) ?_
      refine lv_aload_n hx hb dX0_copyFrom_7 rfl (lv_at hl 1 rfl) ?_
      refine va_get (D := D) (ci := 0) (v := .int p1_size) (C := RX0) (T := TX0) (N := 4) hx hb hts iX0 hown hB.1 hW.1 3 rfl rfl 2 (by decide) (hts _ q1_48) (fun _ h9 => h9) rfl dX0_copyFrom_8 ?_
      refine lv_icmp_ge (tgt := 34) hx hb dX0_copyFrom_11 (by decide) (fun c_1 => ?_) (fun c_1 => ?_)
      · have h := k_t c_1 h
        obtain ⟨z0, z1, z2, z3⟩ := k_inj4 h
        rw [← z0, ← z1, ← z2, ← z3]
        exact W.vret hx hb hr (fun t ht hWm => ⟨rfl, by rw [ht]; exact hW.1, hW.2.2.F ht⟩) hW.2.2.2.2 dX0_copyFrom_34
      · have h := k_f c_1 h
        refine lv_aload_n hx hb dX0_copyFrom_14 rfl (lv_at hl 0 rfl) ?_
        refine lv_aload_n hx hb dX0_copyFrom_15 rfl (lv_at hl 1 rfl) ?_
        refine lv_iload_n hx hb dX0_copyFrom_16 rfl (lv_at hl 2 rfl) ?_
        obtain ⟨r_3, h_2, h⟩ := k_bE1 h
        refine k_callV (C := RX0) (ws' := [(a_this, .inr (0, [.ref a_codes, .ref a_counts, .int size, .int total])), (a_codes, .inl (cA 0, n_codes, .inl codes)), (a_counts, .inl (cA 0, n_counts, .inl counts)), (a_p1, .inr (0, [.ref a_p1_codes, .ref a_p1_counts, .int p1_size, .int p1_total])), (a_p1_codes, .inl (cA 0, n_p1_codes, .inl p1_codes)), (a_p1_counts, .inl (cA 0, n_p1_counts, .inl p1_counts))]) (As := [.int x2]) (rest := [.ref a_this]) (b := a_p1) (m_X0_codeAt l D cA H.size a_p1 a_p1_codes a_p1_counts n_p1_codes p1_size p1_total p1_codes x2 r_3 h_2) hx hb hml hown hts hB hA hW hl.1 q2_23 q1_3 q2_21 q2_22 q2_20 pd_X0_codeAt ⟨rfl, rfl, Nat.le_of_ble_eq_true rfl, Nat.le_of_ble_eq_true rfl⟩ rfl 3 rfl rfl [3, 4] [0, 1, 2, 5] ⟨rfl, rfl, trivial⟩ rfl ⟨⟨rfl, rfl, trivial⟩, ⟨rfl, rfl, rfl, rfl, trivial⟩, rfl⟩ rfl rfl (Nat.le_of_ble_eq_true rfl) ⟨Nat.zero_le _, Nat.zero_le _⟩ dX0_copyFrom_17 (st1 := [.int r_3, .ref a_this]) rfl (fun H locs hW => ?_)
        refine lv_aload_n hx hb dX0_copyFrom_20 rfl (lv_at hl 1 rfl) ?_
        refine lv_iload_n hx hb dX0_copyFrom_21 rfl (lv_at hl 2 rfl) ?_
        obtain ⟨r_6, h_5, h⟩ := k_bE1 h
        refine k_callV (C := RX0) (ws' := [(a_this, .inr (0, [.ref a_codes, .ref a_counts, .int size, .int total])), (a_codes, .inl (cA 0, n_codes, .inl codes)), (a_counts, .inl (cA 0, n_counts, .inl counts)), (a_p1, .inr (0, [.ref a_p1_codes, .ref a_p1_counts, .int p1_size, .int p1_total])), (a_p1_codes, .inl (cA 0, n_p1_codes, .inl p1_codes)), (a_p1_counts, .inl (cA 0, n_p1_counts, .inl p1_counts))]) (As := [.int x2]) (rest := [.int r_3, .ref a_this]) (b := a_p1) (m_X0_countAt l D cA H.size a_p1 a_p1_counts a_p1_codes n_p1_counts p1_size p1_total p1_counts x2 r_6 h_5) hx hb hml hown hts hB hA hW hl.1 q2_28 q1_3 q2_26 q2_27 q2_25 pd_X0_countAt ⟨rfl, rfl, Nat.le_of_ble_eq_true rfl, Nat.le_of_ble_eq_true rfl⟩ rfl 3 rfl rfl [3, 5] [0, 1, 2, 4] ⟨rfl, rfl, trivial⟩ rfl ⟨⟨rfl, rfl, trivial⟩, ⟨rfl, rfl, rfl, rfl, trivial⟩, rfl⟩ rfl rfl (Nat.le_of_ble_eq_true rfl) ⟨Nat.zero_le _, Nat.zero_le _⟩ dX0_copyFrom_22 (st1 := [.int r_6, .int r_3, .ref a_this]) rfl (fun H locs hW => ?_)
        obtain ⟨size__9, total__10, codes__11, counts__12, h_8, h⟩ := k_bE4 h
        refine k_callV (C := RX0) (ws' := [(a_this, .inr (0, [.ref a_codes, .ref a_counts, .int size__9, .int total__10])), (a_codes, .inl (cA 0, n_codes, .inl codes__11)), (a_counts, .inl (cA 0, n_counts, .inl counts__12)), (a_p1, .inr (0, [.ref a_p1_codes, .ref a_p1_counts, .int p1_size, .int p1_total])), (a_p1_codes, .inl (cA 0, n_p1_codes, .inl p1_codes)), (a_p1_counts, .inl (cA 0, n_p1_counts, .inl p1_counts))]) (As := [.int r_3, .int r_6]) (rest := []) (b := a_this) (m_X0_append l D cA H.size a_this a_codes a_counts n_codes n_counts size total codes counts r_3 r_6 size__9 total__10 codes__11 counts__12 h_8) hx hb hml hown hts hB hA hW hl.1 q2_32 q1_3 q2_30 q2_31 q2_29 pd_X0_append ⟨rfl, rfl, Nat.le_of_ble_eq_true rfl, Nat.le_of_ble_eq_true rfl⟩ rfl 0 rfl rfl [0, 1, 2] [3, 4, 5] ⟨rfl, rfl, rfl, trivial⟩ rfl ⟨⟨rfl, rfl, rfl, trivial⟩, ⟨rfl, rfl, rfl, trivial⟩, rfl⟩ rfl rfl (Nat.le_of_ble_eq_true rfl) ⟨Nat.zero_le _, Nat.zero_le _⟩ dX0_copyFrom_25 (st1 := []) rfl (fun H locs hW => ?_)
        obtain ⟨x_14, ex_14⟩ : ∃ y : Int32, y = x2 + 1 := ⟨_, rfl⟩
        have h := k_letE ex_14 h
        refine lv_iinc (v := x_14) (lv' := [(2, .int x_14), (0, .ref a_this), (1, .ref a_p1)]) hx hb dX0_copyFrom_28 hl (k := 2) rfl (by rw [ex_14]; rfl) (by decide) rfl (fun ls hl => ?_)
        refine lv_goto (tgt := 6) hx hb dX0_copyFrom_31 (by decide) ?_
        exact ih6 x_14 size__9 total__10 codes__11 counts__12 H locs ls hW (lv_sub hl [1, 2, 0] rfl) h
  refine lv_aload_n hx hb dX0_copyFrom_0 rfl (lv_at hl 0 rfl) ?_
  obtain ⟨size__16, total__17, h_15, h⟩ := k_bE2 h
  refine k_callV (C := RX0) (ws' := [(a_this, .inr (0, [.ref a_codes, .ref a_counts, .int size__16, .int total__17])), (a_codes, .inl (cA 0, n_codes, .inl codes)), (a_counts, .inl (cA 0, n_counts, .inl counts)), (a_p1, .inr (0, [.ref a_p1_codes, .ref a_p1_counts, .int p1_size, .int p1_total])), (a_p1_codes, .inl (cA 0, n_p1_codes, .inl p1_codes)), (a_p1_counts, .inl (cA 0, n_p1_counts, .inl p1_counts))]) (As := []) (rest := []) (b := a_this) (m_X0_clear l D cA H.size a_this a_codes a_counts size total size__16 total__17 h_15) hx hb hml hown hts hB hA hW hl.1 q2_19 q1_3 q2_17 q2_18 q2_16 pd_X0_clear ⟨rfl, rfl, Nat.le_of_ble_eq_true rfl, Nat.le_of_ble_eq_true rfl⟩ rfl 0 rfl rfl [0] [1, 2, 3, 4, 5] ⟨rfl, trivial⟩ rfl ⟨⟨rfl, trivial⟩, ⟨rfl, rfl, rfl, rfl, rfl, trivial⟩, rfl⟩ rfl rfl (Nat.le_of_ble_eq_true rfl) ⟨Nat.zero_le _, Nat.zero_le _⟩ dX0_copyFrom_1 (st1 := []) rfl (fun H locs hW => ?_)
  refine lv_iconst (v := 0) hx hb dX0_copyFrom_4 (by decide) ?_
  refine lv_istore_n (lv' := [(2, .int 0), (0, .ref a_this), (1, .ref a_p1)]) hx hb dX0_copyFrom_5 rfl hl (by decide) rfl (fun ls hl => ?_)
  exact J6 fu 0 size__16 total__17 codes counts H locs ls hW (lv_sub hl [1, 2, 0] rfl) h
noncomputable def f_X0_becomeDifference_118 (fu : Nat) (n_codes : Nat) (n_counts : Nat) (n_p1_codes : Nat) (n_p1_counts : Nat) (n_p2_codes : Nat) (n_p2_counts : Nat) (p1_size : Int32) (p1_codes : Nat → Int32) (p1_counts : Nat → Int32) (p2_size : Int32) (p2_codes : Nat → Int32) (p2_counts : Nat → Int32) (k23 : Int32 → Int32 → Int32 → Int32 → Int32 → Int32 → (Nat → Int32) → (Nat → Int32) → Option (Int32 × Int32 × (Nat → Int32) × (Nat → Int32))) (x3 : Int32) (x4 : Int32) (x5 : Int32) (x6 : Int32) (size : Int32) (total : Int32) (codes : Nat → Int32) (counts : Nat → Int32) : Option (Int32 × Int32 × (Nat → Int32) × (Nat → Int32)) := (k_let (x6 + 1) fun x_1 => (k23 x3 x4 x5 x_1 size total codes counts))
noncomputable def f_X0_becomeDifference_105 (fu : Nat) (n_codes : Nat) (n_counts : Nat) (n_p1_codes : Nat) (n_p1_counts : Nat) (n_p2_codes : Nat) (n_p2_counts : Nat) (p1_size : Int32) (p1_codes : Nat → Int32) (p1_counts : Nat → Int32) (p2_size : Int32) (p2_codes : Nat → Int32) (p2_counts : Nat → Int32) (k23 : Int32 → Int32 → Int32 → Int32 → Int32 → Int32 → (Nat → Int32) → (Nat → Int32) → Option (Int32 × Int32 × (Nat → Int32) × (Nat → Int32))) (x3 : Int32) (x4 : Int32) (x5 : Int32) (x6 : Int32) (x7 : Int32) (x8 : Int32) (size : Int32) (total : Int32) (codes : Nat → Int32) (counts : Nat → Int32) : Option (Int32 × Int32 × (Nat → Int32) × (Nat → Int32)) := (if x8 = 0 then ((f_X0_becomeDifference_118 fu n_codes n_counts n_p1_codes n_p1_counts n_p2_codes n_p2_counts p1_size p1_codes p1_counts p2_size p2_codes p2_counts k23 x3 x4 x5 x6 size total codes counts)) else (k_b4 (f_X0_append n_codes n_counts x7 x8 size total codes counts) fun size__4 total__5 codes__6 counts__7 => ((f_X0_becomeDifference_118 fu n_codes n_counts n_p1_codes n_p1_counts n_p2_codes n_p2_counts p1_size p1_codes p1_counts p2_size p2_codes p2_counts k23 x3 x4 x5 x6 size__4 total__5 codes__6 counts__7))))
noncomputable def f_X0_becomeDifference_80 (fu : Nat) (n_codes : Nat) (n_counts : Nat) (n_p1_codes : Nat) (n_p1_counts : Nat) (n_p2_codes : Nat) (n_p2_counts : Nat) (p1_size : Int32) (p1_codes : Nat → Int32) (p1_counts : Nat → Int32) (p2_size : Int32) (p2_codes : Nat → Int32) (p2_counts : Nat → Int32) (k23 : Int32 → Int32 → Int32 → Int32 → Int32 → Int32 → (Nat → Int32) → (Nat → Int32) → Option (Int32 × Int32 × (Nat → Int32) × (Nat → Int32))) (x3 : Int32) (x4 : Int32) (x5 : Int32) (x6 : Int32) (x7 : Int32) (x8 : Int32) (size : Int32) (total : Int32) (codes : Nat → Int32) (counts : Nat → Int32) : Option (Int32 × Int32 × (Nat → Int32) × (Nat → Int32)) := (k_b1 (f_X0_codeAt n_p2_codes p2_size p2_codes x4) fun r_10 => (if r_10 = x7 then (k_b1 (f_X0_countAt n_p2_counts p2_size p2_counts x4) fun r_14 => (k_let (x8 - r_14) fun x_16 => k_let (x4 + 1) fun x_17 => (f_X0_becomeDifference_105 fu n_codes n_counts n_p1_codes n_p1_counts n_p2_codes n_p2_counts p1_size p1_codes p1_counts p2_size p2_codes p2_counts k23 x3 x_17 x5 x6 x7 x_16 size total codes counts))) else ((f_X0_becomeDifference_105 fu n_codes n_counts n_p1_codes n_p1_counts n_p2_codes n_p2_counts p1_size p1_codes p1_counts p2_size p2_codes p2_counts k23 x3 x4 x5 x6 x7 x8 size total codes counts))))
noncomputable def f_X0_becomeDifference_23 (fu : Nat) (n_codes : Nat) (n_counts : Nat) (n_p1_codes : Nat) (n_p1_counts : Nat) (n_p2_codes : Nat) (n_p2_counts : Nat) (p1_size : Int32) (p1_codes : Nat → Int32) (p1_counts : Nat → Int32) (p2_size : Int32) (p2_codes : Nat → Int32) (p2_counts : Nat → Int32) : Nat → Int32 → Int32 → Int32 → Int32 → Int32 → Int32 → (Nat → Int32) → (Nat → Int32) → Option (Int32 × Int32 × (Nat → Int32) × (Nat → Int32))
  | 0 => fun _ _ _ _ _ _ _ _ => none
  | n + 1 => fun x3 x4 x5 x6 size total codes counts => (if x5 ≤ x6 then (some (size, total, codes, counts)) else (k_b1 (f_X0_codeAt n_p1_codes p1_size p1_codes x3) fun r_20 => (k_b1 (f_X0_codeAt n_p2_codes p2_size p2_codes x4) fun r_23 => (k_let (if r_23 < r_20 then r_23 else r_20) fun x_25 => (if x_25 = 1000000 then (some (size, total, codes, counts)) else (k_b1 (f_X0_codeAt n_p1_codes p1_size p1_codes x3) fun r_28 => (if r_28 = x_25 then (k_b1 (f_X0_countAt n_p1_counts p1_size p1_counts x3) fun r_32 => (k_let (0 + r_32) fun x_34 => k_let (x3 + 1) fun x_35 => (f_X0_becomeDifference_80 fu n_codes n_counts n_p1_codes n_p1_counts n_p2_codes n_p2_counts p1_size p1_codes p1_counts p2_size p2_codes p2_counts (f_X0_becomeDifference_23 fu n_codes n_counts n_p1_codes n_p1_counts n_p2_codes n_p2_counts p1_size p1_codes p1_counts p2_size p2_codes p2_counts n) x_35 x4 x5 x6 x_25 x_34 size total codes counts))) else ((f_X0_becomeDifference_80 fu n_codes n_counts n_p1_codes n_p1_counts n_p2_codes n_p2_counts p1_size p1_codes p1_counts p2_size p2_codes p2_counts (f_X0_becomeDifference_23 fu n_codes n_counts n_p1_codes n_p1_counts n_p2_codes n_p2_counts p1_size p1_codes p1_counts p2_size p2_codes p2_counts n) x3 x4 x5 x6 x_25 0 size total codes counts)))))))))
theorem fs_X0_becomeDifference_23 (fu : Nat) (n_codes : Nat) (n_counts : Nat) (n_p1_codes : Nat) (n_p1_counts : Nat) (n_p2_codes : Nat) (n_p2_counts : Nat) (p1_size : Int32) (p1_codes : Nat → Int32) (p1_counts : Nat → Int32) (p2_size : Int32) (p2_codes : Nat → Int32) (p2_counts : Nat → Int32) (n : Nat) (x3 : Int32) (x4 : Int32) (x5 : Int32) (x6 : Int32) (size : Int32) (total : Int32) (codes : Nat → Int32) (counts : Nat → Int32) : f_X0_becomeDifference_23 fu n_codes n_counts n_p1_codes n_p1_counts n_p2_codes n_p2_counts p1_size p1_codes p1_counts p2_size p2_codes p2_counts (n + 1) x3 x4 x5 x6 size total codes counts = (if x5 ≤ x6 then (some (size, total, codes, counts)) else (k_b1 (f_X0_codeAt n_p1_codes p1_size p1_codes x3) fun r_20 => (k_b1 (f_X0_codeAt n_p2_codes p2_size p2_codes x4) fun r_23 => (k_let (if r_23 < r_20 then r_23 else r_20) fun x_25 => (if x_25 = 1000000 then (some (size, total, codes, counts)) else (k_b1 (f_X0_codeAt n_p1_codes p1_size p1_codes x3) fun r_28 => (if r_28 = x_25 then (k_b1 (f_X0_countAt n_p1_counts p1_size p1_counts x3) fun r_32 => (k_let (0 + r_32) fun x_34 => k_let (x3 + 1) fun x_35 => (f_X0_becomeDifference_80 fu n_codes n_counts n_p1_codes n_p1_counts n_p2_codes n_p2_counts p1_size p1_codes p1_counts p2_size p2_codes p2_counts (f_X0_becomeDifference_23 fu n_codes n_counts n_p1_codes n_p1_counts n_p2_codes n_p2_counts p1_size p1_codes p1_counts p2_size p2_codes p2_counts n) x_35 x4 x5 x6 x_25 x_34 size total codes counts))) else ((f_X0_becomeDifference_80 fu n_codes n_counts n_p1_codes n_p1_counts n_p2_codes n_p2_counts p1_size p1_codes p1_counts p2_size p2_codes p2_counts (f_X0_becomeDifference_23 fu n_codes n_counts n_p1_codes n_p1_counts n_p2_codes n_p2_counts p1_size p1_codes p1_counts p2_size p2_codes p2_counts n) x3 x4 x5 x6 x_25 0 size total codes counts))))))))) := rfl
noncomputable def f_X0_becomeDifference (fu : Nat) (n_codes : Nat) (n_counts : Nat) (n_p1_codes : Nat) (n_p1_counts : Nat) (n_p2_codes : Nat) (n_p2_counts : Nat) (p1_size : Int32) (p1_codes : Nat → Int32) (p1_counts : Nat → Int32) (p2_size : Int32) (p2_codes : Nat → Int32) (p2_counts : Nat → Int32) (size : Int32) (total : Int32) (codes : Nat → Int32) (counts : Nat → Int32) : Option (Int32 × Int32 × (Nat → Int32) × (Nat → Int32)) := (k_b2 (f_X0_clear size total) fun size__37 total__38 => (k_let (p1_size + p2_size) fun x_40 => (f_X0_becomeDifference_23 fu n_codes n_counts n_p1_codes n_p1_counts n_p2_codes n_p2_counts p1_size p1_codes p1_counts p2_size p2_codes p2_counts fu 0 0 x_40 0 size__37 total__38 codes counts)))
abbrev rm_X0_becomeDifference : Room := { frames := 1, cells := 0, slots := 0, locals := 60 }
theorem pd_X0_becomeDifference : k_D1 yX0_becomeDifference 2 := by decide +kernel
set_option maxHeartbeats 4000000 in
set_option maxRecDepth 100000 in
theorem m_X0_becomeDifference (l : Launch) (D : va_G) (cA : Nat → ClassId) (sz : Nat) (a_this a_codes a_counts a_p1 a_p1_codes a_p1_counts a_p2 a_p2_codes a_p2_counts : Nat) (fu : Nat) (n_codes : Nat) (n_counts : Nat) (n_p1_codes : Nat) (n_p1_counts : Nat) (n_p2_codes : Nat) (n_p2_counts : Nat) (size : Int32) (total : Int32) (codes : Nat → Int32) (counts : Nat → Int32) (p1_size : Int32) (p1_total : Int32) (p1_codes : Nat → Int32) (p1_counts : Nat → Int32) (p2_size : Int32) (p2_total : Int32) (p2_codes : Nat → Int32) (p2_counts : Nat → Int32) (size' : Int32) (total' : Int32) (codes' : Nat → Int32) (counts' : Nat → Int32) (h : f_X0_becomeDifference fu n_codes n_counts n_p1_codes n_p1_counts n_p2_codes n_p2_counts p1_size p1_codes p1_counts p2_size p2_codes p2_counts size total codes counts = some (size', total', codes', counts')) : k_M l yX0_becomeDifference prog_2_method_13_code 9 (none : Option Jvm.ClassFile.FieldType) rm_X0_becomeDifference D cA [.ref a_this, .ref a_p1, .ref a_p2] [(a_this, .inr (0, [.ref a_codes, .ref a_counts, .int size, .int total])), (a_codes, .inl (cA 0, n_codes, .inl codes)), (a_counts, .inl (cA 0, n_counts, .inl counts)), (a_p1, .inr (0, [.ref a_p1_codes, .ref a_p1_counts, .int p1_size, .int p1_total])), (a_p1_codes, .inl (cA 0, n_p1_codes, .inl p1_codes)), (a_p1_counts, .inl (cA 0, n_p1_counts, .inl p1_counts)), (a_p2, .inr (0, [.ref a_p2_codes, .ref a_p2_counts, .int p2_size, .int p2_total])), (a_p2_codes, .inl (cA 0, n_p2_codes, .inl p2_codes)), (a_p2_counts, .inl (cA 0, n_p2_counts, .inl p2_counts))] sz (none) [(a_this, .inr (0, [.ref a_codes, .ref a_counts, .int (size'), .int (total')])), (a_codes, .inl (cA 0, n_codes, .inl (codes'))), (a_counts, .inl (cA 0, n_counts, .inl (counts'))), (a_p1, .inr (0, [.ref a_p1_codes, .ref a_p1_counts, .int p1_size, .int p1_total])), (a_p1_codes, .inl (cA 0, n_p1_codes, .inl p1_codes)), (a_p1_counts, .inl (cA 0, n_p1_counts, .inl p1_counts)), (a_p2, .inr (0, [.ref a_p2_codes, .ref a_p2_counts, .int p2_size, .int p2_total])), (a_p2_codes, .inl (cA 0, n_p2_codes, .inl p2_codes)), (a_p2_counts, .inl (cA 0, n_p2_counts, .inl p2_counts))] := by
  refine k_ofW (by decide) (Nat.le_of_ble_eq_true rfl) ?_
  intro p e s m below meth c A ls hx hb hr hml hts hown hlocks hB hA hW hl
  have hl : lv_has ls 9 [(0, .ref a_this), (1, .ref a_p1), (2, .ref a_p2)] := hl
  obtain ⟨H, eH⟩ : ∃ H, H = s.heap := ⟨_, rfl⟩
  obtain ⟨locs, eL⟩ : ∃ L : List Loc, L = [] := ⟨_, rfl⟩
  have hW : k_Wd D A s.heap [(a_this, .inr (0, [.ref a_codes, .ref a_counts, .int size, .int total])), (a_codes, .inl (cA 0, n_codes, .inl codes)), (a_counts, .inl (cA 0, n_counts, .inl counts)), (a_p1, .inr (0, [.ref a_p1_codes, .ref a_p1_counts, .int p1_size, .int p1_total])), (a_p1_codes, .inl (cA 0, n_p1_codes, .inl p1_codes)), (a_p1_counts, .inl (cA 0, n_p1_counts, .inl p1_counts)), (a_p2, .inr (0, [.ref a_p2_codes, .ref a_p2_counts, .int p2_size, .int p2_total])), (a_p2_codes, .inl (cA 0, n_p2_codes, .inl p2_codes)), (a_p2_counts, .inl (cA 0, n_p2_counts, .inl p2_counts))] H locs := by rw [eH, eL]; exact hW
  suffices K : W p l e rm_X0_becomeDifference s m [.ref a_this, .ref a_p1, .ref a_p2].toArray below meth c H locs 0 0 (MQ below (k_Q (none) D [(a_this, .inr (0, [.ref a_codes, .ref a_counts, .int (size'), .int (total')])), (a_codes, .inl (cA 0, n_codes, .inl (codes'))), (a_counts, .inl (cA 0, n_counts, .inl (counts'))), (a_p1, .inr (0, [.ref a_p1_codes, .ref a_p1_counts, .int p1_size, .int p1_total])), (a_p1_codes, .inl (cA 0, n_p1_codes, .inl p1_codes)), (a_p1_counts, .inl (cA 0, n_p1_counts, .inl p1_counts)), (a_p2, .inr (0, [.ref a_p2_codes, .ref a_p2_counts, .int p2_size, .int p2_total])), (a_p2_codes, .inl (cA 0, n_p2_codes, .inl p2_codes)), (a_p2_counts, .inl (cA 0, n_p2_counts, .inl p2_counts))] A) [.ref a_this, .ref a_p1, .ref a_p2].toArray s 0 0 A) (F0 m 0 ls []) by rw [eH, eL] at K; exact K
  clear eH eL
  have J23 : ∀ (n23 : Nat) (x3 : Int32) (x4 : Int32) (x5 : Int32) (x6 : Int32) (size : Int32) (total : Int32) (codes : Nat → Int32) (counts : Nat → Int32) (H : Heap) (locs : List Loc) (ls : Array Slot), k_Wd D A s.heap [(a_this, .inr (0, [.ref a_codes, .ref a_counts, .int size, .int total])), (a_codes, .inl (cA 0, n_codes, .inl codes)), (a_counts, .inl (cA 0, n_counts, .inl counts)), (a_p1, .inr (0, [.ref a_p1_codes, .ref a_p1_counts, .int p1_size, .int p1_total])), (a_p1_codes, .inl (cA 0, n_p1_codes, .inl p1_codes)), (a_p1_counts, .inl (cA 0, n_p1_counts, .inl p1_counts)), (a_p2, .inr (0, [.ref a_p2_codes, .ref a_p2_counts, .int p2_size, .int p2_total])), (a_p2_codes, .inl (cA 0, n_p2_codes, .inl p2_codes)), (a_p2_counts, .inl (cA 0, n_p2_counts, .inl p2_counts))] H locs → lv_has ls 9 [(0, .ref a_this), (1, .ref a_p1), (2, .ref a_p2), (3, .int x3), (4, .int x4), (5, .int x5), (6, .int x6)] → f_X0_becomeDifference_23 fu n_codes n_counts n_p1_codes n_p1_counts n_p2_codes n_p2_counts p1_size p1_codes p1_counts p2_size p2_codes p2_counts n23 x3 x4 x5 x6 size total codes counts = some (size', total', codes', counts') → W p l e rm_X0_becomeDifference s m [.ref a_this, .ref a_p1, .ref a_p2].toArray below meth c H locs 0 0 (MQ below (k_Q (none) D [(a_this, .inr (0, [.ref a_codes, .ref a_counts, .int (size'), .int (total')])), (a_codes, .inl (cA 0, n_codes, .inl (codes'))), (a_counts, .inl (cA 0, n_counts, .inl (counts'))), (a_p1, .inr (0, [.ref a_p1_codes, .ref a_p1_counts, .int p1_size, .int p1_total])), (a_p1_codes, .inl (cA 0, n_p1_codes, .inl p1_codes)), (a_p1_counts, .inl (cA 0, n_p1_counts, .inl p1_counts)), (a_p2, .inr (0, [.ref a_p2_codes, .ref a_p2_counts, .int p2_size, .int p2_total])), (a_p2_codes, .inl (cA 0, n_p2_codes, .inl p2_codes)), (a_p2_counts, .inl (cA 0, n_p2_counts, .inl p2_counts))] A) [.ref a_this, .ref a_p1, .ref a_p2].toArray s 0 0 A) (F0 m 23 ls []) := by
    intro n23
    induction n23 with
    | zero => intro x3 x4 x5 x6 size total codes counts H locs ls hW hl h; exact k_no h
    | succ n23 ih23 =>
      have J118 : ∀ (x3 : Int32) (x4 : Int32) (x5 : Int32) (x6 : Int32) (size : Int32) (total : Int32) (codes : Nat → Int32) (counts : Nat → Int32) (H : Heap) (locs : List Loc) (ls : Array Slot), k_Wd D A s.heap [(a_this, .inr (0, [.ref a_codes, .ref a_counts, .int size, .int total])), (a_codes, .inl (cA 0, n_codes, .inl codes)), (a_counts, .inl (cA 0, n_counts, .inl counts)), (a_p1, .inr (0, [.ref a_p1_codes, .ref a_p1_counts, .int p1_size, .int p1_total])), (a_p1_codes, .inl (cA 0, n_p1_codes, .inl p1_codes)), (a_p1_counts, .inl (cA 0, n_p1_counts, .inl p1_counts)), (a_p2, .inr (0, [.ref a_p2_codes, .ref a_p2_counts, .int p2_size, .int p2_total])), (a_p2_codes, .inl (cA 0, n_p2_codes, .inl p2_codes)), (a_p2_counts, .inl (cA 0, n_p2_counts, .inl p2_counts))] H locs → lv_has ls 9 [(0, .ref a_this), (1, .ref a_p1), (2, .ref a_p2), (3, .int x3), (4, .int x4), (5, .int x5), (6, .int x6)] → f_X0_becomeDifference_118 fu n_codes n_counts n_p1_codes n_p1_counts n_p2_codes n_p2_counts p1_size p1_codes p1_counts p2_size p2_codes p2_counts (f_X0_becomeDifference_23 fu n_codes n_counts n_p1_codes n_p1_counts n_p2_codes n_p2_counts p1_size p1_codes p1_counts p2_size p2_codes p2_counts n23) x3 x4 x5 x6 size total codes counts = some (size', total', codes', counts') → W p l e rm_X0_becomeDifference s m [.ref a_this, .ref a_p1, .ref a_p2].toArray below meth c H locs 0 0 (MQ below (k_Q (none) D [(a_this, .inr (0, [.ref a_codes, .ref a_counts, .int (size'), .int (total')])), (a_codes, .inl (cA 0, n_codes, .inl (codes'))), (a_counts, .inl (cA 0, n_counts, .inl (counts'))), (a_p1, .inr (0, [.ref a_p1_codes, .ref a_p1_counts, .int p1_size, .int p1_total])), (a_p1_codes, .inl (cA 0, n_p1_codes, .inl p1_codes)), (a_p1_counts, .inl (cA 0, n_p1_counts, .inl p1_counts)), (a_p2, .inr (0, [.ref a_p2_codes, .ref a_p2_counts, .int p2_size, .int p2_total])), (a_p2_codes, .inl (cA 0, n_p2_codes, .inl p2_codes)), (a_p2_counts, .inl (cA 0, n_p2_counts, .inl p2_counts))] A) [.ref a_this, .ref a_p1, .ref a_p2].toArray s 0 0 A) (F0 m 118 ls []) := by
        intro x3 x4 x5 x6 size total codes counts H locs ls hW hl h
        obtain ⟨x_1, ex_1⟩ : ∃ y : Int32, y = x6 + 1 := ⟨_, rfl⟩
        have h := k_letE ex_1 h
        refine lv_iinc (v := x_1) (lv' := [(6, .int x_1), (0, .ref a_this), (1, .ref a_p1), (2, .ref a_p2), (3, .int x3), (4, .int x4), (5, .int x5)]) hx hb dX0_becomeDifference_118 hl (k := 6) rfl (by rw [ex_1]; rfl) (by decide) rfl (fun ls hl => ?_)
        refine lv_goto (tgt := 23) hx hb dX0_becomeDifference_121 (by decide) ?_
        exact ih23 x3 x4 x5 x_1 size total codes counts H locs ls hW (lv_sub hl [1, 2, 3, 4, 5, 6, 0] rfl) h
      have J105 : ∀ (x3 : Int32) (x4 : Int32) (x5 : Int32) (x6 : Int32) (x7 : Int32) (x8 : Int32) (size : Int32) (total : Int32) (codes : Nat → Int32) (counts : Nat → Int32) (H : Heap) (locs : List Loc) (ls : Array Slot), k_Wd D A s.heap [(a_this, .inr (0, [.ref a_codes, .ref a_counts, .int size, .int total])), (a_codes, .inl (cA 0, n_codes, .inl codes)), (a_counts, .inl (cA 0, n_counts, .inl counts)), (a_p1, .inr (0, [.ref a_p1_codes, .ref a_p1_counts, .int p1_size, .int p1_total])), (a_p1_codes, .inl (cA 0, n_p1_codes, .inl p1_codes)), (a_p1_counts, .inl (cA 0, n_p1_counts, .inl p1_counts)), (a_p2, .inr (0, [.ref a_p2_codes, .ref a_p2_counts, .int p2_size, .int p2_total])), (a_p2_codes, .inl (cA 0, n_p2_codes, .inl p2_codes)), (a_p2_counts, .inl (cA 0, n_p2_counts, .inl p2_counts))] H locs → lv_has ls 9 [(0, .ref a_this), (1, .ref a_p1), (2, .ref a_p2), (3, .int x3), (4, .int x4), (5, .int x5), (6, .int x6), (7, .int x7), (8, .int x8)] → f_X0_becomeDifference_105 fu n_codes n_counts n_p1_codes n_p1_counts n_p2_codes n_p2_counts p1_size p1_codes p1_counts p2_size p2_codes p2_counts (f_X0_becomeDifference_23 fu n_codes n_counts n_p1_codes n_p1_counts n_p2_codes n_p2_counts p1_size p1_codes p1_counts p2_size p2_codes p2_counts n23) x3 x4 x5 x6 x7 x8 size total codes counts = some (size', total', codes', counts') → W p l e rm_X0_becomeDifference s m [.ref a_this, .ref a_p1, .ref a_p2].toArray below meth c H locs 0 0 (MQ below (k_Q (none) D [(a_this, .inr (0, [.ref a_codes, .ref a_counts, .int (size'), .int (total')])), (a_codes, .inl (cA 0, n_codes, .inl (codes'))), (a_counts, .inl (cA 0, n_counts, .inl (counts'))), (a_p1, .inr (0, [.ref a_p1_codes, .ref a_p1_counts, .int p1_size, .int p1_total])), (a_p1_codes, .inl (cA 0, n_p1_codes, .inl p1_codes)), (a_p1_counts, .inl (cA 0, n_p1_counts, .inl p1_counts)), (a_p2, .inr (0, [.ref a_p2_codes, .ref a_p2_counts, .int p2_size, .int p2_total])), (a_p2_codes, .inl (cA 0, n_p2_codes, .inl p2_codes)), (a_p2_counts, .inl (cA 0, n_p2_counts, .inl p2_counts))] A) [.ref a_this, .ref a_p1, .ref a_p2].toArray s 0 0 A) (F0 m 105 ls []) := by
        intro x3 x4 x5 x6 x7 x8 size total codes counts H locs ls hW hl h
        refine lv_iload hx hb dX0_becomeDifference_105 (lv_at hl 8 rfl) ?_
        refine lv_if_eq (tgt := 118) hx hb dX0_becomeDifference_107 (by decide) (fun c_2 => ?_) (fun c_2 => ?_)
        · have h := k_t c_2 h
          exact J118 x3 x4 x5 x6 size total codes counts H locs ls hW (lv_sub hl [0, 1, 2, 3, 4, 5, 6] rfl) h
        · have h := k_f c_2 h
          refine lv_aload_n hx hb dX0_becomeDifference_110 rfl (lv_at hl 0 rfl) ?_
          refine lv_iload hx hb dX0_becomeDifference_111 (lv_at hl 7 rfl) ?_
          refine lv_iload hx hb dX0_becomeDifference_113 (lv_at hl 8 rfl) ?_
          obtain ⟨size__4, total__5, codes__6, counts__7, h_3, h⟩ := k_bE4 h
          refine k_callV (C := RX0) (ws' := [(a_this, .inr (0, [.ref a_codes, .ref a_counts, .int size__4, .int total__5])), (a_codes, .inl (cA 0, n_codes, .inl codes__6)), (a_counts, .inl (cA 0, n_counts, .inl counts__7)), (a_p1, .inr (0, [.ref a_p1_codes, .ref a_p1_counts, .int p1_size, .int p1_total])), (a_p1_codes, .inl (cA 0, n_p1_codes, .inl p1_codes)), (a_p1_counts, .inl (cA 0, n_p1_counts, .inl p1_counts)), (a_p2, .inr (0, [.ref a_p2_codes, .ref a_p2_counts, .int p2_size, .int p2_total])), (a_p2_codes, .inl (cA 0, n_p2_codes, .inl p2_codes)), (a_p2_counts, .inl (cA 0, n_p2_counts, .inl p2_counts))]) (As := [.int x7, .int x8]) (rest := []) (b := a_this) (m_X0_append l D cA H.size a_this a_codes a_counts n_codes n_counts size total codes counts x7 x8 size__4 total__5 codes__6 counts__7 h_3) hx hb hml hown hts hB hA hW hl.1 q2_32 q1_3 q2_30 q2_31 q2_29 pd_X0_append ⟨rfl, rfl, Nat.le_of_ble_eq_true rfl, Nat.le_of_ble_eq_true rfl⟩ rfl 0 rfl rfl [0, 1, 2] [3, 4, 5, 6, 7, 8] ⟨rfl, rfl, rfl, trivial⟩ rfl ⟨⟨rfl, rfl, rfl, trivial⟩, ⟨rfl, rfl, rfl, rfl, rfl, rfl, trivial⟩, rfl⟩ rfl rfl (Nat.le_of_ble_eq_true rfl) ⟨Nat.zero_le _, Nat.zero_le _⟩ dX0_becomeDifference_115 (st1 := []) rfl (fun H locs hW => ?_)
          exact J118 x3 x4 x5 x6 size__4 total__5 codes__6 counts__7 H locs ls hW (lv_sub hl [0, 1, 2, 3, 4, 5, 6] rfl) h
      have J80 : ∀ (x3 : Int32) (x4 : Int32) (x5 : Int32) (x6 : Int32) (x7 : Int32) (x8 : Int32) (size : Int32) (total : Int32) (codes : Nat → Int32) (counts : Nat → Int32) (H : Heap) (locs : List Loc) (ls : Array Slot), k_Wd D A s.heap [(a_this, .inr (0, [.ref a_codes, .ref a_counts, .int size, .int total])), (a_codes, .inl (cA 0, n_codes, .inl codes)), (a_counts, .inl (cA 0, n_counts, .inl counts)), (a_p1, .inr (0, [.ref a_p1_codes, .ref a_p1_counts, .int p1_size, .int p1_total])), (a_p1_codes, .inl (cA 0, n_p1_codes, .inl p1_codes)), (a_p1_counts, .inl (cA 0, n_p1_counts, .inl p1_counts)), (a_p2, .inr (0, [.ref a_p2_codes, .ref a_p2_counts, .int p2_size, .int p2_total])), (a_p2_codes, .inl (cA 0, n_p2_codes, .inl p2_codes)), (a_p2_counts, .inl (cA 0, n_p2_counts, .inl p2_counts))] H locs → lv_has ls 9 [(0, .ref a_this), (1, .ref a_p1), (2, .ref a_p2), (3, .int x3), (4, .int x4), (5, .int x5), (6, .int x6), (7, .int x7), (8, .int x8)] → f_X0_becomeDifference_80 fu n_codes n_counts n_p1_codes n_p1_counts n_p2_codes n_p2_counts p1_size p1_codes p1_counts p2_size p2_codes p2_counts (f_X0_becomeDifference_23 fu n_codes n_counts n_p1_codes n_p1_counts n_p2_codes n_p2_counts p1_size p1_codes p1_counts p2_size p2_codes p2_counts n23) x3 x4 x5 x6 x7 x8 size total codes counts = some (size', total', codes', counts') → W p l e rm_X0_becomeDifference s m [.ref a_this, .ref a_p1, .ref a_p2].toArray below meth c H locs 0 0 (MQ below (k_Q (none) D [(a_this, .inr (0, [.ref a_codes, .ref a_counts, .int (size'), .int (total')])), (a_codes, .inl (cA 0, n_codes, .inl (codes'))), (a_counts, .inl (cA 0, n_counts, .inl (counts'))), (a_p1, .inr (0, [.ref a_p1_codes, .ref a_p1_counts, .int p1_size, .int p1_total])), (a_p1_codes, .inl (cA 0, n_p1_codes, .inl p1_codes)), (a_p1_counts, .inl (cA 0, n_p1_counts, .inl p1_counts)), (a_p2, .inr (0, [.ref a_p2_codes, .ref a_p2_counts, .int p2_size, .int p2_total])), (a_p2_codes, .inl (cA 0, n_p2_codes, .inl p2_codes)), (a_p2_counts, .inl (cA 0, n_p2_counts, .inl p2_counts))] A) [.ref a_this, .ref a_p1, .ref a_p2].toArray s 0 0 A) (F0 m 80 ls []) := by
        intro x3 x4 x5 x6 x7 x8 size total codes counts H locs ls hW hl h
        refine lv_aload_n hx hb dX0_becomeDifference_80 rfl (lv_at hl 2 rfl) ?_
        refine lv_iload hx hb dX0_becomeDifference_81 (lv_at hl 4 rfl) ?_
        obtain ⟨r_10, h_9, h⟩ := k_bE1 h
        refine k_callV (C := RX0) (ws' := [(a_this, .inr (0, [.ref a_codes, .ref a_counts, .int size, .int total])), (a_codes, .inl (cA 0, n_codes, .inl codes)), (a_counts, .inl (cA 0, n_counts, .inl counts)), (a_p1, .inr (0, [.ref a_p1_codes, .ref a_p1_counts, .int p1_size, .int p1_total])), (a_p1_codes, .inl (cA 0, n_p1_codes, .inl p1_codes)), (a_p1_counts, .inl (cA 0, n_p1_counts, .inl p1_counts)), (a_p2, .inr (0, [.ref a_p2_codes, .ref a_p2_counts, .int p2_size, .int p2_total])), (a_p2_codes, .inl (cA 0, n_p2_codes, .inl p2_codes)), (a_p2_counts, .inl (cA 0, n_p2_counts, .inl p2_counts))]) (As := [.int x4]) (rest := []) (b := a_p2) (m_X0_codeAt l D cA H.size a_p2 a_p2_codes a_p2_counts n_p2_codes p2_size p2_total p2_codes x4 r_10 h_9) hx hb hml hown hts hB hA hW hl.1 q2_23 q1_3 q2_21 q2_22 q2_20 pd_X0_codeAt ⟨rfl, rfl, Nat.le_of_ble_eq_true rfl, Nat.le_of_ble_eq_true rfl⟩ rfl 6 rfl rfl [6, 7] [0, 1, 2, 3, 4, 5, 8] ⟨rfl, rfl, trivial⟩ rfl ⟨⟨rfl, rfl, trivial⟩, ⟨rfl, rfl, rfl, rfl, rfl, rfl, rfl, trivial⟩, rfl⟩ rfl rfl (Nat.le_of_ble_eq_true rfl) ⟨Nat.zero_le _, Nat.zero_le _⟩ dX0_becomeDifference_83 (st1 := [.int r_10]) rfl (fun H locs hW => ?_)
        refine lv_iload hx hb dX0_becomeDifference_86 (lv_at hl 7 rfl) ?_
        refine lv_icmp_ne (tgt := 105) hx hb dX0_becomeDifference_88 (by decide) (fun c_12 => ?_) (fun c_12 => ?_)
        · have h := k_f c_12 h
          exact J105 x3 x4 x5 x6 x7 x8 size total codes counts H locs ls hW (lv_sub hl [0, 1, 2, 3, 4, 5, 6, 7, 8] rfl) h
        · have h := k_t c_12 h
          refine lv_iload hx hb dX0_becomeDifference_91 (lv_at hl 8 rfl) ?_
          refine lv_aload_n hx hb dX0_becomeDifference_93 rfl (lv_at hl 2 rfl) ?_
          refine lv_iload hx hb dX0_becomeDifference_94 (lv_at hl 4 rfl) ?_
          obtain ⟨r_14, h_13, h⟩ := k_bE1 h
          refine k_callV (C := RX0) (ws' := [(a_this, .inr (0, [.ref a_codes, .ref a_counts, .int size, .int total])), (a_codes, .inl (cA 0, n_codes, .inl codes)), (a_counts, .inl (cA 0, n_counts, .inl counts)), (a_p1, .inr (0, [.ref a_p1_codes, .ref a_p1_counts, .int p1_size, .int p1_total])), (a_p1_codes, .inl (cA 0, n_p1_codes, .inl p1_codes)), (a_p1_counts, .inl (cA 0, n_p1_counts, .inl p1_counts)), (a_p2, .inr (0, [.ref a_p2_codes, .ref a_p2_counts, .int p2_size, .int p2_total])), (a_p2_codes, .inl (cA 0, n_p2_codes, .inl p2_codes)), (a_p2_counts, .inl (cA 0, n_p2_counts, .inl p2_counts))]) (As := [.int x4]) (rest := [.int x8]) (b := a_p2) (m_X0_countAt l D cA H.size a_p2 a_p2_counts a_p2_codes n_p2_counts p2_size p2_total p2_counts x4 r_14 h_13) hx hb hml hown hts hB hA hW hl.1 q2_28 q1_3 q2_26 q2_27 q2_25 pd_X0_countAt ⟨rfl, rfl, Nat.le_of_ble_eq_true rfl, Nat.le_of_ble_eq_true rfl⟩ rfl 6 rfl rfl [6, 8] [0, 1, 2, 3, 4, 5, 7] ⟨rfl, rfl, trivial⟩ rfl ⟨⟨rfl, rfl, trivial⟩, ⟨rfl, rfl, rfl, rfl, rfl, rfl, rfl, trivial⟩, rfl⟩ rfl rfl (Nat.le_of_ble_eq_true rfl) ⟨Nat.zero_le _, Nat.zero_le _⟩ dX0_becomeDifference_96 (st1 := [.int r_14, .int x8]) rfl (fun H locs hW => ?_)
          refine lv_isub hx hb dX0_becomeDifference_99 ?_
          refine lv_topi (fun x_16 ex_16 => ?_)
          have h := k_letE ex_16 h
          refine lv_istore (lv' := [(8, .int x_16), (0, .ref a_this), (1, .ref a_p1), (2, .ref a_p2), (3, .int x3), (4, .int x4), (5, .int x5), (6, .int x6), (7, .int x7)]) hx hb dX0_becomeDifference_100 hl (by decide) rfl (fun ls hl => ?_)
          obtain ⟨x_17, ex_17⟩ : ∃ y : Int32, y = x4 + 1 := ⟨_, rfl⟩
          have h := k_letE ex_17 h
          refine lv_iinc (v := x_17) (lv' := [(4, .int x_17), (8, .int x_16), (0, .ref a_this), (1, .ref a_p1), (2, .ref a_p2), (3, .int x3), (5, .int x5), (6, .int x6), (7, .int x7)]) hx hb dX0_becomeDifference_102 hl (k := 5) rfl (by rw [ex_17]; rfl) (by decide) rfl (fun ls hl => ?_)
          exact J105 x3 x_17 x5 x6 x7 x_16 size total codes counts H locs ls hW (lv_sub hl [2, 3, 4, 5, 0, 6, 7, 8, 1] rfl) h
      intro x3 x4 x5 x6 size total codes counts H locs ls hW hl h
      have h := (fs_X0_becomeDifference_23 _ _ _ _ _ _ _ _ _ _ _ _ _ _ _ _ _ _ _ _ _ _).symm.trans h
      refine lv_iload hx hb dX0_becomeDifference_23 (lv_at hl 6 rfl) ?_
      refine lv_iload hx hb dX0_becomeDifference_25 (lv_at hl 5 rfl) ?_
      refine lv_icmp_ge (tgt := 124) hx hb dX0_becomeDifference_27 (by decide) (fun c_18 => ?_) (fun c_18 => ?_)
      · have h := k_t c_18 h
        obtain ⟨z0, z1, z2, z3⟩ := k_inj4 h
        rw [← z0, ← z1, ← z2, ← z3]
        exact W.vret hx hb hr (fun t ht hWm => ⟨rfl, by rw [ht]; exact hW.1, hW.2.2.F ht⟩) hW.2.2.2.2 dX0_becomeDifference_124
      · have h := k_f c_18 h
        refine lv_aload_n hx hb dX0_becomeDifference_30 rfl (lv_at hl 1 rfl) ?_
        refine lv_iload_n hx hb dX0_becomeDifference_31 rfl (lv_at hl 3 rfl) ?_
        obtain ⟨r_20, h_19, h⟩ := k_bE1 h
        refine k_callV (C := RX0) (ws' := [(a_this, .inr (0, [.ref a_codes, .ref a_counts, .int size, .int total])), (a_codes, .inl (cA 0, n_codes, .inl codes)), (a_counts, .inl (cA 0, n_counts, .inl counts)), (a_p1, .inr (0, [.ref a_p1_codes, .ref a_p1_counts, .int p1_size, .int p1_total])), (a_p1_codes, .inl (cA 0, n_p1_codes, .inl p1_codes)), (a_p1_counts, .inl (cA 0, n_p1_counts, .inl p1_counts)), (a_p2, .inr (0, [.ref a_p2_codes, .ref a_p2_counts, .int p2_size, .int p2_total])), (a_p2_codes, .inl (cA 0, n_p2_codes, .inl p2_codes)), (a_p2_counts, .inl (cA 0, n_p2_counts, .inl p2_counts))]) (As := [.int x3]) (rest := []) (b := a_p1) (m_X0_codeAt l D cA H.size a_p1 a_p1_codes a_p1_counts n_p1_codes p1_size p1_total p1_codes x3 r_20 h_19) hx hb hml hown hts hB hA hW hl.1 q2_23 q1_3 q2_21 q2_22 q2_20 pd_X0_codeAt ⟨rfl, rfl, Nat.le_of_ble_eq_true rfl, Nat.le_of_ble_eq_true rfl⟩ rfl 3 rfl rfl [3, 4] [0, 1, 2, 5, 6, 7, 8] ⟨rfl, rfl, trivial⟩ rfl ⟨⟨rfl, rfl, trivial⟩, ⟨rfl, rfl, rfl, rfl, rfl, rfl, rfl, trivial⟩, rfl⟩ rfl rfl (Nat.le_of_ble_eq_true rfl) ⟨Nat.zero_le _, Nat.zero_le _⟩ dX0_becomeDifference_32 (st1 := [.int r_20]) rfl (fun H locs hW => ?_)
        refine lv_aload_n hx hb dX0_becomeDifference_35 rfl (lv_at hl 2 rfl) ?_
        refine lv_iload hx hb dX0_becomeDifference_36 (lv_at hl 4 rfl) ?_
        obtain ⟨r_23, h_22, h⟩ := k_bE1 h
        refine k_callV (C := RX0) (ws' := [(a_this, .inr (0, [.ref a_codes, .ref a_counts, .int size, .int total])), (a_codes, .inl (cA 0, n_codes, .inl codes)), (a_counts, .inl (cA 0, n_counts, .inl counts)), (a_p1, .inr (0, [.ref a_p1_codes, .ref a_p1_counts, .int p1_size, .int p1_total])), (a_p1_codes, .inl (cA 0, n_p1_codes, .inl p1_codes)), (a_p1_counts, .inl (cA 0, n_p1_counts, .inl p1_counts)), (a_p2, .inr (0, [.ref a_p2_codes, .ref a_p2_counts, .int p2_size, .int p2_total])), (a_p2_codes, .inl (cA 0, n_p2_codes, .inl p2_codes)), (a_p2_counts, .inl (cA 0, n_p2_counts, .inl p2_counts))]) (As := [.int x4]) (rest := [.int r_20]) (b := a_p2) (m_X0_codeAt l D cA H.size a_p2 a_p2_codes a_p2_counts n_p2_codes p2_size p2_total p2_codes x4 r_23 h_22) hx hb hml hown hts hB hA hW hl.1 q2_23 q1_3 q2_21 q2_22 q2_20 pd_X0_codeAt ⟨rfl, rfl, Nat.le_of_ble_eq_true rfl, Nat.le_of_ble_eq_true rfl⟩ rfl 6 rfl rfl [6, 7] [0, 1, 2, 3, 4, 5, 8] ⟨rfl, rfl, trivial⟩ rfl ⟨⟨rfl, rfl, trivial⟩, ⟨rfl, rfl, rfl, rfl, rfl, rfl, rfl, trivial⟩, rfl⟩ rfl rfl (Nat.le_of_ble_eq_true rfl) ⟨Nat.zero_le _, Nat.zero_le _⟩ dX0_becomeDifference_38 (st1 := [.int r_23, .int r_20]) rfl (fun H locs hW => ?_)
        refine va_mmin hx hb (hml.trans hl.1.symm) hown (hts _ q2_151) (hts _ q2_47) (hts _ q1_18) (hts _ q2_48) (Nat.le_of_ble_eq_true rfl) (Nat.le_of_ble_eq_true rfl) (Nat.zero_le _) (Nat.zero_le _) dX0_becomeDifference_41 ?_
        refine lv_topi (fun x_25 ex_25 => ?_)
        have h := k_letE ex_25 h
        refine lv_istore (lv' := [(7, .int x_25), (0, .ref a_this), (1, .ref a_p1), (2, .ref a_p2), (3, .int x3), (4, .int x4), (5, .int x5), (6, .int x6)]) hx hb dX0_becomeDifference_44 hl (by decide) rfl (fun ls hl => ?_)
        refine lv_iload hx hb dX0_becomeDifference_46 (lv_at hl 0 rfl) ?_
        refine lv_ldc (v := 1000000) hx hb hown (hts _ q2_24) dX0_becomeDifference_48 ?_
        refine lv_icmp_ne (tgt := 54) hx hb dX0_becomeDifference_50 (by decide) (fun c_26 => ?_) (fun c_26 => ?_)
        · have h := k_f c_26 h
          refine lv_iconst (v := 0) hx hb dX0_becomeDifference_54 (by decide) ?_
          refine lv_istore (lv' := [(8, .int 0), (7, .int x_25), (0, .ref a_this), (1, .ref a_p1), (2, .ref a_p2), (3, .int x3), (4, .int x4), (5, .int x5), (6, .int x6)]) hx hb dX0_becomeDifference_55 hl (by decide) rfl (fun ls hl => ?_)
          refine lv_aload_n hx hb dX0_becomeDifference_57 rfl (lv_at hl 3 rfl) ?_
          refine lv_iload_n hx hb dX0_becomeDifference_58 rfl (lv_at hl 5 rfl) ?_
          obtain ⟨r_28, h_27, h⟩ := k_bE1 h
          refine k_callV (C := RX0) (ws' := [(a_this, .inr (0, [.ref a_codes, .ref a_counts, .int size, .int total])), (a_codes, .inl (cA 0, n_codes, .inl codes)), (a_counts, .inl (cA 0, n_counts, .inl counts)), (a_p1, .inr (0, [.ref a_p1_codes, .ref a_p1_counts, .int p1_size, .int p1_total])), (a_p1_codes, .inl (cA 0, n_p1_codes, .inl p1_codes)), (a_p1_counts, .inl (cA 0, n_p1_counts, .inl p1_counts)), (a_p2, .inr (0, [.ref a_p2_codes, .ref a_p2_counts, .int p2_size, .int p2_total])), (a_p2_codes, .inl (cA 0, n_p2_codes, .inl p2_codes)), (a_p2_counts, .inl (cA 0, n_p2_counts, .inl p2_counts))]) (As := [.int x3]) (rest := []) (b := a_p1) (m_X0_codeAt l D cA H.size a_p1 a_p1_codes a_p1_counts n_p1_codes p1_size p1_total p1_codes x3 r_28 h_27) hx hb hml hown hts hB hA hW hl.1 q2_23 q1_3 q2_21 q2_22 q2_20 pd_X0_codeAt ⟨rfl, rfl, Nat.le_of_ble_eq_true rfl, Nat.le_of_ble_eq_true rfl⟩ rfl 3 rfl rfl [3, 4] [0, 1, 2, 5, 6, 7, 8] ⟨rfl, rfl, trivial⟩ rfl ⟨⟨rfl, rfl, trivial⟩, ⟨rfl, rfl, rfl, rfl, rfl, rfl, rfl, trivial⟩, rfl⟩ rfl rfl (Nat.le_of_ble_eq_true rfl) ⟨Nat.zero_le _, Nat.zero_le _⟩ dX0_becomeDifference_59 (st1 := [.int r_28]) rfl (fun H locs hW => ?_)
          refine lv_iload hx hb dX0_becomeDifference_62 (lv_at hl 1 rfl) ?_
          refine lv_icmp_ne (tgt := 80) hx hb dX0_becomeDifference_64 (by decide) (fun c_30 => ?_) (fun c_30 => ?_)
          · have h := k_f c_30 h
            exact J80 x3 x4 x5 x6 x_25 0 size total codes counts H locs ls hW (lv_sub hl [2, 3, 4, 5, 6, 7, 8, 1, 0] rfl) h
          · have h := k_t c_30 h
            refine lv_iload hx hb dX0_becomeDifference_67 (lv_at hl 0 rfl) ?_
            refine lv_aload_n hx hb dX0_becomeDifference_69 rfl (lv_at hl 3 rfl) ?_
            refine lv_iload_n hx hb dX0_becomeDifference_70 rfl (lv_at hl 5 rfl) ?_
            obtain ⟨r_32, h_31, h⟩ := k_bE1 h
            refine k_callV (C := RX0) (ws' := [(a_this, .inr (0, [.ref a_codes, .ref a_counts, .int size, .int total])), (a_codes, .inl (cA 0, n_codes, .inl codes)), (a_counts, .inl (cA 0, n_counts, .inl counts)), (a_p1, .inr (0, [.ref a_p1_codes, .ref a_p1_counts, .int p1_size, .int p1_total])), (a_p1_codes, .inl (cA 0, n_p1_codes, .inl p1_codes)), (a_p1_counts, .inl (cA 0, n_p1_counts, .inl p1_counts)), (a_p2, .inr (0, [.ref a_p2_codes, .ref a_p2_counts, .int p2_size, .int p2_total])), (a_p2_codes, .inl (cA 0, n_p2_codes, .inl p2_codes)), (a_p2_counts, .inl (cA 0, n_p2_counts, .inl p2_counts))]) (As := [.int x3]) (rest := [.int 0]) (b := a_p1) (m_X0_countAt l D cA H.size a_p1 a_p1_counts a_p1_codes n_p1_counts p1_size p1_total p1_counts x3 r_32 h_31) hx hb hml hown hts hB hA hW hl.1 q2_28 q1_3 q2_26 q2_27 q2_25 pd_X0_countAt ⟨rfl, rfl, Nat.le_of_ble_eq_true rfl, Nat.le_of_ble_eq_true rfl⟩ rfl 3 rfl rfl [3, 5] [0, 1, 2, 4, 6, 7, 8] ⟨rfl, rfl, trivial⟩ rfl ⟨⟨rfl, rfl, trivial⟩, ⟨rfl, rfl, rfl, rfl, rfl, rfl, rfl, trivial⟩, rfl⟩ rfl rfl (Nat.le_of_ble_eq_true rfl) ⟨Nat.zero_le _, Nat.zero_le _⟩ dX0_becomeDifference_71 (st1 := [.int r_32, .int 0]) rfl (fun H locs hW => ?_)
            refine lv_iadd hx hb dX0_becomeDifference_74 ?_
            refine lv_topi (fun x_34 ex_34 => ?_)
            have h := k_letE ex_34 h
            refine lv_istore (lv' := [(8, .int x_34), (7, .int x_25), (0, .ref a_this), (1, .ref a_p1), (2, .ref a_p2), (3, .int x3), (4, .int x4), (5, .int x5), (6, .int x6)]) hx hb dX0_becomeDifference_75 hl (by decide) rfl (fun ls hl => ?_)
            obtain ⟨x_35, ex_35⟩ : ∃ y : Int32, y = x3 + 1 := ⟨_, rfl⟩
            have h := k_letE ex_35 h
            refine lv_iinc (v := x_35) (lv' := [(3, .int x_35), (8, .int x_34), (7, .int x_25), (0, .ref a_this), (1, .ref a_p1), (2, .ref a_p2), (4, .int x4), (5, .int x5), (6, .int x6)]) hx hb dX0_becomeDifference_77 hl (k := 5) rfl (by rw [ex_35]; rfl) (by decide) rfl (fun ls hl => ?_)
            exact J80 x_35 x4 x5 x6 x_25 x_34 size total codes counts H locs ls hW (lv_sub hl [3, 4, 5, 0, 6, 7, 8, 2, 1] rfl) h
        · have h := k_t c_26 h
          obtain ⟨z0, z1, z2, z3⟩ := k_inj4 h
          rw [← z0, ← z1, ← z2, ← z3]
          exact W.vret hx hb hr (fun t ht hWm => ⟨rfl, by rw [ht]; exact hW.1, hW.2.2.F ht⟩) hW.2.2.2.2 dX0_becomeDifference_53
  refine lv_aload_n hx hb dX0_becomeDifference_0 rfl (lv_at hl 0 rfl) ?_
  obtain ⟨size__37, total__38, h_36, h⟩ := k_bE2 h
  refine k_callV (C := RX0) (ws' := [(a_this, .inr (0, [.ref a_codes, .ref a_counts, .int size__37, .int total__38])), (a_codes, .inl (cA 0, n_codes, .inl codes)), (a_counts, .inl (cA 0, n_counts, .inl counts)), (a_p1, .inr (0, [.ref a_p1_codes, .ref a_p1_counts, .int p1_size, .int p1_total])), (a_p1_codes, .inl (cA 0, n_p1_codes, .inl p1_codes)), (a_p1_counts, .inl (cA 0, n_p1_counts, .inl p1_counts)), (a_p2, .inr (0, [.ref a_p2_codes, .ref a_p2_counts, .int p2_size, .int p2_total])), (a_p2_codes, .inl (cA 0, n_p2_codes, .inl p2_codes)), (a_p2_counts, .inl (cA 0, n_p2_counts, .inl p2_counts))]) (As := []) (rest := []) (b := a_this) (m_X0_clear l D cA H.size a_this a_codes a_counts size total size__37 total__38 h_36) hx hb hml hown hts hB hA hW hl.1 q2_19 q1_3 q2_17 q2_18 q2_16 pd_X0_clear ⟨rfl, rfl, Nat.le_of_ble_eq_true rfl, Nat.le_of_ble_eq_true rfl⟩ rfl 0 rfl rfl [0] [1, 2, 3, 4, 5, 6, 7, 8] ⟨rfl, trivial⟩ rfl ⟨⟨rfl, trivial⟩, ⟨rfl, rfl, rfl, rfl, rfl, rfl, rfl, rfl, trivial⟩, rfl⟩ rfl rfl (Nat.le_of_ble_eq_true rfl) ⟨Nat.zero_le _, Nat.zero_le _⟩ dX0_becomeDifference_1 (st1 := []) rfl (fun H locs hW => ?_)
  refine lv_iconst (v := 0) hx hb dX0_becomeDifference_4 (by decide) ?_
  refine lv_istore_n (lv' := [(3, .int 0), (0, .ref a_this), (1, .ref a_p1), (2, .ref a_p2)]) hx hb dX0_becomeDifference_5 rfl hl (by decide) rfl (fun ls hl => ?_)
  refine lv_iconst (v := 0) hx hb dX0_becomeDifference_6 (by decide) ?_
  refine lv_istore (lv' := [(4, .int 0), (3, .int 0), (0, .ref a_this), (1, .ref a_p1), (2, .ref a_p2)]) hx hb dX0_becomeDifference_7 hl (by decide) rfl (fun ls hl => ?_)
  refine lv_aload_n hx hb dX0_becomeDifference_9 rfl (lv_at hl 3 rfl) ?_
  refine va_get (D := D) (ci := 0) (v := .int p1_size) (C := RX0) (T := TX0) (N := 4) hx hb hts iX0 hown hB.1 hW.1 3 rfl rfl 2 (by decide) (hts _ q1_48) (fun _ h9 => h9) rfl dX0_becomeDifference_10 ?_
  refine lv_aload_n hx hb dX0_becomeDifference_13 rfl (lv_at hl 4 rfl) ?_
  refine va_get (D := D) (ci := 0) (v := .int p2_size) (C := RX0) (T := TX0) (N := 4) hx hb hts iX0 hown hB.1 hW.1 6 rfl rfl 2 (by decide) (hts _ q1_48) (fun _ h9 => h9) rfl dX0_becomeDifference_14 ?_
  refine lv_iadd hx hb dX0_becomeDifference_17 ?_
  refine lv_topi (fun x_40 ex_40 => ?_)
  have h := k_letE ex_40 h
  refine lv_istore (lv' := [(5, .int x_40), (4, .int 0), (3, .int 0), (0, .ref a_this), (1, .ref a_p1), (2, .ref a_p2)]) hx hb dX0_becomeDifference_18 hl (by decide) rfl (fun ls hl => ?_)
  refine lv_iconst (v := 0) hx hb dX0_becomeDifference_20 (by decide) ?_
  refine lv_istore (lv' := [(6, .int 0), (5, .int x_40), (4, .int 0), (3, .int 0), (0, .ref a_this), (1, .ref a_p1), (2, .ref a_p2)]) hx hb dX0_becomeDifference_21 hl (by decide) rfl (fun ls hl => ?_)
  exact J23 fu 0 0 x_40 0 size__37 total__38 codes counts H locs ls hW (lv_sub hl [4, 5, 6, 3, 2, 1, 0] rfl) h
