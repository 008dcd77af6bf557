noncomputable def f_X3_sizeOf (n_sizes : Nat) (sizes : Nat → Int32) (v1 : Int32) : Option (Int32) := (if v1 < 0 then (some (0)) else (if (nI n_sizes) ≤ v1 then (some (0)) else (if ¬ (v1 < 0 ∨ n_sizes ≤ v1.toNatClampNeg) then k_let (sizes v1.toNatClampNeg) fun x_4 => (some (x_4)) else none)))
abbrev rm_X3_sizeOf : Room := { frames := 0, cells := 0, slots := 0, locals := 0 }
theorem pd_X3_sizeOf : k_D1 yX3_sizeOf 1 := by decide +kernel
set_option maxHeartbeats 4000000 in
set_option maxRecDepth 100000 in
theorem m_X3_sizeOf (l : Launch) (D : va_G) (cA : Nat → ClassId) (sz : Nat) (a_this a_sizes : Nat) (w_sums : Nat) (n_sizes : Nat) (sizes : Nat → Int32) (v1 : Int32) (ret_ : Int32) (h : f_X3_sizeOf n_sizes sizes v1 = some (ret_)) : k_M l yX3_sizeOf prog_5_method_2_code 2 (some .int) rm_X3_sizeOf D cA [.ref a_this, .int v1] [(a_this, .inr (3, [.ref a_sizes, .ref w_sums])), (a_sizes, .inl (cA 0, n_sizes, .inl sizes))] sz (some (.int ret_)) [(a_this, .inr (3, [.ref a_sizes, .ref w_sums])), (a_sizes, .inl (cA 0, n_sizes, .inl sizes))] := by
  refine k_ofW (by decide) (Nat.le_of_ble_eq_true rfl) ?_
  intro p e s m below meth c A ls hx hb hr hml hts hown hlocks hB hA hW hl
  have hl : lv_has ls 2 [(0, .ref a_this), (1, .int v1)] := hl
  obtain ⟨H, eH⟩ : ∃ H, H = s.heap := ⟨_, rfl⟩
  obtain ⟨locs, eL⟩ : ∃ L : List Loc, L = [] := ⟨_, rfl⟩
  have hW : k_Wd D A s.heap [(a_this, .inr (3, [.ref a_sizes, .ref w_sums])), (a_sizes, .inl (cA 0, n_sizes, .inl sizes))] H locs := by rw [eH, eL]; exact hW
  suffices K : W p l e rm_X3_sizeOf s m [.ref a_this, .int v1].toArray below meth c H locs 0 0 (MQ below (k_Q (some (.int ret_)) D [(a_this, .inr (3, [.ref a_sizes, .ref w_sums])), (a_sizes, .inl (cA 0, n_sizes, .inl sizes))] A) [.ref a_this, .int v1].toArray s 0 0 A) (F0 m 0 ls []) by rw [eH, eL] at K; exact K
  clear eH eL
  refine lv_iload_n hx hb dX3_sizeOf_0 rfl (lv_at hl 1 rfl) ?_
  refine lv_if_lt (tgt := 22) hx hb dX3_sizeOf_1 (by decide) (fun c_1 => ?_) (fun c_1 => ?_)
  · have h := k_t c_1 h
    refine lv_iconst (v := 0) hx hb dX3_sizeOf_22 (by decide) ?_
    have z0 := k_inj1 h
    rw [← z0]
    exact W.iret hx hb hr (fun t ht hWm => ⟨rfl, by rw [ht]; exact hW.1, hW.2.2.F ht⟩) hW.2.2.2.2 dX3_sizeOf_23
  · have h := k_f c_1 h
    refine lv_iload_n hx hb dX3_sizeOf_4 rfl (lv_at hl 1 rfl) ?_
    refine lv_aload_n hx hb dX3_sizeOf_5 rfl (lv_at hl 0 rfl) ?_
    refine va_get (D := D) (ci := 3) (v := .ref a_sizes) (C := RX3) (T := TX3) (N := 2) hx hb hts iX3 hown hB.1 hW.1 0 rfl rfl 0 (by decide) (hts _ q1_167) (fun _ h9 => h9) rfl dX3_sizeOf_6 ?_
    refine va_alen hx hb hB.1 hW.1 1 0 rfl (v := nI n_sizes) rfl rfl dX3_sizeOf_9 ?_
    refine lv_icmp_ge (tgt := 22) hx hb dX3_sizeOf_10 (by decide) (fun c_2 => ?_) (fun c_2 => ?_)
    · have h := k_t c_2 h
      refine lv_iconst (v := 0) hx hb dX3_sizeOf_22 (by decide) ?_
      have z0 := k_inj1 h
      rw [← z0]
      exact W.iret hx hb hr (fun t ht hWm => ⟨rfl, by rw [ht]; exact hW.1, hW.2.2.F ht⟩) hW.2.2.2.2 dX3_sizeOf_23
    · have h := k_f c_2 h
      refine lv_aload_n hx hb dX3_sizeOf_13 rfl (lv_at hl 0 rfl) ?_
      refine va_get (D := D) (ci := 3) (v := .ref a_sizes) (C := RX3) (T := TX3) (N := 2) hx hb hts iX3 hown hB.1 hW.1 0 rfl rfl 0 (by decide) (hts _ q1_167) (fun _ h9 => h9) rfl dX3_sizeOf_14 ?_
      refine lv_iload_n hx hb dX3_sizeOf_17 rfl (lv_at hl 1 rfl) ?_
      obtain ⟨c_3, h⟩ := k_g h
      refine va_iald hx hb hB.1 hW.1 1 0 rfl rfl c_3 dX3_sizeOf_18 ?_
      refine lv_topi (fun x_4 ex_4 => ?_)
      have h := k_letE ex_4 h
      refine lv_goto (tgt := 23) hx hb dX3_sizeOf_19 (by decide) ?_
      have z0 := k_inj1 h
      rw [← z0]
      exact W.iret hx hb hr (fun t ht hWm => ⟨rfl, by rw [ht]; exact hW.1, hW.2.2.F ht⟩) hW.2.2.2.2 dX3_sizeOf_23
noncomputable def f_X3_sumOf (n_sums : Nat) (sums : Nat → Int32) (v1 : Int32) : Option (Int32) := (if v1 < 0 then (some (0)) else (if (nI n_sums) ≤ v1 then (some (0)) else (if ¬ (v1 < 0 ∨ n_sums ≤ v1.toNatClampNeg) then k_let (sums v1.toNatClampNeg) fun x_4 => (some (x_4)) else none)))
abbrev rm_X3_sumOf : Room := { frames := 0, cells := 0, slots := 0, locals := 0 }
theorem pd_X3_sumOf : k_D1 yX3_sumOf 1 := by decide +kernel
set_option maxHeartbeats 4000000 in
set_option maxRecDepth 100000 in
theorem m_X3_sumOf (l : Launch) (D : va_G) (cA : Nat → ClassId) (sz : Nat) (a_this a_sums : Nat) (w_sizes : Nat) (n_sums : Nat) (sums : Nat → Int32) (v1 : Int32) (ret_ : Int32) (h : f_X3_sumOf n_sums sums v1 = some (ret_)) : k_M l yX3_sumOf prog_5_method_3_code 2 (some .int) rm_X3_sumOf D cA [.ref a_this, .int v1] [(a_this, .inr (3, [.ref w_sizes, .ref a_sums])), (a_sums, .inl (cA 0, n_sums, .inl sums))] sz (some (.int ret_)) [(a_this, .inr (3, [.ref w_sizes, .ref a_sums])), (a_sums, .inl (cA 0, n_sums, .inl sums))] := by
  refine k_ofW (by decide) (Nat.le_of_ble_eq_true rfl) ?_
  intro p e s m below meth c A ls hx hb hr hml hts hown hlocks hB hA hW hl
  have hl : lv_has ls 2 [(0, .ref a_this), (1, .int v1)] := hl
  obtain ⟨H, eH⟩ : ∃ H, H = s.heap := ⟨_, rfl⟩
  obtain ⟨locs, eL⟩ : ∃ L : List Loc, L = [] := ⟨_, rfl⟩
  have hW : k_Wd D A s.heap [(a_this, .inr (3, [.ref w_sizes, .ref a_sums])), (a_sums, .inl (cA 0, n_sums, .inl sums))] H locs := by rw [eH, eL]; exact hW
  suffices K : W p l e rm_X3_sumOf s m [.ref a_this, .int v1].toArray below meth c H locs 0 0 (MQ below (k_Q (some (.int ret_)) D [(a_this, .inr (3, [.ref w_sizes, .ref a_sums])), (a_sums, .inl (cA 0, n_sums, .inl sums))] A) [.ref a_this, .int v1].toArray s 0 0 A) (F0 m 0 ls []) by rw [eH, eL] at K; exact K
  clear eH eL
  refine lv_iload_n hx hb dX3_sumOf_0 rfl (lv_at hl 1 rfl) ?_
  refine lv_if_lt (tgt := 22) hx hb dX3_sumOf_1 (by decide) (fun c_1 => ?_) (fun c_1 => ?_)
  · have h := k_t c_1 h
    refine lv_iconst (v := 0) hx hb dX3_sumOf_22 (by decide) ?_
    have z0 := k_inj1 h
    rw [← z0]
    exact W.iret hx hb hr (fun t ht hWm => ⟨rfl, by rw [ht]; exact hW.1, hW.2.2.F ht⟩) hW.2.2.2.2 dX3_sumOf_23
  · have h := k_f c_1 h
    refine lv_iload_n hx hb dX3_sumOf_4 rfl (lv_at hl 1 rfl) ?_
    refine lv_aload_n hx hb dX3_sumOf_5 rfl (lv_at hl 0 rfl) ?_
    refine va_get (D := D) (ci := 3) (v := .ref a_sums) (C := RX3) (T := TX3) (N := 2) hx hb hts iX3 hown hB.1 hW.1 0 rfl rfl 1 (by decide) (hts _ q1_168) (fun _ h9 => h9) rfl dX3_sumOf_6 ?_
    refine va_alen hx hb hB.1 hW.1 1 0 rfl (v := nI n_sums) rfl rfl dX3_sumOf_9 ?_
    refine lv_icmp_ge (tgt := 22) hx hb dX3_sumOf_10 (by decide) (fun c_2 => ?_) (fun c_2 => ?_)
    · have h := k_t c_2 h
      refine lv_iconst (v := 0) hx hb dX3_sumOf_22 (by decide) ?_
      have z0 := k_inj1 h
      rw [← z0]
      exact W.iret hx hb hr (fun t ht hWm => ⟨rfl, by rw [ht]; exact hW.1, hW.2.2.F ht⟩) hW.2.2.2.2 dX3_sumOf_23
    · have h := k_f c_2 h
      refine lv_aload_n hx hb dX3_sumOf_13 rfl (lv_at hl 0 rfl) ?_
      refine va_get (D := D) (ci := 3) (v := .ref a_sums) (C := RX3) (T := TX3) (N := 2) hx hb hts iX3 hown hB.1 hW.1 0 rfl rfl 1 (by decide) (hts _ q1_168) (fun _ h9 => h9) rfl dX3_sumOf_14 ?_
      refine lv_iload_n hx hb dX3_sumOf_17 rfl (lv_at hl 1 rfl) ?_
      obtain ⟨c_3, h⟩ := k_g h
      refine va_iald hx hb hB.1 hW.1 1 0 rfl rfl c_3 dX3_sumOf_18 ?_
      refine lv_topi (fun x_4 ex_4 => ?_)
      have h := k_letE ex_4 h
      refine lv_goto (tgt := 23) hx hb dX3_sumOf_19 (by decide) ?_
      have z0 := k_inj1 h
      rw [← z0]
      exact W.iret hx hb hr (fun t ht hWm => ⟨rfl, by rw [ht]; exact hW.1, hW.2.2.F ht⟩) hW.2.2.2.2 dX3_sumOf_23
noncomputable def f_X3_reaches (n_sizes : Nat) (n_sums : Nat) (sizes : Nat → Int32) (sums : Nat → Int32) (v1 : Int32) (v2 : Int32) : Option (Int32) := (k_b1 (f_X3_sizeOf n_sizes sizes v1) fun r_2 => (if r_2 ≤ 0 then (if vp_nar .boolean (0 : Int32) = (0 : Int32) then some (0) else none) else (k_b1 (f_X3_sumOf n_sums sums v1) fun r_7 => (if r_7 < v2 then (if vp_nar .boolean (0 : Int32) = (0 : Int32) then some (0) else none) else (if vp_nar .boolean (1 : Int32) = (1 : Int32) then some (1) else none)))))
abbrev rm_X3_reaches : Room := { frames := 1, cells := 0, slots := 0, locals := 21 }
theorem pd_X3_reaches : k_D1 yX3_reaches 2 := by decide +kernel
set_option maxHeartbeats 4000000 in
set_option maxRecDepth 100000 in
theorem m_X3_reaches (l : Launch) (D : va_G) (cA : Nat → ClassId) (sz : Nat) (a_this a_sizes a_sums : Nat) (n_sizes : Nat) (n_sums : Nat) (sizes : Nat → Int32) (sums : Nat → Int32) (v1 : Int32) (v2 : Int32) (ret_ : Int32) (h : f_X3_reaches n_sizes n_sums sizes sums v1 v2 = some (ret_)) : k_M l yX3_reaches prog_5_method_4_code 3 (some .boolean) rm_X3_reaches D cA [.ref a_this, .int v1, .int v2] [(a_this, .inr (3, [.ref a_sizes, .ref a_sums])), (a_sizes, .inl (cA 0, n_sizes, .inl sizes)), (a_sums, .inl (cA 0, n_sums, .inl sums))] sz (some (.int ret_)) [(a_this, .inr (3, [.ref a_sizes, .ref a_sums])), (a_sizes, .inl (cA 0, n_sizes, .inl sizes)), (a_sums, .inl (cA 0, n_sums, .inl sums))] := by
  refine k_ofW (by decide) (Nat.le_of_ble_eq_true rfl) ?_
  intro p e s m below meth c A ls hx hb hr hml hts hown hlocks hB hA hW hl
  have hl : lv_has ls 3 [(0, .ref a_this), (1, .int v1), (2, .int v2)] := hl
  obtain ⟨H, eH⟩ : ∃ H, H = s.heap := ⟨_, rfl⟩
  obtain ⟨locs, eL⟩ : ∃ L : List Loc, L = [] := ⟨_, rfl⟩
  have hW : k_Wd D A s.heap [(a_this, .inr (3, [.ref a_sizes, .ref a_sums])), (a_sizes, .inl (cA 0, n_sizes, .inl sizes)), (a_sums, .inl (cA 0, n_sums, .inl sums))] H locs := by rw [eH, eL]; exact hW
  suffices K : W p l e rm_X3_reaches s m [.ref a_this, .int v1, .int v2].toArray below meth c H locs 0 0 (MQ below (k_Q (some (.int ret_)) D [(a_this, .inr (3, [.ref a_sizes, .ref a_sums])), (a_sizes, .inl (cA 0, n_sizes, .inl sizes)), (a_sums, .inl (cA 0, n_sums, .inl sums))] A) [.ref a_this, .int v1, .int v2].toArray s 0 0 A) (F0 m 0 ls []) by rw [eH, eL] at K; exact K
  clear eH eL
  refine lv_aload_n hx hb dX3_reaches_0 rfl (lv_at hl 0 rfl) ?_
  refine lv_iload_n hx hb dX3_reaches_1 rfl (lv_at hl 1 rfl) ?_
  obtain ⟨r_2, h_1, h⟩ := k_bE1 h
  refine k_callV (C := RX3) (ws' := [(a_this, .inr (3, [.ref a_sizes, .ref a_sums])), (a_sizes, .inl (cA 0, n_sizes, .inl sizes)), (a_sums, .inl (cA 0, n_sums, .inl sums))]) (As := [.int v1]) (rest := []) (b := a_this) (m_X3_sizeOf l D cA H.size a_this a_sizes a_sums n_sizes sizes v1 r_2 h_1) hx hb hml hown hts hB hA hW hl.1 q2_218 q1_9 q2_216 q2_217 q2_215 pd_X3_sizeOf ⟨rfl, rfl, Nat.le_of_ble_eq_true rfl, Nat.le_of_ble_eq_true rfl⟩ rfl 0 rfl rfl [0, 1] [2] ⟨rfl, rfl, trivial⟩ rfl ⟨⟨rfl, rfl, trivial⟩, ⟨rfl, trivial⟩, rfl⟩ rfl rfl (Nat.le_of_ble_eq_true rfl) ⟨Nat.zero_le _, Nat.zero_le _⟩ dX3_reaches_2 (st1 := [.int r_2]) rfl (fun H locs hW => ?_)
  refine lv_if_le (tgt := 21) hx hb dX3_reaches_5 (by decide) (fun c_4 => ?_) (fun c_4 => ?_)
  · have h := k_t c_4 h
    refine lv_iconst (v := 0) hx hb dX3_reaches_21 (by decide) ?_
    obtain ⟨c_5, h⟩ := k_g h
    have z0 := k_inj1 h
    rw [← z0]
    exact W.zret hx hb hr (k_narZ c_5) (fun t ht hWm => ⟨rfl, by rw [ht]; exact hW.1, hW.2.2.F ht⟩) hW.2.2.2.2 dX3_reaches_22
  · have h := k_f c_4 h
    refine lv_aload_n hx hb dX3_reaches_8 rfl (lv_at hl 0 rfl) ?_
    refine lv_iload_n hx hb dX3_reaches_9 rfl (lv_at hl 1 rfl) ?_
    obtain ⟨r_7, h_6, h⟩ := k_bE1 h
    refine k_callV (C := RX3) (ws' := [(a_this, .inr (3, [.ref a_sizes, .ref a_sums])), (a_sizes, .inl (cA 0, n_sizes, .inl sizes)), (a_sums, .inl (cA 0, n_sums, .inl sums))]) (As := [.int v1]) (rest := []) (b := a_this) (m_X3_sumOf l D cA H.size a_this a_sums a_sizes n_sums sums v1 r_7 h_6) hx hb hml hown hts hB hA hW hl.1 q2_222 q1_9 q2_220 q2_221 q2_219 pd_X3_sumOf ⟨rfl, rfl, Nat.le_of_ble_eq_true rfl, Nat.le_of_ble_eq_true rfl⟩ rfl 0 rfl rfl [0, 2] [1] ⟨rfl, rfl, trivial⟩ rfl ⟨⟨rfl, rfl, trivial⟩, ⟨rfl, trivial⟩, rfl⟩ rfl rfl (Nat.le_of_ble_eq_true rfl) ⟨Nat.zero_le _, Nat.zero_le _⟩ dX3_reaches_10 (st1 := [.int r_7]) rfl (fun H locs hW => ?_)
    refine lv_iload_n hx hb dX3_reaches_13 rfl (lv_at hl 2 rfl) ?_
    refine lv_icmp_lt (tgt := 21) hx hb dX3_reaches_14 (by decide) (fun c_9 => ?_) (fun c_9 => ?_)
    · have h := k_t c_9 h
      refine lv_iconst (v := 0) hx hb dX3_reaches_21 (by decide) ?_
      obtain ⟨c_10, h⟩ := k_g h
      have z0 := k_inj1 h
      rw [← z0]
      exact W.zret hx hb hr (k_narZ c_10) (fun t ht hWm => ⟨rfl, by rw [ht]; exact hW.1, hW.2.2.F ht⟩) hW.2.2.2.2 dX3_reaches_22
    · have h := k_f c_9 h
      refine lv_iconst (v := 1) hx hb dX3_reaches_17 (by decide) ?_
      refine lv_goto (tgt := 22) hx hb dX3_reaches_18 (by decide) ?_
      obtain ⟨c_11, h⟩ := k_g h
      have z0 := k_inj1 h
      rw [← z0]
      exact W.zret hx hb hr (k_narZ c_11) (fun t ht hWm => ⟨rfl, by rw [ht]; exact hW.1, hW.2.2.F ht⟩) hW.2.2.2.2 dX3_reaches_22
noncomputable def f_X3_standsBefore (n_sums : Nat) (sums : Nat → Int32) (v1 : Int32) (v2 : Int32) : Option (Int32) := (k_b1 (f_X3_sumOf n_sums sums v1) fun r_2 => (k_b1 (f_X3_sumOf n_sums sums v2) fun r_5 => (if r_5 < r_2 then (if vp_nar .boolean (1 : Int32) = (1 : Int32) then some (1) else none) else (k_b1 (f_X3_sumOf n_sums sums v1) fun r_10 => (k_b1 (f_X3_sumOf n_sums sums v2) fun r_13 => (if r_10 = r_13 then (if v2 ≤ v1 then (if vp_nar .boolean (0 : Int32) = (0 : Int32) then some (0) else none) else (if vp_nar .boolean (1 : Int32) = (1 : Int32) then some (1) else none)) else (if vp_nar .boolean (0 : Int32) = (0 : Int32) then some (0) else none)))))))
abbrev rm_X3_standsBefore : Room := { frames := 1, cells := 0, slots := 0, locals := 21 }
theorem pd_X3_standsBefore : k_D1 yX3_standsBefore 2 := by decide +kernel
set_option maxHeartbeats 4000000 in
set_option maxRecDepth 100000 in
theorem m_X3_standsBefore (l : Launch) (D : va_G) (cA : Nat → ClassId) (sz : Nat) (a_this a_sums : Nat) (w_sizes : Nat) (n_sums : Nat) (sums : Nat → Int32) (v1 : Int32) (v2 : Int32) (ret_ : Int32) (h : f_X3_standsBefore n_sums sums v1 v2 = some (ret_)) : k_M l yX3_standsBefore prog_5_method_9_code 3 (some .boolean) rm_X3_standsBefore D cA [.ref a_this, .int v1, .int v2] [(a_this, .inr (3, [.ref w_sizes, .ref a_sums])), (a_sums, .inl (cA 0, n_sums, .inl sums))] sz (some (.int ret_)) [(a_this, .inr (3, [.ref w_sizes, .ref a_sums])), (a_sums, .inl (cA 0, n_sums, .inl sums))] := by
  refine k_ofW (by decide) (Nat.le_of_ble_eq_true rfl) ?_
  intro p e s m below meth c A ls hx hb hr hml hts hown hlocks hB hA hW hl
  have hl : lv_has ls 3 [(0, .ref a_this), (1, .int v1), (2, .int v2)] := hl
  obtain ⟨H, eH⟩ : ∃ H, H = s.heap := ⟨_, rfl⟩
  obtain ⟨locs, eL⟩ : ∃ L : List Loc, L = [] := ⟨_, rfl⟩
  have hW : k_Wd D A s.heap [(a_this, .inr (3, [.ref w_sizes, .ref a_sums])), (a_sums, .inl (cA 0, n_sums, .inl sums))] H locs := by rw [eH, eL]; exact hW
  suffices K : W p l e rm_X3_standsBefore s m [.ref a_this, .int v1, .int v2].toArray below meth c H locs 0 0 (MQ below (k_Q (some (.int ret_)) D [(a_this, .inr (3, [.ref w_sizes, .ref a_sums])), (a_sums, .inl (cA 0, n_sums, .inl sums))] A) [.ref a_this, .int v1, .int v2].toArray s 0 0 A) (F0 m 0 ls []) by rw [eH, eL] at K; exact K
  clear eH eL
  refine lv_aload_n hx hb dX3_standsBefore_0 rfl (lv_at hl 0 rfl) ?_
  refine lv_iload_n hx hb dX3_standsBefore_1 rfl (lv_at hl 1 rfl) ?_
  obtain ⟨r_2, h_1, h⟩ := k_bE1 h
  refine k_callV (C := RX3) (ws' := [(a_this, .inr (3, [.ref w_sizes, .ref a_sums])), (a_sums, .inl (cA 0, n_sums, .inl sums))]) (As := [.int v1]) (rest := []) (b := a_this) (m_X3_sumOf l D cA H.size a_this a_sums w_sizes n_sums sums v1 r_2 h_1) hx hb hml hown hts hB hA hW hl.1 q2_222 q1_9 q2_220 q2_221 q2_219 pd_X3_sumOf ⟨rfl, rfl, Nat.le_of_ble_eq_true rfl, Nat.le_of_ble_eq_true rfl⟩ rfl 0 rfl rfl [0, 1] [] ⟨rfl, rfl, trivial⟩ rfl ⟨⟨rfl, rfl, trivial⟩, trivial, rfl⟩ rfl rfl (Nat.le_of_ble_eq_true rfl) ⟨Nat.zero_le _, Nat.zero_le _⟩ dX3_standsBefore_2 (st1 := [.int r_2]) rfl (fun H locs hW => ?_)
  refine lv_aload_n hx hb dX3_standsBefore_5 rfl (lv_at hl 0 rfl) ?_
  refine lv_iload_n hx hb dX3_standsBefore_6 rfl (lv_at hl 2 rfl) ?_
  obtain ⟨r_5, h_4, h⟩ := k_bE1 h
  refine k_callV (C := RX3) (ws' := [(a_this, .inr (3, [.ref w_sizes, .ref a_sums])), (a_sums, .inl (cA 0, n_sums, .inl sums))]) (As := [.int v2]) (rest := [.int r_2]) (b := a_this) (m_X3_sumOf l D cA H.size a_this a_sums w_sizes n_sums sums v2 r_5 h_4) hx hb hml hown hts hB hA hW hl.1 q2_222 q1_9 q2_220 q2_221 q2_219 pd_X3_sumOf ⟨rfl, rfl, Nat.le_of_ble_eq_true rfl, Nat.le_of_ble_eq_true rfl⟩ rfl 0 rfl rfl [0, 1] [] ⟨rfl, rfl, trivial⟩ rfl ⟨⟨rfl, rfl, trivial⟩, trivial, rfl⟩ rfl rfl (Nat.le_of_ble_eq_true rfl) ⟨Nat.zero_le _, Nat.zero_le _⟩ dX3_standsBefore_7 (st1 := [.int r_5, .int r_2]) rfl (fun H locs hW => ?_)
  refine lv_icmp_gt (tgt := 31) hx hb dX3_standsBefore_10 (by decide) (fun c_7 => ?_) (fun c_7 => ?_)
  · have h := k_t c_7 h
    refine lv_iconst (v := 1) hx hb dX3_standsBefore_31 (by decide) ?_
    refine lv_goto (tgt := 36) hx hb dX3_standsBefore_32 (by decide) ?_
    obtain ⟨c_8, h⟩ := k_g h
    have z0 := k_inj1 h
    rw [← z0]
    exact W.zret hx hb hr (k_narZ c_8) (fun t ht hWm => ⟨rfl, by rw [ht]; exact hW.1, hW.2.2.F ht⟩) hW.2.2.2.2 dX3_standsBefore_36
  · have h := k_f c_7 h
    refine lv_aload_n hx hb dX3_standsBefore_13 rfl (lv_at hl 0 rfl) ?_
    refine lv_iload_n hx hb dX3_standsBefore_14 rfl (lv_at hl 1 rfl) ?_
    obtain ⟨r_10, h_9, h⟩ := k_bE1 h
    refine k_callV (C := RX3) (ws' := [(a_this, .inr (3, [.ref w_sizes, .ref a_sums])), (a_sums, .inl (cA 0, n_sums, .inl sums))]) (As := [.int v1]) (rest := []) (b := a_this) (m_X3_sumOf l D cA H.size a_this a_sums w_sizes n_sums sums v1 r_10 h_9) hx hb hml hown hts hB hA hW hl.1 q2_222 q1_9 q2_220 q2_221 q2_219 pd_X3_sumOf ⟨rfl, rfl, Nat.le_of_ble_eq_true rfl, Nat.le_of_ble_eq_true rfl⟩ rfl 0 rfl rfl [0, 1] [] ⟨rfl, rfl, trivial⟩ rfl ⟨⟨rfl, rfl, trivial⟩, trivial, rfl⟩ rfl rfl (Nat.le_of_ble_eq_true rfl) ⟨Nat.zero_le _, Nat.zero_le _⟩ dX3_standsBefore_15 (st1 := [.int r_10]) rfl (fun H locs hW => ?_)
    refine lv_aload_n hx hb dX3_standsBefore_18 rfl (lv_at hl 0 rfl) ?_
    refine lv_iload_n hx hb dX3_standsBefore_19 rfl (lv_at hl 2 rfl) ?_
    obtain ⟨r_13, h_12, h⟩ := k_bE1 h
    refine k_callV (C := RX3) (ws' := [(a_this, .inr (3, [.ref w_sizes, .ref a_sums])), (a_sums, .inl (cA 0, n_sums, .inl sums))]) (As := [.int v2]) (rest := [.int r_10]) (b := a_this) (m_X3_sumOf l D cA H.size a_this a_sums w_sizes n_sums sums v2 r_13 h_12) hx hb hml hown hts hB hA hW hl.1 q2_222 q1_9 q2_220 q2_221 q2_219 pd_X3_sumOf ⟨rfl, rfl, Nat.le_of_ble_eq_true rfl, Nat.le_of_ble_eq_true rfl⟩ rfl 0 rfl rfl [0, 1] [] ⟨rfl, rfl, trivial⟩ rfl ⟨⟨rfl, rfl, trivial⟩, trivial, rfl⟩ rfl rfl (Nat.le_of_ble_eq_true rfl) ⟨Nat.zero_le _, Nat.zero_le _⟩ dX3_standsBefore_20 (st1 := [.int r_13, .int r_10]) rfl (fun H locs hW => ?_)
    refine lv_icmp_ne (tgt := 35) hx hb dX3_standsBefore_23 (by decide) (fun c_15 => ?_) (fun c_15 => ?_)
    · have h := k_f c_15 h
      refine lv_iconst (v := 0) hx hb dX3_standsBefore_35 (by decide) ?_
      obtain ⟨c_16, h⟩ := k_g h
      have z0 := k_inj1 h
      rw [← z0]
      exact W.zret hx hb hr (k_narZ c_16) (fun t ht hWm => ⟨rfl, by rw [ht]; exact hW.1, hW.2.2.F ht⟩) hW.2.2.2.2 dX3_standsBefore_36
    · have h := k_t c_15 h
      refine lv_iload_n hx hb dX3_standsBefore_26 rfl (lv_at hl 1 rfl) ?_
      refine lv_iload_n hx hb dX3_standsBefore_27 rfl (lv_at hl 2 rfl) ?_
      refine lv_icmp_ge (tgt := 35) hx hb dX3_standsBefore_28 (by decide) (fun c_17 => ?_) (fun c_17 => ?_)
      · have h := k_t c_17 h
        refine lv_iconst (v := 0) hx hb dX3_standsBefore_35 (by decide) ?_
        obtain ⟨c_18, h⟩ := k_g h
        have z0 := k_inj1 h
        rw [← z0]
        exact W.zret hx hb hr (k_narZ c_18) (fun t ht hWm => ⟨rfl, by rw [ht]; exact hW.1, hW.2.2.F ht⟩) hW.2.2.2.2 dX3_standsBefore_36
      · have h := k_f c_17 h
        refine lv_iconst (v := 1) hx hb dX3_standsBefore_31 (by decide) ?_
        refine lv_goto (tgt := 36) hx hb dX3_standsBefore_32 (by decide) ?_
        obtain ⟨c_19, h⟩ := k_g h
        have z0 := k_inj1 h
        rw [← z0]
        exact W.zret hx hb hr (k_narZ c_19) (fun t ht hWm => ⟨rfl, by rw [ht]; exact hW.1, hW.2.2.F ht⟩) hW.2.2.2.2 dX3_standsBefore_36
noncomputable def f_X3_rankOf_30 (fu : Nat) (n_sizes : Nat) (n_sums : Nat) (sizes : Nat → Int32) (sums : Nat → Int32) (v1 : Int32) (k4 : Int32 → Int32 → Option (Int32)) (x2 : Int32) (x3 : Int32) : Option (Int32) := (k_let (x3 + 1) fun x_1 => (k4 x2 x_1))
noncomputable def f_X3_rankOf_4 (fu : Nat) (n_sizes : Nat) (n_sums : Nat) (sizes : Nat → Int32) (sums : Nat → Int32) (v1 : Int32) : Nat → Int32 → Int32 → Option (Int32)
  | 0 => fun _ _ => none
  | n + 1 => fun x2 x3 => (if (6 : Int32) ≤ x3 then (some (x2)) else (k_b1 (f_X3_sizeOf n_sizes sizes x3) fun r_4 => (if r_4 ≤ 0 then ((f_X3_rankOf_30 fu n_sizes n_sums sizes sums v1 (f_X3_rankOf_4 fu n_sizes n_sums sizes sums v1 n) x2 x3)) else (k_b1 (f_X3_standsBefore n_sums sums x3 v1) fun r_8 => (if r_8 = 0 then ((f_X3_rankOf_30 fu n_sizes n_sums sizes sums v1 (f_X3_rankOf_4 fu n_sizes n_sums sizes sums v1 n) x2 x3)) else (k_let (x2 + 1) fun x_11 => (f_X3_rankOf_30 fu n_sizes n_sums sizes sums v1 (f_X3_rankOf_4 fu n_sizes n_sums sizes sums v1 n) x_11 x3)))))))
theorem fs_X3_rankOf_4 (fu : Nat) (n_sizes : Nat) (n_sums : Nat) (sizes : Nat → Int32) (sums : Nat → Int32) (v1 : Int32) (n : Nat) (x2 : Int32) (x3 : Int32) : f_X3_rankOf_4 fu n_sizes n_sums sizes sums v1 (n + 1) x2 x3 = (if (6 : Int32) ≤ x3 then (some (x2)) else (k_b1 (f_X3_sizeOf n_sizes sizes x3) fun r_4 => (if r_4 ≤ 0 then ((f_X3_rankOf_30 fu n_sizes n_sums sizes sums v1 (f_X3_rankOf_4 fu n_sizes n_sums sizes sums v1 n) x2 x3)) else (k_b1 (f_X3_standsBefore n_sums sums x3 v1) fun r_8 => (if r_8 = 0 then ((f_X3_rankOf_30 fu n_sizes n_sums sizes sums v1 (f_X3_rankOf_4 fu n_sizes n_sums sizes sums v1 n) x2 x3)) else (k_let (x2 + 1) fun x_11 => (f_X3_rankOf_30 fu n_sizes n_sums sizes sums v1 (f_X3_rankOf_4 fu n_sizes n_sums sizes sums v1 n) x_11 x3))))))) := rfl
noncomputable def f_X3_rankOf (fu : Nat) (n_sizes : Nat) (n_sums : Nat) (sizes : Nat → Int32) (sums : Nat → Int32) (v1 : Int32) : Option (Int32) := ((f_X3_rankOf_4 fu n_sizes n_sums sizes sums v1 fu 0 0))
abbrev rm_X3_rankOf : Room := { frames := 2, cells := 0, slots := 0, locals := 43 }
theorem pd_X3_rankOf : k_D1 yX3_rankOf 1 := by decide +kernel
set_option maxHeartbeats 4000000 in
set_option maxRecDepth 100000 in
theorem m_X3_rankOf (l : Launch) (D : va_G) (cA : Nat → ClassId) (sz : Nat) (a_this a_sizes a_sums : Nat) (fu : Nat) (n_sizes : Nat) (n_sums : Nat) (sizes : Nat → Int32) (sums : Nat → Int32) (v1 : Int32) (ret_ : Int32) (h : f_X3_rankOf fu n_sizes n_sums sizes sums v1 = some (ret_)) : k_M l yX3_rankOf prog_5_method_8_code 4 (some .int) rm_X3_rankOf D cA [.ref a_this, .int v1] [(a_this, .inr (3, [.ref a_sizes, .ref a_sums])), (a_sizes, .inl (cA 0, n_sizes, .inl sizes)), (a_sums, .inl (cA 0, n_sums, .inl sums))] sz (some (.int ret_)) [(a_this, .inr (3, [.ref a_sizes, .ref a_sums])), (a_sizes, .inl (cA 0, n_sizes, .inl sizes)), (a_sums, .inl (cA 0, n_sums, .inl sums))] := by
  refine k_ofW (by decide) (Nat.le_of_ble_eq_true rfl) ?_
  intro p e s m below meth c A ls hx hb hr hml hts hown hlocks hB hA hW hl
  have hl : lv_has ls 4 [(0, .ref a_this), (1, .int v1)] := hl
  obtain ⟨H, eH⟩ : ∃ H, H = s.heap := ⟨_, rfl⟩
  obtain ⟨locs, eL⟩ : ∃ L : List Loc, L = [] := ⟨_, rfl⟩
  have hW : k_Wd D A s.heap [(a_this, .inr (3, [.ref a_sizes, .ref a_sums])), (a_sizes, .inl (cA 0, n_sizes, .inl sizes)), (a_sums, .inl (cA 0, n_sums, .inl sums))] H locs := by rw [eH, eL]; exact hW
  suffices K : W p l e rm_X3_rankOf s m [.ref a_this, .int v1].toArray below meth c H locs 0 0 (MQ below (k_Q (some (.int ret_)) D [(a_this, .inr (3, [.ref a_sizes, .ref a_sums])), (a_sizes, .inl (cA 0, n_sizes, .inl sizes)), (a_sums, .inl (cA 0, n_sums, .inl sums))] A) [.ref a_this, .int v1].toArray s 0 0 A) (F0 m 0 ls []) by rw [eH, eL] at K; exact K
  clear eH eL
  have J4 : ∀ (n4 : Nat) (x2 : Int32) (x3 : Int32) (H : Heap) (locs : List Loc) (ls : Array Slot), k_Wd D A s.heap [(a_this, .inr (3, [.ref a_sizes, .ref a_sums])), (a_sizes, .inl (cA 0, n_sizes, .inl sizes)), (a_sums, .inl (cA 0, n_sums, .inl sums))] H locs → lv_has ls 4 [(0, .ref a_this), (1, .int v1), (2, .int x2), (3, .int x3)] → f_X3_rankOf_4 fu n_sizes n_sums sizes sums v1 n4 x2 x3 = some (ret_) → W p l e rm_X3_rankOf s m [.ref a_this, .int v1].toArray below meth c H locs 0 0 (MQ below (k_Q (some (.int ret_)) D [(a_this, .inr (3, [.ref a_sizes, .ref a_sums])), (a_sizes, .inl (cA 0, n_sizes, .inl sizes)), (a_sums, .inl (cA 0, n_sums, .inl sums))] A) [.ref a_this, .int v1].toArray s 0 0 A) (F0 m 4 ls []) := by
    intro n4
    induction n4 with
    | zero => intro x2 x3 H locs ls hW hl h; exact k_no h
    | succ n4 ih4 =>
      have J30 : ∀ (x2 : Int32) (x3 : Int32) (H : Heap) (locs : List Loc) (ls : Array Slot), k_Wd D A s.heap [(a_this, .inr (3, [.ref a_sizes, .ref a_sums])), (a_sizes, .inl (cA 0, n_sizes, .inl sizes)), (a_sums, .inl (cA 0, n_sums, .inl sums))] H locs → lv_has ls 4 [(0, .ref a_this), (1, .int v1), (2, .int x2), (3, .int x3)] → f_X3_rankOf_30 fu n_sizes n_sums sizes sums v1 (f_X3_rankOf_4 fu n_sizes n_sums sizes sums v1 n4) x2 x3 = some (ret_) → W p l e rm_X3_rankOf s m [.ref a_this, .int v1].toArray below meth c H locs 0 0 (MQ below (k_Q (some (.int ret_)) D [(a_this, .inr (3, [.ref a_sizes, .ref a_sums])), (a_sizes, .inl (cA 0, n_sizes, .inl sizes)), (a_sums, .inl (cA 0, n_sums, .inl sums))] A) [.ref a_this, .int v1].toArray s 0 0 A) (F0 m 30 ls []) := by
        intro x2 x3 H locs ls hW hl h
        obtain ⟨x_1, ex_1⟩ : ∃ y : Int32, y = x3 + 1 := ⟨_, rfl⟩
        have h := k_letE ex_1 h
        refine lv_iinc (v := x_1) (lv' := [(3, .int x_1), (0, .ref a_this), (1, .int v1), (2, .int x2)]) hx hb dX3_rankOf_30 hl (k := 3) rfl (by rw [ex_1]; rfl) (by decide) rfl (fun ls hl => ?_)
        refine lv_goto (tgt := 4) hx hb dX3_rankOf_33 (by decide) ?_
        exact ih4 x2 x_1 H locs ls hW (lv_sub hl [1, 2, 3, 0] rfl) h
      intro x2 x3 H locs ls hW hl h
      have h := (fs_X3_rankOf_4 _ _ _ _ _ _ _ _ _).symm.trans h
      refine lv_iload_n hx hb dX3_rankOf_4 rfl (lv_at hl 3 rfl) ?_
      refine lv_bipush (v := 6) hx hb dX3_rankOf_5 (by decide) ?_
      refine lv_icmp_ge (tgt := 36) hx hb dX3_rankOf_7 (by decide) (fun c_2 => ?_) (fun c_2 => ?_)
      · have h := k_t c_2 h
        refine lv_iload_n hx hb dX3_rankOf_36 rfl (lv_at hl 2 rfl) ?_
        have z0 := k_inj1 h
        rw [← z0]
        exact W.iret hx hb hr (fun t ht hWm => ⟨rfl, by rw [ht]; exact hW.1, hW.2.2.F ht⟩) hW.2.2.2.2 dX3_rankOf_37
      · have h := k_f c_2 h
        refine lv_aload_n hx hb dX3_rankOf_10 rfl (lv_at hl 0 rfl) ?_
        refine lv_iload_n hx hb dX3_rankOf_11 rfl (lv_at hl 3 rfl) ?_
        obtain ⟨r_4, h_3, h⟩ := k_bE1 h
        refine k_callV (C := RX3) (ws' := [(a_this, .inr (3, [.ref a_sizes, .ref a_sums])), (a_sizes, .inl (cA 0, n_sizes, .inl sizes)), (a_sums, .inl (cA 0, n_sums, .inl sums))]) (As := [.int x3]) (rest := []) (b := a_this) (m_X3_sizeOf l D cA H.size a_this a_sizes a_sums n_sizes sizes x3 r_4 h_3) hx hb hml hown hts hB hA hW hl.1 q2_218 q1_9 q2_216 q2_217 q2_215 pd_X3_sizeOf ⟨rfl, rfl, Nat.le_of_ble_eq_true rfl, Nat.le_of_ble_eq_true rfl⟩ rfl 0 rfl rfl [0, 1] [2] ⟨rfl, rfl, trivial⟩ rfl ⟨⟨rfl, rfl, trivial⟩, ⟨rfl, trivial⟩, rfl⟩ rfl rfl (Nat.le_of_ble_eq_true rfl) ⟨Nat.zero_le _, Nat.zero_le _⟩ dX3_rankOf_12 (st1 := [.int r_4]) rfl (fun H locs hW => ?_)
        refine lv_if_le (tgt := 30) hx hb dX3_rankOf_15 (by decide) (fun c_6 => ?_) (fun c_6 => ?_)
        · have h := k_t c_6 h
          exact J30 x2 x3 H locs ls hW (lv_sub hl [0, 1, 2, 3] rfl) h
        · have h := k_f c_6 h
          refine lv_aload_n hx hb dX3_rankOf_18 rfl (lv_at hl 0 rfl) ?_
          refine lv_iload_n hx hb dX3_rankOf_19 rfl (lv_at hl 3 rfl) ?_
          refine lv_iload_n hx hb dX3_rankOf_20 rfl (lv_at hl 1 rfl) ?_
          obtain ⟨r_8, h_7, h⟩ := k_bE1 h
          refine k_callV (C := RX3) (ws' := [(a_this, .inr (3, [.ref a_sizes, .ref a_sums])), (a_sizes, .inl (cA 0, n_sizes, .inl sizes)), (a_sums, .inl (cA 0, n_sums, .inl sums))]) (As := [.int x3, .int v1]) (rest := []) (b := a_this) (m_X3_standsBefore l D cA H.size a_this a_sums a_sizes n_sums sums x3 v1 r_8 h_7) hx hb hml hown hts hB hA hW hl.1 q4_152 q1_9 q4_151 qs_yX3_standsBefore q4_149 pd_X3_standsBefore ⟨rfl, rfl, Nat.le_of_ble_eq_true rfl, Nat.le_of_ble_eq_true rfl⟩ rfl 0 rfl rfl [0, 2] [1] ⟨rfl, rfl, trivial⟩ rfl ⟨⟨rfl, rfl, trivial⟩, ⟨rfl, trivial⟩, rfl⟩ rfl rfl (Nat.le_of_ble_eq_true rfl) ⟨Nat.zero_le _, Nat.zero_le _⟩ dX3_rankOf_21 (st1 := [.int r_8]) rfl (fun H locs hW => ?_)
          refine lv_if_eq (tgt := 30) hx hb dX3_rankOf_24 (by decide) (fun c_10 => ?_) (fun c_10 => ?_)
          · have h := k_t c_10 h
            exact J30 x2 x3 H locs ls hW (lv_sub hl [0, 1, 2, 3] rfl) h
          · have h := k_f c_10 h
            obtain ⟨x_11, ex_11⟩ : ∃ y : Int32, y = x2 + 1 := ⟨_, rfl⟩
            have h := k_letE ex_11 h
            refine lv_iinc (v := x_11) (lv' := [(2, .int x_11), (0, .ref a_this), (1, .int v1), (3, .int x3)]) hx hb dX3_rankOf_27 hl (k := 2) rfl (by rw [ex_11]; rfl) (by decide) rfl (fun ls hl => ?_)
            exact J30 x_11 x3 H locs ls hW (lv_sub hl [1, 2, 0, 3] rfl) h
  refine lv_iconst (v := 0) hx hb dX3_rankOf_0 (by decide) ?_
  refine lv_istore_n (lv' := [(2, .int 0), (0, .ref a_this), (1, .int v1)]) hx hb dX3_rankOf_1 rfl hl (by decide) rfl (fun ls hl => ?_)
  refine lv_iconst (v := 0) hx hb dX3_rankOf_2 (by decide) ?_
  refine lv_istore_n (lv' := [(3, .int 0), (2, .int 0), (0, .ref a_this), (1, .int v1)]) hx hb dX3_rankOf_3 rfl hl (by decide) rfl (fun ls hl => ?_)
  exact J4 fu 0 0 H locs ls hW (lv_sub hl [2, 3, 1, 0] rfl) h
noncomputable def f_X3_groupOfRank_27 (fu : Nat) (n_sizes : Nat) (n_sums : Nat) (sizes : Nat → Int32) (sums : Nat → Int32) (v1 : Int32) (k2 : Int32 → Option (Int32)) (x2 : Int32) : Option (Int32) := (k_let (x2 + 1) fun x_1 => (k2 x_1))
noncomputable def f_X3_groupOfRank_2 (fu : Nat) (n_sizes : Nat) (n_sums : Nat) (sizes : Nat → Int32) (sums : Nat → Int32) (v1 : Int32) : Nat → Int32 → Option (Int32)
  | 0 => fun _ => none
  | n + 1 => fun x2 => (if (6 : Int32) ≤ x2 then (some ((-1))) else (k_b1 (f_X3_sizeOf n_sizes sizes x2) fun r_4 => (if r_4 ≤ 0 then ((f_X3_groupOfRank_27 fu n_sizes n_sums sizes sums v1 (f_X3_groupOfRank_2 fu n_sizes n_sums sizes sums v1 n) x2)) else (k_b1 (f_X3_rankOf fu n_sizes n_sums sizes sums x2) fun r_8 => (if r_8 = v1 then (some (x2)) else ((f_X3_groupOfRank_27 fu n_sizes n_sums sizes sums v1 (f_X3_groupOfRank_2 fu n_sizes n_sums sizes sums v1 n) x2)))))))
theorem fs_X3_groupOfRank_2 (fu : Nat) (n_sizes : Nat) (n_sums : Nat) (sizes : Nat → Int32) (sums : Nat → Int32) (v1 : Int32) (n : Nat) (x2 : Int32) : f_X3_groupOfRank_2 fu n_sizes n_sums sizes sums v1 (n + 1) x2 = (if (6 : Int32) ≤ x2 then (some ((-1))) else (k_b1 (f_X3_sizeOf n_sizes sizes x2) fun r_4 => (if r_4 ≤ 0 then ((f_X3_groupOfRank_27 fu n_sizes n_sums sizes sums v1 (f_X3_groupOfRank_2 fu n_sizes n_sums sizes sums v1 n) x2)) else (k_b1 (f_X3_rankOf fu n_sizes n_sums sizes sums x2) fun r_8 => (if r_8 = v1 then (some (x2)) else ((f_X3_groupOfRank_27 fu n_sizes n_sums sizes sums v1 (f_X3_groupOfRank_2 fu n_sizes n_sums sizes sums v1 n) x2))))))) := rfl
noncomputable def f_X3_groupOfRank (fu : Nat) (n_sizes : Nat) (n_sums : Nat) (sizes : Nat → Int32) (sums : Nat → Int32) (v1 : Int32) : Option (Int32) := ((f_X3_groupOfRank_2 fu n_sizes n_sums sizes sums v1 fu 0))
abbrev rm_X3_groupOfRank : Room := { frames := 3, cells := 0, slots := 0, locals := 66 }
theorem pd_X3_groupOfRank : k_D1 yX3_groupOfRank 1 := by decide +kernel
set_option maxHeartbeats 4000000 in
set_option maxRecDepth 100000 in
theorem m_X3_groupOfRank (l : Launch) (D : va_G) (cA : Nat → ClassId) (sz : Nat) (a_this a_sizes a_sums : Nat) (fu : Nat) (n_sizes : Nat) (n_sums : Nat) (sizes : Nat → Int32) (sums : Nat → Int32) (v1 : Int32) (ret_ : Int32) (h : f_X3_groupOfRank fu n_sizes n_sums sizes sums v1 = some (ret_)) : k_M l yX3_groupOfRank prog_5_method_5_code 3 (some .int) rm_X3_groupOfRank D cA [.ref a_this, .int v1] [(a_this, .inr (3, [.ref a_sizes, .ref a_sums])), (a_sizes, .inl (cA 0, n_sizes, .inl sizes)), (a_sums, .inl (cA 0, n_sums, .inl sums))] sz (some (.int ret_)) [(a_this, .inr (3, [.ref a_sizes, .ref a_sums])), (a_sizes, .inl (cA 0, n_sizes, .inl sizes)), (a_sums, .inl (cA 0, n_sums, .inl sums))] := by
  refine k_ofW (by decide) (Nat.le_of_ble_eq_true rfl) ?_
  intro p e s m below meth c A ls hx hb hr hml hts hown hlocks hB hA hW hl
  have hl : lv_has ls 3 [(0, .ref a_this), (1, .int v1)] := hl
  obtain ⟨H, eH⟩ : ∃ H, H = s.heap := ⟨_, rfl⟩
  obtain ⟨locs, eL⟩ : ∃ L : List Loc, L = [] := ⟨_, rfl⟩
  have hW : k_Wd D A s.heap [(a_this, .inr (3, [.ref a_sizes, .ref a_sums])), (a_sizes, .inl (cA 0, n_sizes, .inl sizes)), (a_sums, .inl (cA 0, n_sums, .inl sums))] H locs := by rw [eH, eL]; exact hW
  suffices K : W p l e rm_X3_groupOfRank s m [.ref a_this, .int v1].toArray below meth c H locs 0 0 (MQ below (k_Q (some (.int ret_)) D [(a_this, .inr (3, [.ref a_sizes, .ref a_sums])), (a_sizes, .inl (cA 0, n_sizes, .inl sizes)), (a_sums, .inl (cA 0, n_sums, .inl sums))] A) [.ref a_this, .int v1].toArray s 0 0 A) (F0 m 0 ls []) by rw [eH, eL] at K; exact K
  clear eH eL
  have J2 : ∀ (n2 : Nat) (x2 : Int32) (H : Heap) (locs : List Loc) (ls : Array Slot), k_Wd D A s.heap [(a_this, .inr (3, [.ref a_sizes, .ref a_sums])), (a_sizes, .inl (cA 0, n_sizes, .inl sizes)), (a_sums, .inl (cA 0, n_sums, .inl sums))] H locs → lv_has ls 3 [(0, .ref a_this), (1, .int v1), (2, .int x2)] → f_X3_groupOfRank_2 fu n_sizes n_sums sizes sums v1 n2 x2 = some (ret_) → W p l e rm_X3_groupOfRank s m [.ref a_this, .int v1].toArray below meth c H locs 0 0 (MQ below (k_Q (some (.int ret_)) D [(a_this, .inr (3, [.ref a_sizes, .ref a_sums])), (a_sizes, .inl (cA 0, n_sizes, .inl sizes)), (a_sums, .inl (cA 0, n_sums, .inl sums))] A) [.ref a_this, .int v1].toArray s 0 0 A) (F0 m 2 ls []) := by
    intro n2
    induction n2 with
    | zero => intro x2 H locs ls hW hl h; exact k_no h
    | succ n2 ih2 =>
      have J27 : ∀ (x2 : Int32) (H : Heap) (locs : List Loc) (ls : Array Slot), k_Wd D A s.heap [(a_this, .inr (3, [.ref a_sizes, .ref a_sums])), (a_sizes, .inl (cA 0, n_sizes, .inl sizes)), (a_sums, .inl (cA 0, n_sums, .inl sums))] H locs → lv_has ls 3 [(0, .ref a_this), (1, .int v1), (2, .int x2)] → f_X3_groupOfRank_27 fu n_sizes n_sums sizes sums v1 (f_X3_groupOfRank_2 fu n_sizes n_sums sizes sums v1 n2) x2 = some (ret_) → W p l e rm_X3_groupOfRank s m [.ref a_this, .int v1].toArray below meth c H locs 0 0 (MQ below (k_Q (some (.int ret_)) D [(a_this, .inr (3, [.ref a_sizes, .ref a_sums])), (a_sizes, .inl (cA 0, n_sizes, .inl sizes)), (a_sums, .inl (cA 0, n_sums, .inl sums))] A) [.ref a_this, .int v1].toArray s 0 0 A) (F0 m 27 ls []) := by
        intro x2 H locs ls hW hl h
        obtain ⟨x_1, ex_1⟩ : ∃ y : Int32, y = x2 + 1 := ⟨_, rfl⟩
        have h := k_letE ex_1 h
        refine lv_iinc (v := x_1) (lv' := [(2, .int x_1), (0, .ref a_this), (1, .int v1)]) hx hb dX3_groupOfRank_27 hl (k := 2) rfl (by rw [ex_1]; rfl) (by decide) rfl (fun ls hl => ?_)
        refine lv_goto (tgt := 2) hx hb dX3_groupOfRank_30 (by decide) ?_
        exact ih2 x_1 H locs ls hW (lv_sub hl [1, 2, 0] rfl) h
      intro x2 H locs ls hW hl h
      have h := (fs_X3_groupOfRank_2 _ _ _ _ _ _ _ _).symm.trans h
      refine lv_iload_n hx hb dX3_groupOfRank_2 rfl (lv_at hl 2 rfl) ?_
      refine lv_bipush (v := 6) hx hb dX3_groupOfRank_3 (by decide) ?_
      refine lv_icmp_ge (tgt := 33) hx hb dX3_groupOfRank_5 (by decide) (fun c_2 => ?_) (fun c_2 => ?_)
      · have h := k_t c_2 h
        refine lv_iconst (v := (-1)) hx hb dX3_groupOfRank_33 (by decide) ?_
        have z0 := k_inj1 h
        rw [← z0]
        exact W.iret hx hb hr (fun t ht hWm => ⟨rfl, by rw [ht]; exact hW.1, hW.2.2.F ht⟩) hW.2.2.2.2 dX3_groupOfRank_34
      · have h := k_f c_2 h
        refine lv_aload_n hx hb dX3_groupOfRank_8 rfl (lv_at hl 0 rfl) ?_
        refine lv_iload_n hx hb dX3_groupOfRank_9 rfl (lv_at hl 2 rfl) ?_
        obtain ⟨r_4, h_3, h⟩ := k_bE1 h
        refine k_callV (C := RX3) (ws' := [(a_this, .inr (3, [.ref a_sizes, .ref a_sums])), (a_sizes, .inl (cA 0, n_sizes, .inl sizes)), (a_sums, .inl (cA 0, n_sums, .inl sums))]) (As := [.int x2]) (rest := []) (b := a_this) (m_X3_sizeOf l D cA H.size a_this a_sizes a_sums n_sizes sizes x2 r_4 h_3) hx hb hml hown hts hB hA hW hl.1 q2_218 q1_9 q2_216 q2_217 q2_215 pd_X3_sizeOf ⟨rfl, rfl, Nat.le_of_ble_eq_true rfl, Nat.le_of_ble_eq_true rfl⟩ rfl 0 rfl rfl [0, 1] [2] ⟨rfl, rfl, trivial⟩ rfl ⟨⟨rfl, rfl, trivial⟩, ⟨rfl, trivial⟩, rfl⟩ rfl rfl (Nat.le_of_ble_eq_true rfl) ⟨Nat.zero_le _, Nat.zero_le _⟩ dX3_groupOfRank_10 (st1 := [.int r_4]) rfl (fun H locs hW => ?_)
        refine lv_if_le (tgt := 27) hx hb dX3_groupOfRank_13 (by decide) (fun c_6 => ?_) (fun c_6 => ?_)
        · have h := k_t c_6 h
          exact J27 x2 H locs ls hW (lv_sub hl [0, 1, 2] rfl) h
        · have h := k_f c_6 h
          refine lv_aload_n hx hb dX3_groupOfRank_16 rfl (lv_at hl 0 rfl) ?_
          refine lv_iload_n hx hb dX3_groupOfRank_17 rfl (lv_at hl 2 rfl) ?_
          obtain ⟨r_8, h_7, h⟩ := k_bE1 h
          refine k_callV (C := RX3) (ws' := [(a_this, .inr (3, [.ref a_sizes, .ref a_sums])), (a_sizes, .inl (cA 0, n_sizes, .inl sizes)), (a_sums, .inl (cA 0, n_sums, .inl sums))]) (As := [.int x2]) (rest := []) (b := a_this) (m_X3_rankOf l D cA H.size a_this a_sizes a_sums fu n_sizes n_sums sizes sums x2 r_8 h_7) hx hb hml hown hts hB hA hW hl.1 q4_148 q1_9 q4_147 qs_yX3_rankOf q4_145 pd_X3_rankOf ⟨rfl, rfl, Nat.le_of_ble_eq_true rfl, Nat.le_of_ble_eq_true rfl⟩ rfl 0 rfl rfl [0, 1, 2] [] ⟨rfl, rfl, rfl, trivial⟩ rfl ⟨⟨rfl, rfl, rfl, trivial⟩, trivial, rfl⟩ rfl rfl (Nat.le_of_ble_eq_true rfl) ⟨Nat.zero_le _, Nat.zero_le _⟩ dX3_groupOfRank_18 (st1 := [.int r_8]) rfl (fun H locs hW => ?_)
          refine lv_iload_n hx hb dX3_groupOfRank_21 rfl (lv_at hl 1 rfl) ?_
          refine lv_icmp_ne (tgt := 27) hx hb dX3_groupOfRank_22 (by decide) (fun c_10 => ?_) (fun c_10 => ?_)
          · have h := k_f c_10 h
            exact J27 x2 H locs ls hW (lv_sub hl [0, 1, 2] rfl) h
          · have h := k_t c_10 h
            refine lv_iload_n hx hb dX3_groupOfRank_25 rfl (lv_at hl 2 rfl) ?_
            have z0 := k_inj1 h
            rw [← z0]
            exact W.iret hx hb hr (fun t ht hWm => ⟨rfl, by rw [ht]; exact hW.1, hW.2.2.F ht⟩) hW.2.2.2.2 dX3_groupOfRank_26
  refine lv_iconst (v := 0) hx hb dX3_groupOfRank_0 (by decide) ?_
  refine lv_istore_n (lv' := [(2, .int 0), (0, .ref a_this), (1, .int v1)]) hx hb dX3_groupOfRank_1 rfl hl (by decide) rfl (fun ls hl => ?_)
  exact J2 fu 0 H locs ls hW (lv_sub hl [1, 2, 0] rfl) h
noncomputable def f_X3_copyFrom_2 (fu : Nat) (n_sizes : Nat) (n_sums : Nat) (n_p1_sizes : Nat) (n_p1_sums : Nat) (p1_sizes : Nat → Int32) (p1_sums : Nat → Int32) : Nat → Int32 → (Nat → Int32) → (Nat → Int32) → Option ((Nat → Int32) × (Nat → Int32))
  | 0 => fun _ _ _ => none
  | n + 1 => fun x2 sizes sums => (if (nI n_sizes) ≤ x2 then (some (sizes, sums)) else (if (nI n_sums) ≤ x2 then (some (sizes, sums)) else (k_b1 (f_X3_sizeOf n_p1_sizes p1_sizes x2) fun r_4 => (if ¬ (x2 < 0 ∨ n_sizes ≤ x2.toNatClampNeg) then (k_b1 (f_X3_sumOf n_p1_sums p1_sums x2) fun r_8 => (if ¬ (x2 < 0 ∨ n_sums ≤ x2.toNatClampNeg) then (k_let (x2 + 1) fun x_11 => (f_X3_copyFrom_2 fu n_sizes n_sums n_p1_sizes n_p1_sums p1_sizes p1_sums n x_11 (upd sizes x2.toNatClampNeg r_4) (upd sums x2.toNatClampNeg r_8))) else none)) else none))))
theorem fs_X3_copyFrom_2 (fu : Nat) (n_sizes : Nat) (n_sums : Nat) (n_p1_sizes : Nat) (n_p1_sums : Nat) (p1_sizes : Nat → Int32) (p1_sums : Nat → Int32) (n : Nat) (x2 : Int32) (sizes : Nat → Int32) (sums : Nat → Int32) : f_X3_copyFrom_2 fu n_sizes n_sums n_p1_sizes n_p1_sums p1_sizes p1_sums (n + 1) x2 sizes sums = (if (nI n_sizes) ≤ x2 then (some (sizes, sums)) else (if (nI n_sums) ≤ x2 then (some (sizes, sums)) else (k_b1 (f_X3_sizeOf n_p1_sizes p1_sizes x2) fun r_4 => (if ¬ (x2 < 0 ∨ n_sizes ≤ x2.toNatClampNeg) then (k_b1 (f_X3_sumOf n_p1_sums p1_sums x2) fun r_8 => (if ¬ (x2 < 0 ∨ n_sums ≤ x2.toNatClampNeg) then (k_let (x2 + 1) fun x_11 => (f_X3_copyFrom_2 fu n_sizes n_sums n_p1_sizes n_p1_sums p1_sizes p1_sums n x_11 (upd sizes x2.toNatClampNeg r_4) (upd sums x2.toNatClampNeg r_8))) else none)) else none)))) := rfl
noncomputable def f_X3_copyFrom (fu : Nat) (n_sizes : Nat) (n_sums : Nat) (n_p1_sizes : Nat) (n_p1_sums : Nat) (p1_sizes : Nat → Int32) (p1_sums : Nat → Int32) (sizes : Nat → Int32) (sums : Nat → Int32) : Option ((Nat → Int32) × (Nat → Int32)) := ((f_X3_copyFrom_2 fu n_sizes n_sums n_p1_sizes n_p1_sums p1_sizes p1_sums fu 0 sizes sums))
abbrev rm_X3_copyFrom : Room := { frames := 1, cells := 0, slots := 0, locals := 21 }
theorem pd_X3_copyFrom : k_D1 yX3_copyFrom 1 := by decide +kernel
set_option maxHeartbeats 4000000 in
set_option maxRecDepth 100000 in
theorem m_X3_copyFrom (l : Launch) (D : va_G) (cA : Nat → ClassId) (sz : Nat) (a_this a_sizes a_sums a_p1 a_p1_sizes a_p1_sums : Nat) (fu : Nat) (n_sizes : Nat) (n_sums : Nat) (n_p1_sizes : Nat) (n_p1_sums : Nat) (sizes : Nat → Int32) (sums : Nat → Int32) (p1_sizes : Nat → Int32) (p1_sums : Nat → Int32) (sizes' : Nat → Int32) (sums' : Nat → Int32) (h : f_X3_copyFrom fu n_sizes n_sums n_p1_sizes n_p1_sums p1_sizes p1_sums sizes sums = some (sizes', sums')) : k_M l yX3_copyFrom prog_5_method_7_code 3 (none : Option Jvm.ClassFile.FieldType) rm_X3_copyFrom D cA [.ref a_this, .ref a_p1] [(a_this, .inr (3, [.ref a_sizes, .ref a_sums])), (a_sizes, .inl (cA 0, n_sizes, .inl sizes)), (a_sums, .inl (cA 0, n_sums, .inl sums)), (a_p1, .inr (3, [.ref a_p1_sizes, .ref a_p1_sums])), (a_p1_sizes, .inl (cA 0, n_p1_sizes, .inl p1_sizes)), (a_p1_sums, .inl (cA 0, n_p1_sums, .inl p1_sums))] sz (none) [(a_this, .inr (3, [.ref a_sizes, .ref a_sums])), (a_sizes, .inl (cA 0, n_sizes, .inl (sizes'))), (a_sums, .inl (cA 0, n_sums, .inl (sums'))), (a_p1, .inr (3, [.ref a_p1_sizes, .ref a_p1_sums])), (a_p1_sizes, .inl (cA 0, n_p1_sizes, .inl p1_sizes)), (a_p1_sums, .inl (cA 0, n_p1_sums, .inl p1_sums))] := by
  refine k_ofW (by decide) (Nat.le_of_ble_eq_true rfl) ?_
  intro p e s m below meth c A ls hx hb hr hml hts hown hlocks hB hA hW hl
  have hl : lv_has ls 3 [(0, .ref a_this), (1, .ref a_p1)] := hl
  obtain ⟨H, eH⟩ : ∃ H, H = s.heap := ⟨_, rfl⟩
  obtain ⟨locs, eL⟩ : ∃ L : List Loc, L = [] := ⟨_, rfl⟩
  have hW : k_Wd D A s.heap [(a_this, .inr (3, [.ref a_sizes, .ref a_sums])), (a_sizes, .inl (cA 0, n_sizes, .inl sizes)), (a_sums, .inl (cA 0, n_sums, .inl sums)), (a_p1, .inr (3, [.ref a_p1_sizes, .ref a_p1_sums])), (a_p1_sizes, .inl (cA 0, n_p1_sizes, .inl p1_sizes)), (a_p1_sums, .inl (cA 0, n_p1_sums, .inl p1_sums))] H locs := by rw [eH, eL]; exact hW
  suffices K : W p l e rm_X3_copyFrom s m [.ref a_this, .ref a_p1].toArray below meth c H locs 0 0 (MQ below (k_Q (none) D [(a_this, .inr (3, [.ref a_sizes, .ref a_sums])), (a_sizes, .inl (cA 0, n_sizes, .inl (sizes'))), (a_sums, .inl (cA 0, n_sums, .inl (sums'))), (a_p1, .inr (3, [.ref a_p1_sizes, .ref a_p1_sums])), (a_p1_sizes, .inl (cA 0, n_p1_sizes, .inl p1_sizes)), (a_p1_sums, .inl (cA 0, n_p1_sums, .inl p1_sums))] A) [.ref a_this, .ref a_p1].toArray s 0 0 A) (F0 m 0 ls []) by rw [eH, eL] at K; exact K
  clear eH eL
  have J2 : ∀ (n2 : Nat) (x2 : Int32) (sizes : Nat → Int32) (sums : Nat → Int32) (H : Heap) (locs : List Loc) (ls : Array Slot), k_Wd D A s.heap [(a_this, .inr (3, [.ref a_sizes, .ref a_sums])), (a_sizes, .inl (cA 0, n_sizes, .inl sizes)), (a_sums, .inl (cA 0, n_sums, .inl sums)), (a_p1, .inr (3, [.ref a_p1_sizes, .ref a_p1_sums])), (a_p1_sizes, .inl (cA 0, n_p1_sizes, .inl p1_sizes)), (a_p1_sums, .inl (cA 0, n_p1_sums, .inl p1_sums))] H locs → lv_has ls 3 [(0, .ref a_this), (1, .ref a_p1), (2, .int x2)] → f_X3_copyFrom_2 fu n_sizes n_sums n_p1_sizes n_p1_sums p1_sizes p1_sums n2 x2 sizes sums = some (sizes', sums') → W p l e rm_X3_copyFrom s m [.ref a_this, .ref a_p1].toArray below meth c H locs 0 0 (MQ below (k_Q (none) D [(a_this, .inr (3, [.ref a_sizes, .ref a_sums])), (a_sizes, .inl (cA 0, n_sizes, .inl (sizes'))), (a_sums, .inl (cA 0, n_sums, .inl (sums'))), (a_p1, .inr (3, [.ref a_p1_sizes, .ref a_p1_sums])), (a_p1_sizes, .inl (cA 0, n_p1_sizes, .inl p1_sizes)), (a_p1_sums, .inl (cA 0, n_p1_sums, .inl p1_sums))] A) [.ref a_this, .ref a_p1].toArray s 0 0 A) (F0 m 2 ls []) := by
    intro n2
    induction n2 with
    | zero => intro x2 sizes sums H locs ls hW hl h; exact k_no h
    | succ n2 ih2 =>
      intro x2 sizes sums H locs ls hW hl h
      have h := (fs_X3_copyFrom_2 _ _ _ _ _ _ _ _ _ _ _).symm.trans h
      refine lv_iload_n hx hb dX3_copyFrom_2 rfl (lv_at hl 2 rfl) ?_
      refine lv_aload_n hx hb dX3_copyFrom_3 rfl (lv_at hl 0 rfl) ?_
      refine va_get (D := D) (ci := 3) (v := .ref a_sizes) (C := RX3) (T := TX3) (N := 2) hx hb hts iX3 hown hB.1 hW.1 0 rfl rfl 0 (by decide) (hts _ q1_167) (fun _ h9 => h9) rfl dX3_copyFrom_4 ?_
      refine va_alen hx hb hB.1 hW.1 1 0 rfl (v := nI n_sizes) rfl rfl dX3_copyFrom_7 ?_
      refine lv_icmp_ge (tgt := 48) hx hb dX3_copyFrom_8 (by decide) (fun c_1 => ?_) (fun c_1 => ?_)
      · have h := k_t c_1 h
        obtain ⟨z0, z1⟩ := k_inj2 h
        rw [← z0, ← z1]
        exact W.vret hx hb hr (fun t ht hWm => ⟨rfl, by rw [ht]; exact hW.1, hW.2.2.F ht⟩) hW.2.2.2.2 dX3_copyFrom_48
      · have h := k_f c_1 h
        refine lv_iload_n hx hb dX3_copyFrom_11 rfl (lv_at hl 2 rfl) ?_
        refine lv_aload_n hx hb dX3_copyFrom_12 rfl (lv_at hl 0 rfl) ?_
        refine va_get (D := D) (ci := 3) (v := .ref a_sums) (C := RX3) (T := TX3) (N := 2) hx hb hts iX3 hown hB.1 hW.1 0 rfl rfl 1 (by decide) (hts _ q1_168) (fun _ h9 => h9) rfl dX3_copyFrom_13 ?_
        refine va_alen hx hb hB.1 hW.1 2 0 rfl (v := nI n_sums) rfl rfl dX3_copyFrom_16 ?_
        refine lv_icmp_ge (tgt := 48) hx hb dX3_copyFrom_17 (by decide) (fun c_2 => ?_) (fun c_2 => ?_)
        · have h := k_t c_2 h
          obtain ⟨z0, z1⟩ := k_inj2 h
          rw [← z0, ← z1]
          exact W.vret hx hb hr (fun t ht hWm => ⟨rfl, by rw [ht]; exact hW.1, hW.2.2.F ht⟩) hW.2.2.2.2 dX3_copyFrom_48
        · have h := k_f c_2 h
          refine lv_aload_n hx hb dX3_copyFrom_20 rfl (lv_at hl 0 rfl) ?_
          refine va_get (D := D) (ci := 3) (v := .ref a_sizes) (C := RX3) (T := TX3) (N := 2) hx hb hts iX3 hown hB.1 hW.1 0 rfl rfl 0 (by decide) (hts _ q1_167) (fun _ h9 => h9) rfl dX3_copyFrom_21 ?_
          refine lv_iload_n hx hb dX3_copyFrom_24 rfl (lv_at hl 2 rfl) ?_
          refine lv_aload_n hx hb dX3_copyFrom_25 rfl (lv_at hl 1 rfl) ?_
          refine lv_iload_n hx hb dX3_copyFrom_26 rfl (lv_at hl 2 rfl) ?_
          obtain ⟨r_4, h_3, h⟩ := k_bE1 h
          refine k_callV (C := RX3) (ws' := [(a_this, .inr (3, [.ref a_sizes, .ref a_sums])), (a_sizes, .inl (cA 0, n_sizes, .inl sizes)), (a_sums, .inl (cA 0, n_sums, .inl sums)), (a_p1, .inr (3, [.ref a_p1_sizes, .ref a_p1_sums])), (a_p1_sizes, .inl (cA 0, n_p1_sizes, .inl p1_sizes)), (a_p1_sums, .inl (cA 0, n_p1_sums, .inl p1_sums))]) (As := [.int x2]) (rest := [.int x2, .ref a_sizes]) (b := a_p1) (m_X3_sizeOf l D cA H.size a_p1 a_p1_sizes a_p1_sums n_p1_sizes p1_sizes x2 r_4 h_3) hx hb hml hown hts hB hA hW hl.1 q2_218 q1_9 q2_216 q2_217 q2_215 pd_X3_sizeOf ⟨rfl, rfl, Nat.le_of_ble_eq_true rfl, Nat.le_of_ble_eq_true rfl⟩ rfl 3 rfl rfl [3, 4] [0, 1, 2, 5] ⟨rfl, rfl, trivial⟩ rfl ⟨⟨rfl, rfl, trivial⟩, ⟨rfl, rfl, rfl, rfl, trivial⟩, rfl⟩ rfl rfl (Nat.le_of_ble_eq_true rfl) ⟨Nat.zero_le _, Nat.zero_le _⟩ dX3_copyFrom_27 (st1 := [.int r_4, .int x2, .ref a_sizes]) rfl (fun H locs hW => ?_)
          obtain ⟨c_6, h⟩ := k_g h
          refine va_iast hx hb hB.1 hW.1 hW.2.1 hW.2.2 1 0 rfl rfl c_6 dX3_copyFrom_30 (fun H locs hP hD hS => ?_)
          have hW : k_Wd D A s.heap [(a_this, .inr (3, [.ref a_sizes, .ref a_sums])), (a_sizes, .inl (cA 0, n_sizes, .inl (upd sizes x2.toNatClampNeg r_4))), (a_sums, .inl (cA 0, n_sums, .inl sums)), (a_p1, .inr (3, [.ref a_p1_sizes, .ref a_p1_sums])), (a_p1_sizes, .inl (cA 0, n_p1_sizes, .inl p1_sizes)), (a_p1_sums, .inl (cA 0, n_p1_sums, .inl p1_sums))] H locs := ⟨hP, hD, hS⟩
          refine lv_aload_n hx hb dX3_copyFrom_31 rfl (lv_at hl 0 rfl) ?_
          refine va_get (D := D) (ci := 3) (v := .ref a_sums) (C := RX3) (T := TX3) (N := 2) hx hb hts iX3 hown hB.1 hW.1 0 rfl rfl 1 (by decide) (hts _ q1_168) (fun _ h9 => h9) rfl dX3_copyFrom_32 ?_
          refine lv_iload_n hx hb dX3_copyFrom_35 rfl (lv_at hl 2 rfl) ?_
          refine lv_aload_n hx hb dX3_copyFrom_36 rfl (lv_at hl 1 rfl) ?_
          refine lv_iload_n hx hb dX3_copyFrom_37 rfl (lv_at hl 2 rfl) ?_
          obtain ⟨r_8, h_7, h⟩ := k_bE1 h
          refine k_callV (C := RX3) (ws' := [(a_this, .inr (3, [.ref a_sizes, .ref a_sums])), (a_sizes, .inl (cA 0, n_sizes, .inl (upd sizes x2.toNatClampNeg r_4))), (a_sums, .inl (cA 0, n_sums, .inl sums)), (a_p1, .inr (3, [.ref a_p1_sizes, .ref a_p1_sums])), (a_p1_sizes, .inl (cA 0, n_p1_sizes, .inl p1_sizes)), (a_p1_sums, .inl (cA 0, n_p1_sums, .inl p1_sums))]) (As := [.int x2]) (rest := [.int x2, .ref a_sums]) (b := a_p1) (m_X3_sumOf l D cA H.size a_p1 a_p1_sums a_p1_sizes n_p1_sums p1_sums x2 r_8 h_7) hx hb hml hown hts hB hA hW hl.1 q2_222 q1_9 q2_220 q2_221 q2_219 pd_X3_sumOf ⟨rfl, rfl, Nat.le_of_ble_eq_true rfl, Nat.le_of_ble_eq_true rfl⟩ rfl 3 rfl rfl [3, 5] [0, 1, 2, 4] ⟨rfl, rfl, trivial⟩ rfl ⟨⟨rfl, rfl, trivial⟩, ⟨rfl, rfl, rfl, rfl, trivial⟩, rfl⟩ rfl rfl (Nat.le_of_ble_eq_true rfl) ⟨Nat.zero_le _, Nat.zero_le _⟩ dX3_copyFrom_38 (st1 := [.int r_8, .int x2, .ref a_sums]) rfl (fun H locs hW => ?_)
          obtain ⟨c_10, h⟩ := k_g h
          refine va_iast hx hb hB.1 hW.1 hW.2.1 hW.2.2 2 0 rfl rfl c_10 dX3_copyFrom_41 (fun H locs hP hD hS => ?_)
          have hW : k_Wd D A s.heap [(a_this, .inr (3, [.ref a_sizes, .ref a_sums])), (a_sizes, .inl (cA 0, n_sizes, .inl (upd sizes x2.toNatClampNeg r_4))), (a_sums, .inl (cA 0, n_sums, .inl (upd sums x2.toNatClampNeg r_8))), (a_p1, .inr (3, [.ref a_p1_sizes, .ref a_p1_sums])), (a_p1_sizes, .inl (cA 0, n_p1_sizes, .inl p1_sizes)), (a_p1_sums, .inl (cA 0, n_p1_sums, .inl p1_sums))] H locs := ⟨hP, hD, hS⟩
          obtain ⟨x_11, ex_11⟩ : ∃ y : Int32, y = x2 + 1 := ⟨_, rfl⟩
          have h := k_letE ex_11 h
          refine lv_iinc (v := x_11) (lv' := [(2, .int x_11), (0, .ref a_this), (1, .ref a_p1)]) hx hb dX3_copyFrom_42 hl (k := 2) rfl (by rw [ex_11]; rfl) (by decide) rfl (fun ls hl => ?_)
          refine lv_goto (tgt := 2) hx hb dX3_copyFrom_45 (by decide) ?_
          exact ih2 x_11 (upd sizes x2.toNatClampNeg r_4) (upd sums x2.toNatClampNeg r_8) H locs ls hW (lv_sub hl [1, 2, 0] rfl) h
  refine lv_iconst (v := 0) hx hb dX3_copyFrom_0 (by decide) ?_
  refine lv_istore_n (lv' := [(2, .int 0), (0, .ref a_this), (1, .ref a_p1)]) hx hb dX3_copyFrom_1 rfl hl (by decide) rfl (fun ls hl => ?_)
  exact J2 fu 0 sizes sums H locs ls hW (lv_sub hl [1, 2, 0] rfl) h
noncomputable def f_X3_sumUp_98 (fu : Nat) (n_sizes : Nat) (n_sums : Nat) (n_p1_codes : Nat) (n_p1_counts : Nat) (p1_size : Int32) (p1_codes : Nat → Int32) (p1_counts : Nat → Int32) (k18 : Int32 → (Nat → Int32) → (Nat → Int32) → Option ((Nat → Int32) × (Nat → Int32))) (x2 : Int32) (sizes : Nat → Int32) (sums : Nat → Int32) : Option ((Nat → Int32) × (Nat → Int32)) := (k_let (x2 + 1) fun x_1 => (k18 x_1 sizes sums))
noncomputable def f_X3_sumUp_18 (fu : Nat) (n_sizes : Nat) (n_sums : Nat) (n_p1_codes : Nat) (n_p1_counts : Nat) (p1_size : Int32) (p1_codes : Nat → Int32) (p1_counts : Nat → Int32) : Nat → Int32 → (Nat → Int32) → (Nat → Int32) → Option ((Nat → Int32) × (Nat → Int32))
  | 0 => fun _ _ _ => none
  | n + 1 => fun x2 sizes sums => (k_b1 (f_X0_size p1_size) fun r_3 => (if r_3 ≤ x2 then (some (sizes, sums)) else (k_b1 (f_X0_codeAt n_p1_codes p1_size p1_codes x2) fun r_7 => (k_b1 (f_X8_joinGroup r_7) fun r_10 => (if r_10 < 0 then ((f_X3_sumUp_98 fu n_sizes n_sums n_p1_codes n_p1_counts p1_size p1_codes p1_counts (f_X3_sumUp_18 fu n_sizes n_sums n_p1_codes n_p1_counts p1_size p1_codes p1_counts n) x2 sizes sums)) else (if (nI n_sizes) ≤ r_10 then ((f_X3_sumUp_98 fu n_sizes n_sums n_p1_codes n_p1_counts p1_size p1_codes p1_counts (f_X3_sumUp_18 fu n_sizes n_sums n_p1_codes n_p1_counts p1_size p1_codes p1_counts n) x2 sizes sums)) else (if (nI n_sums) ≤ r_10 then ((f_X3_sumUp_98 fu n_sizes n_sums n_p1_codes n_p1_counts p1_size p1_codes p1_counts (f_X3_sumUp_18 fu n_sizes n_sums n_p1_codes n_p1_counts p1_size p1_codes p1_counts n) x2 sizes sums)) else (if ¬ (r_10 < 0 ∨ n_sizes ≤ r_10.toNatClampNeg) then k_let (sizes r_10.toNatClampNeg) fun x_16 => (k_b1 (f_X0_countAt n_p1_counts p1_size p1_counts x2) fun r_18 => (if ¬ (r_10 < 0 ∨ n_sizes ≤ r_10.toNatClampNeg) then (if ¬ (r_10 < 0 ∨ n_sums ≤ r_10.toNatClampNeg) then k_let (sums r_10.toNatClampNeg) fun x_22 => (k_b1 (f_X0_countAt n_p1_counts p1_size p1_counts x2) fun r_24 => (k_b1 (f_X8_joinProduct r_7) fun r_27 => (if ¬ (r_10 < 0 ∨ n_sums ≤ r_10.toNatClampNeg) then ((f_X3_sumUp_98 fu n_sizes n_sums n_p1_codes n_p1_counts p1_size p1_codes p1_counts (f_X3_sumUp_18 fu n_sizes n_sums n_p1_codes n_p1_counts p1_size p1_codes p1_counts n) x2 (upd sizes r_10.toNatClampNeg (x_16 + r_18)) (upd sums r_10.toNatClampNeg (x_22 + (r_24 * r_27))))) else none))) else none) else none)) else none))))))))
theorem fs_X3_sumUp_18 (fu : Nat) (n_sizes : Nat) (n_sums : Nat) (n_p1_codes : Nat) (n_p1_counts : Nat) (p1_size : Int32) (p1_codes : Nat → Int32) (p1_counts : Nat → Int32) (n : Nat) (x2 : Int32) (sizes : Nat → Int32) (sums : Nat → Int32) : f_X3_sumUp_18 fu n_sizes n_sums n_p1_codes n_p1_counts p1_size p1_codes p1_counts (n + 1) x2 sizes sums = (k_b1 (f_X0_size p1_size) fun r_3 => (if r_3 ≤ x2 then (some (sizes, sums)) else (k_b1 (f_X0_codeAt n_p1_codes p1_size p1_codes x2) fun r_7 => (k_b1 (f_X8_joinGroup r_7) fun r_10 => (if r_10 < 0 then ((f_X3_sumUp_98 fu n_sizes n_sums n_p1_codes n_p1_counts p1_size p1_codes p1_counts (f_X3_sumUp_18 fu n_sizes n_sums n_p1_codes n_p1_counts p1_size p1_codes p1_counts n) x2 sizes sums)) else (if (nI n_sizes) ≤ r_10 then ((f_X3_sumUp_98 fu n_sizes n_sums n_p1_codes n_p1_counts p1_size p1_codes p1_counts (f_X3_sumUp_18 fu n_sizes n_sums n_p1_codes n_p1_counts p1_size p1_codes p1_counts n) x2 sizes sums)) else (if (nI n_sums) ≤ r_10 then ((f_X3_sumUp_98 fu n_sizes n_sums n_p1_codes n_p1_counts p1_size p1_codes p1_counts (f_X3_sumUp_18 fu n_sizes n_sums n_p1_codes n_p1_counts p1_size p1_codes p1_counts n) x2 sizes sums)) else (if ¬ (r_10 < 0 ∨ n_sizes ≤ r_10.toNatClampNeg) then k_let (sizes r_10.toNatClampNeg) fun x_16 => (k_b1 (f_X0_countAt n_p1_counts p1_size p1_counts x2) fun r_18 => (if ¬ (r_10 < 0 ∨ n_sizes ≤ r_10.toNatClampNeg) then (if ¬ (r_10 < 0 ∨ n_sums ≤ r_10.toNatClampNeg) then k_let (sums r_10.toNatClampNeg) fun x_22 => (k_b1 (f_X0_countAt n_p1_counts p1_size p1_counts x2) fun r_24 => (k_b1 (f_X8_joinProduct r_7) fun r_27 => (if ¬ (r_10 < 0 ∨ n_sums ≤ r_10.toNatClampNeg) then ((f_X3_sumUp_98 fu n_sizes n_sums n_p1_codes n_p1_counts p1_size p1_codes p1_counts (f_X3_sumUp_18 fu n_sizes n_sums n_p1_codes n_p1_counts p1_size p1_codes p1_counts n) x2 (upd sizes r_10.toNatClampNeg (x_16 + r_18)) (upd sums r_10.toNatClampNeg (x_22 + (r_24 * r_27))))) else none))) else none) else none)) else none)))))))) := rfl
noncomputable def f_X3_sumUp (fu : Nat) (n_sizes : Nat) (n_sums : Nat) (n_p1_codes : Nat) (n_p1_counts : Nat) (p1_size : Int32) (p1_codes : Nat → Int32) (p1_counts : Nat → Int32) (sizes : Nat → Int32) (sums : Nat → Int32) : Option ((Nat → Int32) × (Nat → Int32)) := (k_b1 (f_J7_fill_53178 fu n_sizes 0 sizes) fun sizes__31 => (k_b1 (f_J7_fill_53178 fu n_sums 0 sums) fun sums__34 => ((f_X3_sumUp_18 fu n_sizes n_sums n_p1_codes n_p1_counts p1_size p1_codes p1_counts fu 0 sizes__31 sums__34))))
abbrev rm_X3_sumUp : Room := { frames := 1, cells := 0, slots := 0, locals := 23 }
theorem pd_X3_sumUp : k_D1 yX3_sumUp 1 := by decide +kernel
set_option maxHeartbeats 4000000 in
set_option maxRecDepth 100000 in
theorem m_X3_sumUp (l : Launch) (D : va_G) (cA : Nat → ClassId) (sz : Nat) (a_this a_sizes a_sums a_p1 a_p1_codes a_p1_counts : Nat) (fu : Nat) (n_sizes : Nat) (n_sums : Nat) (n_p1_codes : Nat) (n_p1_counts : Nat) (sizes : Nat → Int32) (sums : Nat → Int32) (p1_size : Int32) (p1_total : Int32) (p1_codes : Nat → Int32) (p1_counts : Nat → Int32) (sizes' : Nat → Int32) (sums' : Nat → Int32) (h : f_X3_sumUp fu n_sizes n_sums n_p1_codes n_p1_counts p1_size p1_codes p1_counts sizes sums = some (sizes', sums')) : k_M l yX3_sumUp prog_5_method_6_code 5 (none : Option Jvm.ClassFile.FieldType) rm_X3_sumUp D cA [.ref a_this, .ref a_p1] [(a_this, .inr (3, [.ref a_sizes, .ref a_sums])), (a_sizes, .inl (cA 0, n_sizes, .inl sizes)), (a_sums, .inl (cA 0, n_sums, .inl sums)), (a_p1, .inr (0, [.ref a_p1_codes, .ref a_p1_counts, .int p1_size, .int p1_total])), (a_p1_codes, .inl (cA 0, n_p1_codes, .inl p1_codes)), (a_p1_counts, .inl (cA 0, n_p1_counts, .inl p1_counts))] sz (none) [(a_this, .inr (3, [.ref a_sizes, .ref a_sums])), (a_sizes, .inl (cA 0, n_sizes, .inl (sizes'))), (a_sums, .inl (cA 0, n_sums, .inl (sums'))), (a_p1, .inr (0, [.ref a_p1_codes, .ref a_p1_counts, .int p1_size, .int p1_total])), (a_p1_codes, .inl (cA 0, n_p1_codes, .inl p1_codes)), (a_p1_counts, .inl (cA 0, n_p1_counts, .inl p1_counts))] := by
  refine k_ofW (by decide) (Nat.le_of_ble_eq_true rfl) ?_
  intro p e s m below meth c A ls hx hb hr hml hts hown hlocks hB hA hW hl
  have hl : lv_has ls 5 [(0, .ref a_this), (1, .ref a_p1)] := hl
  obtain ⟨H, eH⟩ : ∃ H, H = s.heap := ⟨_, rfl⟩
  obtain ⟨locs, eL⟩ : ∃ L : List Loc, L = [] := ⟨_, rfl⟩
  have hW : k_Wd D A s.heap [(a_this, .inr (3, [.ref a_sizes, .ref a_sums])), (a_sizes, .inl (cA 0, n_sizes, .inl sizes)), (a_sums, .inl (cA 0, n_sums, .inl sums)), (a_p1, .inr (0, [.ref a_p1_codes, .ref a_p1_counts, .int p1_size, .int p1_total])), (a_p1_codes, .inl (cA 0, n_p1_codes, .inl p1_codes)), (a_p1_counts, .inl (cA 0, n_p1_counts, .inl p1_counts))] H locs := by rw [eH, eL]; exact hW
  suffices K : W p l e rm_X3_sumUp s m [.ref a_this, .ref a_p1].toArray below meth c H locs 0 0 (MQ below (k_Q (none) D [(a_this, .inr (3, [.ref a_sizes, .ref a_sums])), (a_sizes, .inl (cA 0, n_sizes, .inl (sizes'))), (a_sums, .inl (cA 0, n_sums, .inl (sums'))), (a_p1, .inr (0, [.ref a_p1_codes, .ref a_p1_counts, .int p1_size, .int p1_total])), (a_p1_codes, .inl (cA 0, n_p1_codes, .inl p1_codes)), (a_p1_counts, .inl (cA 0, n_p1_counts, .inl p1_counts))] A) [.ref a_this, .ref a_p1].toArray s 0 0 A) (F0 m 0 ls []) by rw [eH, eL] at K; exact K
  clear eH eL
  have J18 : ∀ (n18 : Nat) (x2 : Int32) (sizes : Nat → Int32) (sums : Nat → Int32) (H : Heap) (locs : List Loc) (ls : Array Slot), k_Wd D A s.heap [(a_this, .inr (3, [.ref a_sizes, .ref a_sums])), (a_sizes, .inl (cA 0, n_sizes, .inl sizes)), (a_sums, .inl (cA 0, n_sums, .inl sums)), (a_p1, .inr (0, [.ref a_p1_codes, .ref a_p1_counts, .int p1_size, .int p1_total])), (a_p1_codes, .inl (cA 0, n_p1_codes, .inl p1_codes)), (a_p1_counts, .inl (cA 0, n_p1_counts, .inl p1_counts))] H locs → lv_has ls 5 [(0, .ref a_this), (1, .ref a_p1), (2, .int x2)] → f_X3_sumUp_18 fu n_sizes n_sums n_p1_codes n_p1_counts p1_size p1_codes p1_counts n18 x2 sizes sums = some (sizes', sums') → W p l e rm_X3_sumUp s m [.ref a_this, .ref a_p1].toArray below meth c H locs 0 0 (MQ below (k_Q (none) D [(a_this, .inr (3, [.ref a_sizes, .ref a_sums])), (a_sizes, .inl (cA 0, n_sizes, .inl (sizes'))), (a_sums, .inl (cA 0, n_sums, .inl (sums'))), (a_p1, .inr (0, [.ref a_p1_codes, .ref a_p1_counts, .int p1_size, .int p1_total])), (a_p1_codes, .inl (cA 0, n_p1_codes, .inl p1_codes)), (a_p1_counts, .inl (cA 0, n_p1_counts, .inl p1_counts))] A) [.ref a_this, .ref a_p1].toArray s 0 0 A) (F0 m 18 ls []) := by
    intro n18
    induction n18 with
    | zero => intro x2 sizes sums H locs ls hW hl h; exact k_no h
    | succ n18 ih18 =>
      have J98 : ∀ (x2 : Int32) (sizes : Nat → Int32) (sums : Nat → Int32) (H : Heap) (locs : List Loc) (ls : Array Slot), k_Wd D A s.heap [(a_this, .inr (3, [.ref a_sizes, .ref a_sums])), (a_sizes, .inl (cA 0, n_sizes, .inl sizes)), (a_sums, .inl (cA 0, n_sums, .inl sums)), (a_p1, .inr (0, [.ref a_p1_codes, .ref a_p1_counts, .int p1_size, .int p1_total])), (a_p1_codes, .inl (cA 0, n_p1_codes, .inl p1_codes)), (a_p1_counts, .inl (cA 0, n_p1_counts, .inl p1_counts))] H locs → lv_has ls 5 [(0, .ref a_this), (1, .ref a_p1), (2, .int x2)] → f_X3_sumUp_98 fu n_sizes n_sums n_p1_codes n_p1_counts p1_size p1_codes p1_counts (f_X3_sumUp_18 fu n_sizes n_sums n_p1_codes n_p1_counts p1_size p1_codes p1_counts n18) x2 sizes sums = some (sizes', sums') → W p l e rm_X3_sumUp s m [.ref a_this, .ref a_p1].toArray below meth c H locs 0 0 (MQ below (k_Q (none) D [(a_this, .inr (3, [.ref a_sizes, .ref a_sums])), (a_sizes, .inl (cA 0, n_sizes, .inl (sizes'))), (a_sums, .inl (cA 0, n_sums, .inl (sums'))), (a_p1, .inr (0, [.ref a_p1_codes, .ref a_p1_counts, .int p1_size, .int p1_total])), (a_p1_codes, .inl (cA 0, n_p1_codes, .inl p1_codes)), (a_p1_counts, .inl (cA 0, n_p1_counts, .inl p1_counts))] A) [.ref a_this, .ref a_p1].toArray s 0 0 A) (F0 m 98 ls []) := by
        intro x2 sizes sums H locs ls hW hl h
        obtain ⟨x_1, ex_1⟩ : ∃ y : Int32, y = x2 + 1 := ⟨_, rfl⟩
        have h := k_letE ex_1 h
        refine lv_iinc (v := x_1) (lv' := [(2, .int x_1), (0, .ref a_this), (1, .ref a_p1)]) hx hb dX3_sumUp_98 hl (k := 2) rfl (by rw [ex_1]; rfl) (by decide) rfl (fun ls hl => ?_)
        refine lv_goto (tgt := 18) hx hb dX3_sumUp_101 (by decide) ?_
        exact ih18 x_1 sizes sums H locs ls hW (lv_sub hl [1, 2, 0] rfl) h
      intro x2 sizes sums H locs ls hW hl h
      have h := (fs_X3_sumUp_18 _ _ _ _ _ _ _ _ _ _ _ _).symm.trans h
      refine lv_iload_n hx hb dX3_sumUp_18 rfl (lv_at hl 2 rfl) ?_
      refine lv_aload_n hx hb dX3_sumUp_19 rfl (lv_at hl 1 rfl) ?_
      obtain ⟨r_3, h_2, h⟩ := k_bE1 h
      refine k_callV (C := RX0) (ws' := [(a_this, .inr (3, [.ref a_sizes, .ref a_sums])), (a_sizes, .inl (cA 0, n_sizes, .inl sizes)), (a_sums, .inl (cA 0, n_sums, .inl sums)), (a_p1, .inr (0, [.ref a_p1_codes, .ref a_p1_counts, .int p1_size, .int p1_total])), (a_p1_codes, .inl (cA 0, n_p1_codes, .inl p1_codes)), (a_p1_counts, .inl (cA 0, n_p1_counts, .inl p1_counts))]) (As := []) (rest := [.int x2]) (b := a_p1) (m_X0_size l D cA H.size a_p1 a_p1_codes a_p1_counts p1_size p1_total r_3 h_2) hx hb hml hown hts hB hA hW hl.1 q2_65 q1_3 q2_63 q2_64 q2_138 pd_X0_size ⟨rfl, rfl, Nat.le_of_ble_eq_true rfl, Nat.le_of_ble_eq_true rfl⟩ rfl 3 rfl rfl [3] [0, 1, 2, 4, 5] ⟨rfl, trivial⟩ rfl ⟨⟨rfl, trivial⟩, ⟨rfl, rfl, rfl, rfl, rfl, trivial⟩, rfl⟩ rfl rfl (Nat.le_of_ble_eq_true rfl) ⟨Nat.zero_le _, Nat.zero_le _⟩ dX3_sumUp_20 (st1 := [.int r_3, .int x2]) rfl (fun H locs hW => ?_)
      refine lv_icmp_ge (tgt := 104) hx hb dX3_sumUp_23 (by decide) (fun c_5 => ?_) (fun c_5 => ?_)
      · have h := k_t c_5 h
        obtain ⟨z0, z1⟩ := k_inj2 h
        rw [← z0, ← z1]
        exact W.vret hx hb hr (fun t ht hWm => ⟨rfl, by rw [ht]; exact hW.1, hW.2.2.F ht⟩) hW.2.2.2.2 dX3_sumUp_104
      · have h := k_f c_5 h
        refine lv_aload_n hx hb dX3_sumUp_26 rfl (lv_at hl 1 rfl) ?_
        refine lv_iload_n hx hb dX3_sumUp_27 rfl (lv_at hl 2 rfl) ?_
        obtain ⟨r_7, h_6, h⟩ := k_bE1 h
        refine k_callV (C := RX0) (ws' := [(a_this, .inr (3, [.ref a_sizes, .ref a_sums])), (a_sizes, .inl (cA 0, n_sizes, .inl sizes)), (a_sums, .inl (cA 0, n_sums, .inl sums)), (a_p1, .inr (0, [.ref a_p1_codes, .ref a_p1_counts, .int p1_size, .int p1_total])), (a_p1_codes, .inl (cA 0, n_p1_codes, .inl p1_codes)), (a_p1_counts, .inl (cA 0, n_p1_counts, .inl p1_counts))]) (As := [.int x2]) (rest := []) (b := a_p1) (m_X0_codeAt l D cA H.size a_p1 a_p1_codes a_p1_counts n_p1_codes p1_size p1_total p1_codes x2 r_7 h_6) hx hb hml hown hts hB hA hW hl.1 q2_23 q1_3 q2_21 q2_22 q2_139 pd_X0_codeAt ⟨rfl, rfl, Nat.le_of_ble_eq_true rfl, Nat.le_of_ble_eq_true rfl⟩ rfl 3 rfl rfl [3, 4] [0, 1, 2, 5] ⟨rfl, rfl, trivial⟩ rfl ⟨⟨rfl, rfl, trivial⟩, ⟨rfl, rfl, rfl, rfl, trivial⟩, rfl⟩ rfl rfl (Nat.le_of_ble_eq_true rfl) ⟨Nat.zero_le _, Nat.zero_le _⟩ dX3_sumUp_28 (st1 := [.int r_7]) rfl (fun H locs hW => ?_)
        refine lv_istore_n (lv' := [(3, .int r_7), (0, .ref a_this), (1, .ref a_p1), (2, .int x2)]) hx hb dX3_sumUp_31 rfl hl (by decide) rfl (fun ls hl => ?_)
        refine lv_iload_n hx hb dX3_sumUp_32 rfl (lv_at hl 0 rfl) ?_
        obtain ⟨r_10, h_9, h⟩ := k_bE1 h
        refine k_callSN (ws' := [(a_this, .inr (3, [.ref a_sizes, .ref a_sums])), (a_sizes, .inl (cA 0, n_sizes, .inl sizes)), (a_sums, .inl (cA 0, n_sums, .inl sums)), (a_p1, .inr (0, [.ref a_p1_codes, .ref a_p1_counts, .int p1_size, .int p1_total])), (a_p1_codes, .inl (cA 0, n_p1_codes, .inl p1_codes)), (a_p1_counts, .inl (cA 0, n_p1_counts, .inl p1_counts))]) (As := [.int r_7]) (rest := []) (m_X8_joinGroup l D cA H.size r_7 r_10 h_9) hx hb hml hown hts hB hA hW hl.1 q2_142 q1_1 q2_141 (hB.2 _ (ln_in r_q2_140 rfl)) pd_X8_joinGroup ⟨rfl, rfl, Nat.le_of_ble_eq_true rfl, Nat.le_of_ble_eq_true rfl⟩ rfl [] [0, 1, 2, 3, 4, 5] trivial rfl ⟨trivial, ⟨rfl, rfl, rfl, rfl, rfl, rfl, trivial⟩, rfl⟩ rfl rfl (Nat.le_of_ble_eq_true rfl) ⟨Nat.zero_le _, Nat.zero_le _⟩ dX3_sumUp_33 (st1 := [.int r_10]) rfl (fun H locs hW => ?_)
        refine lv_istore (lv' := [(4, .int r_10), (3, .int r_7), (0, .ref a_this), (1, .ref a_p1), (2, .int x2)]) hx hb dX3_sumUp_36 hl (by decide) rfl (fun ls hl => ?_)
        refine lv_iload hx hb dX3_sumUp_38 (lv_at hl 0 rfl) ?_
        refine lv_if_lt (tgt := 98) hx hb dX3_sumUp_40 (by decide) (fun c_12 => ?_) (fun c_12 => ?_)
        · have h := k_t c_12 h
          exact J98 x2 sizes sums H locs ls hW (lv_sub hl [2, 3, 4] rfl) h
        · have h := k_f c_12 h
          refine lv_iload hx hb dX3_sumUp_43 (lv_at hl 0 rfl) ?_
          refine lv_aload_n hx hb dX3_sumUp_45 rfl (lv_at hl 2 rfl) ?_
          refine va_get (D := D) (ci := 3) (v := .ref a_sizes) (C := RX3) (T := TX3) (N := 2) hx hb hts iX3 hown hB.1 hW.1 0 rfl rfl 0 (by decide) (hts _ q1_167) (fun _ h9 => h9) rfl dX3_sumUp_46 ?_
          refine va_alen hx hb hB.1 hW.1 1 0 rfl (v := nI n_sizes) rfl rfl dX3_sumUp_49 ?_
          refine lv_icmp_ge (tgt := 98) hx hb dX3_sumUp_50 (by decide) (fun c_13 => ?_) (fun c_13 => ?_)
          · have h := k_t c_13 h
            exact J98 x2 sizes sums H locs ls hW (lv_sub hl [2, 3, 4] rfl) h
          · have h := k_f c_13 h
            refine lv_iload hx hb dX3_sumUp_53 (lv_at hl 0 rfl) ?_
            refine lv_aload_n hx hb dX3_sumUp_55 rfl (lv_at hl 2 rfl) ?_
            refine va_get (D := D) (ci := 3) (v := .ref a_sums) (C := RX3) (T := TX3) (N := 2) hx hb hts iX3 hown hB.1 hW.1 0 rfl rfl 1 (by decide) (hts _ q1_168) (fun _ h9 => h9) rfl dX3_sumUp_56 ?_
            refine va_alen hx hb hB.1 hW.1 2 0 rfl (v := nI n_sums) rfl rfl dX3_sumUp_59 ?_
            refine lv_icmp_ge (tgt := 98) hx hb dX3_sumUp_60 (by decide) (fun c_14 => ?_) (fun c_14 => ?_)
            · have h := k_t c_14 h
              exact J98 x2 sizes sums H locs ls hW (lv_sub hl [2, 3, 4] rfl) h
            · have h := k_f c_14 h
              refine lv_aload_n hx hb dX3_sumUp_63 rfl (lv_at hl 2 rfl) ?_
              refine va_get (D := D) (ci := 3) (v := .ref a_sizes) (C := RX3) (T := TX3) (N := 2) hx hb hts iX3 hown hB.1 hW.1 0 rfl rfl 0 (by decide) (hts _ q1_167) (fun _ h9 => h9) rfl dX3_sumUp_64 ?_
              refine lv_iload hx hb dX3_sumUp_67 (lv_at hl 0 rfl) ?_
              refine lv_dup2_11 hx hb dX3_sumUp_69 rfl rfl ?_
              obtain ⟨c_15, h⟩ := k_g h
              refine va_iald hx hb hB.1 hW.1 1 0 rfl rfl c_15 dX3_sumUp_70 ?_
              refine lv_topi (fun x_16 ex_16 => ?_)
              have h := k_letE ex_16 h
              refine lv_aload_n hx hb dX3_sumUp_71 rfl (lv_at hl 3 rfl) ?_
              refine lv_iload_n hx hb dX3_sumUp_72 rfl (lv_at hl 4 rfl) ?_
              obtain ⟨r_18, h_17, h⟩ := k_bE1 h
              refine k_callV (C := RX0) (ws' := [(a_this, .inr (3, [.ref a_sizes, .ref a_sums])), (a_sizes, .inl (cA 0, n_sizes, .inl sizes)), (a_sums, .inl (cA 0, n_sums, .inl sums)), (a_p1, .inr (0, [.ref a_p1_codes, .ref a_p1_counts, .int p1_size, .int p1_total])), (a_p1_codes, .inl (cA 0, n_p1_codes, .inl p1_codes)), (a_p1_counts, .inl (cA 0, n_p1_counts, .inl p1_counts))]) (As := [.int x2]) (rest := [.int x_16, .int r_10, .ref a_sizes]) (b := a_p1) (m_X0_countAt l D cA H.size a_p1 a_p1_counts a_p1_codes n_p1_counts p1_size p1_total p1_counts x2 r_18 h_17) hx hb hml hown hts hB hA hW hl.1 q2_28 q1_3 q2_26 q2_27 q2_143 pd_X0_countAt ⟨rfl, rfl, Nat.le_of_ble_eq_true rfl, Nat.le_of_ble_eq_true rfl⟩ rfl 3 rfl rfl [3, 5] [0, 1, 2, 4] ⟨rfl, rfl, trivial⟩ rfl ⟨⟨rfl, rfl, trivial⟩, ⟨rfl, rfl, rfl, rfl, trivial⟩, rfl⟩ rfl rfl (Nat.le_of_ble_eq_true rfl) ⟨Nat.zero_le _, Nat.zero_le _⟩ dX3_sumUp_73 (st1 := [.int r_18, .int x_16, .int r_10, .ref a_sizes]) rfl (fun H locs hW => ?_)
              refine lv_iadd hx hb dX3_sumUp_76 ?_
              obtain ⟨c_20, h⟩ := k_g h
              refine va_iast hx hb hB.1 hW.1 hW.2.1 hW.2.2 1 0 rfl rfl c_20 dX3_sumUp_77 (fun H locs hP hD hS => ?_)
              have hW : k_Wd D A s.heap [(a_this, .inr (3, [.ref a_sizes, .ref a_sums])), (a_sizes, .inl (cA 0, n_sizes, .inl (upd sizes r_10.toNatClampNeg (x_16 + r_18)))), (a_sums, .inl (cA 0, n_sums, .inl sums)), (a_p1, .inr (0, [.ref a_p1_codes, .ref a_p1_counts, .int p1_size, .int p1_total])), (a_p1_codes, .inl (cA 0, n_p1_codes, .inl p1_codes)), (a_p1_counts, .inl (cA 0, n_p1_counts, .inl p1_counts))] H locs := ⟨hP, hD, hS⟩
              refine lv_aload_n hx hb dX3_sumUp_78 rfl (lv_at hl 2 rfl) ?_
              refine va_get (D := D) (ci := 3) (v := .ref a_sums) (C := RX3) (T := TX3) (N := 2) hx hb hts iX3 hown hB.1 hW.1 0 rfl rfl 1 (by decide) (hts _ q1_168) (fun _ h9 => h9) rfl dX3_sumUp_79 ?_
              refine lv_iload hx hb dX3_sumUp_82 (lv_at hl 0 rfl) ?_
              refine lv_dup2_11 hx hb dX3_sumUp_84 rfl rfl ?_
              obtain ⟨c_21, h⟩ := k_g h
              refine va_iald hx hb hB.1 hW.1 2 0 rfl rfl c_21 dX3_sumUp_85 ?_
              refine lv_topi (fun x_22 ex_22 => ?_)
              have h := k_letE ex_22 h
              refine lv_aload_n hx hb dX3_sumUp_86 rfl (lv_at hl 3 rfl) ?_
              refine lv_iload_n hx hb dX3_sumUp_87 rfl (lv_at hl 4 rfl) ?_
              obtain ⟨r_24, h_23, h⟩ := k_bE1 h
              refine k_callV (C := RX0) (ws' := [(a_this, .inr (3, [.ref a_sizes, .ref a_sums])), (a_sizes, .inl (cA 0, n_sizes, .inl (upd sizes r_10.toNatClampNeg (x_16 + r_18)))), (a_sums, .inl (cA 0, n_sums, .inl sums)), (a_p1, .inr (0, [.ref a_p1_codes, .ref a_p1_counts, .int p1_size, .int p1_total])), (a_p1_codes, .inl (cA 0, n_p1_codes, .inl p1_codes)), (a_p1_counts, .inl (cA 0, n_p1_counts, .inl p1_counts))]) (As := [.int x2]) (rest := [.int x_22, .int r_10, .ref a_sums]) (b := a_p1) (m_X0_countAt l D cA H.size a_p1 a_p1_counts a_p1_codes n_p1_counts p1_size p1_total p1_counts x2 r_24 h_23) hx hb hml hown hts hB hA hW hl.1 q2_28 q1_3 q2_26 q2_27 q2_143 pd_X0_countAt ⟨rfl, rfl, Nat.le_of_ble_eq_true rfl, Nat.le_of_ble_eq_true rfl⟩ rfl 3 rfl rfl [3, 5] [0, 1, 2, 4] ⟨rfl, rfl, trivial⟩ rfl ⟨⟨rfl, rfl, trivial⟩, ⟨rfl, rfl, rfl, rfl, trivial⟩, rfl⟩ rfl rfl (Nat.le_of_ble_eq_true rfl) ⟨Nat.zero_le _, Nat.zero_le _⟩ dX3_sumUp_88 (st1 := [.int r_24, .int x_22, .int r_10, .ref a_sums]) rfl (fun H locs hW => ?_)
              refine lv_iload_n hx hb dX3_sumUp_91 rfl (lv_at hl 1 rfl) ?_
              obtain ⟨r_27, h_26, h⟩ := k_bE1 h
              refine k_callSN (ws' := [(a_this, .inr (3, [.ref a_sizes, .ref a_sums])), (a_sizes, .inl (cA 0, n_sizes, .inl (upd sizes r_10.toNatClampNeg (x_16 + r_18)))), (a_sums, .inl (cA 0, n_sums, .inl sums)), (a_p1, .inr (0, [.ref a_p1_codes, .ref a_p1_counts, .int p1_size, .int p1_total])), (a_p1_codes, .inl (cA 0, n_p1_codes, .inl p1_codes)), (a_p1_counts, .inl (cA 0, n_p1_counts, .inl p1_counts))]) (As := [.int r_7]) (rest := [.int r_24, .int x_22, .int r_10, .ref a_sums]) (m_X8_joinProduct l D cA H.size r_7 r_27 h_26) hx hb hml hown hts hB hA hW hl.1 q2_146 q1_1 q2_145 (hB.2 _ (ln_in r_q2_144 rfl)) pd_X8_joinProduct ⟨rfl, rfl, Nat.le_of_ble_eq_true rfl, Nat.le_of_ble_eq_true rfl⟩ rfl [] [0, 1, 2, 3, 4, 5] trivial rfl ⟨trivial, ⟨rfl, rfl, rfl, rfl, rfl, rfl, trivial⟩, rfl⟩ rfl rfl (Nat.le_of_ble_eq_true rfl) ⟨Nat.zero_le _, Nat.zero_le _⟩ dX3_sumUp_92 (st1 := [.int r_27, .int r_24, .int x_22, .int r_10, .ref a_sums]) rfl (fun H locs hW => ?_)
              refine lv_imul hx hb dX3_sumUp_95 ?_
              refine lv_iadd hx hb dX3_sumUp_96 ?_
              obtain ⟨c_29, h⟩ := k_g h
              refine va_iast hx hb hB.1 hW.1 hW.2.1 hW.2.2 2 0 rfl rfl c_29 dX3_sumUp_97 (fun H locs hP hD hS => ?_)
              have hW : k_Wd D A s.heap [(a_this, .inr (3, [.ref a_sizes, .ref a_sums])), (a_sizes, .inl (cA 0, n_sizes, .inl (upd sizes r_10.toNatClampNeg (x_16 + r_18)))), (a_sums, .inl (cA 0, n_sums, .inl (upd sums r_10.toNatClampNeg (x_22 + (r_24 * r_27))))), (a_p1, .inr (0, [.ref a_p1_codes, .ref a_p1_counts, .int p1_size, .int p1_total])), (a_p1_codes, .inl (cA 0, n_p1_codes, .inl p1_codes)), (a_p1_counts, .inl (cA 0, n_p1_counts, .inl p1_counts))] H locs := ⟨hP, hD, hS⟩
              exact J98 x2 (upd sizes r_10.toNatClampNeg (x_16 + r_18)) (upd sums r_10.toNatClampNeg (x_22 + (r_24 * r_27))) H locs ls hW (lv_sub hl [2, 3, 4] rfl) h
  refine lv_aload_n hx hb dX3_sumUp_0 rfl (lv_at hl 0 rfl) ?_
  refine va_get (D := D) (ci := 3) (v := .ref a_sizes) (C := RX3) (T := TX3) (N := 2) hx hb hts iX3 hown hB.1 hW.1 0 rfl rfl 0 (by decide) (hts _ q1_167) (fun _ h9 => h9) rfl dX3_sumUp_1 ?_
  refine lv_iconst (v := 0) hx hb dX3_sumUp_4 (by decide) ?_
  obtain ⟨sizes__31, h_30, h⟩ := k_bE1 h
  refine k_callS (ws' := [(a_this, .inr (3, [.ref a_sizes, .ref a_sums])), (a_sizes, .inl (cA 0, n_sizes, .inl sizes__31)), (a_sums, .inl (cA 0, n_sums, .inl sums)), (a_p1, .inr (0, [.ref a_p1_codes, .ref a_p1_counts, .int p1_size, .int p1_total])), (a_p1_codes, .inl (cA 0, n_p1_codes, .inl p1_codes)), (a_p1_counts, .inl (cA 0, n_p1_counts, .inl p1_counts))]) (As := [.ref a_sizes, .int 0]) (rest := []) (m_J7_fill_53178 l D cA H.size a_sizes fu n_sizes sizes 0 sizes__31 h_30) hx hb hml hown hts hB hA hW hl.1 q2_137 q1_19 q2_136 q2_135 pd_J7_fill_53178 ⟨rfl, rfl, Nat.le_of_ble_eq_true rfl, Nat.le_of_ble_eq_true rfl⟩ rfl [1] [0, 2, 3, 4, 5] ⟨rfl, trivial⟩ rfl ⟨⟨rfl, trivial⟩, ⟨rfl, rfl, rfl, rfl, rfl, trivial⟩, rfl⟩ rfl rfl (Nat.le_of_ble_eq_true rfl) ⟨Nat.zero_le _, Nat.zero_le _⟩ dX3_sumUp_5 (st1 := []) rfl (fun H locs hW => ?_)
  refine lv_aload_n hx hb dX3_sumUp_8 rfl (lv_at hl 0 rfl) ?_
  refine va_get (D := D) (ci := 3) (v := .ref a_sums) (C := RX3) (T := TX3) (N := 2) hx hb hts iX3 hown hB.1 hW.1 0 rfl rfl 1 (by decide) (hts _ q1_168) (fun _ h9 => h9) rfl dX3_sumUp_9 ?_
  refine lv_iconst (v := 0) hx hb dX3_sumUp_12 (by decide) ?_
  obtain ⟨sums__34, h_33, h⟩ := k_bE1 h
  refine k_callS (ws' := [(a_this, .inr (3, [.ref a_sizes, .ref a_sums])), (a_sizes, .inl (cA 0, n_sizes, .inl sizes__31)), (a_sums, .inl (cA 0, n_sums, .inl sums__34)), (a_p1, .inr (0, [.ref a_p1_codes, .ref a_p1_counts, .int p1_size, .int p1_total])), (a_p1_codes, .inl (cA 0, n_p1_codes, .inl p1_codes)), (a_p1_counts, .inl (cA 0, n_p1_counts, .inl p1_counts))]) (As := [.ref a_sums, .int 0]) (rest := []) (m_J7_fill_53178 l D cA H.size a_sums fu n_sums sums 0 sums__34 h_33) hx hb hml hown hts hB hA hW hl.1 q2_137 q1_19 q2_136 q2_135 pd_J7_fill_53178 ⟨rfl, rfl, Nat.le_of_ble_eq_true rfl, Nat.le_of_ble_eq_true rfl⟩ rfl [2] [0, 1, 3, 4, 5] ⟨rfl, trivial⟩ rfl ⟨⟨rfl, trivial⟩, ⟨rfl, rfl, rfl, rfl, rfl, trivial⟩, rfl⟩ rfl rfl (Nat.le_of_ble_eq_true rfl) ⟨Nat.zero_le _, Nat.zero_le _⟩ dX3_sumUp_13 (st1 := []) rfl (fun H locs hW => ?_)
  refine lv_iconst (v := 0) hx hb dX3_sumUp_16 (by decide) ?_
  refine lv_istore_n (lv' := [(2, .int 0), (0, .ref a_this), (1, .ref a_p1)]) hx hb dX3_sumUp_17 rfl hl (by decide) rfl (fun ls hl => ?_)
  exact J18 fu 0 sizes__31 sums__34 H locs ls hW (lv_sub hl [1, 2, 0] rfl) h
