noncomputable def f_X7_size (size : Int32) : Option (Int32) := (some (size))
abbrev rm_X7_size : Room := { frames := 0, cells := 0, slots := 0, locals := 0 }
theorem pd_X7_size : k_D1 yX7_size 0 := by decide +kernel
set_option maxHeartbeats 4000000 in
set_option maxRecDepth 100000 in
theorem m_X7_size (l : Launch) (D : va_G) (cA : Nat → ClassId) (sz : Nat) (a_this : Nat) (w_groups : Nat) (w_bounds : Nat) (size : Int32) (ret_ : Int32) (h : f_X7_size size = some (ret_)) : k_M l yX7_size prog_9_method_2_code 1 (some .int) rm_X7_size D cA [.ref a_this] [(a_this, .inr (7, [.ref w_groups, .ref w_bounds, .int size]))] sz (some (.int ret_)) [(a_this, .inr (7, [.ref w_groups, .ref w_bounds, .int size]))] := by
  refine k_ofW (by decide) (Nat.le_of_ble_eq_true rfl) ?_
  intro p e s m below meth c A ls hx hb hr hml hts hown hlocks hB hA hW hl
  have hl : lv_has ls 1 [(0, .ref a_this)] := hl
  obtain ⟨H, eH⟩ : ∃ H, H = s.heap := ⟨_, rfl⟩
  obtain ⟨locs, eL⟩ : ∃ L : List Loc, L = [] := ⟨_, rfl⟩
  have hW : k_Wd D A s.heap [(a_this, .inr (7, [.ref w_groups, .ref w_bounds, .int size]))] H locs := by rw [eH, eL]; exact hW
  suffices K : W p l e rm_X7_size s m [.ref a_this].toArray below meth c H locs 0 0 (MQ below (k_Q (some (.int ret_)) D [(a_this, .inr (7, [.ref w_groups, .ref w_bounds, .int size]))] A) [.ref a_this].toArray s 0 0 A) (F0 m 0 ls []) by rw [eH, eL] at K; exact K
  clear eH eL
  refine lv_aload_n hx hb dX7_size_0 rfl (lv_at hl 0 rfl) ?_
  refine va_get (D := D) (ci := 7) (v := .int size) (C := RX7) (T := TX7) (N := 3) hx hb hts iX7 hown hB.1 hW.1 0 rfl rfl 2 (by decide) (hts _ q1_145) (fun _ h9 => h9) rfl dX7_size_1 ?_
  have z0 := k_inj1 h
  rw [← z0]
  exact W.iret hx hb hr (fun t ht hWm => ⟨rfl, by rw [ht]; exact hW.1, hW.2.2.F ht⟩) hW.2.2.2.2 dX7_size_4
noncomputable def f_X7_isFilled (n_groups : Nat) (n_bounds : Nat) (size : Int32) (v1 : Int32) : Option (Int32) := (if v1 < 0 then (if vp_nar .boolean (0 : Int32) = (0 : Int32) then some (0) else none) else (if size ≤ v1 then (if vp_nar .boolean (0 : Int32) = (0 : Int32) then some (0) else none) else (if (nI n_groups) ≤ v1 then (if vp_nar .boolean (0 : Int32) = (0 : Int32) then some (0) else none) else (if (nI n_bounds) ≤ v1 then (if vp_nar .boolean (0 : Int32) = (0 : Int32) then some (0) else none) else (if vp_nar .boolean (1 : Int32) = (1 : Int32) then some (1) else none)))))
abbrev rm_X7_isFilled : Room := { frames := 0, cells := 0, slots := 0, locals := 0 }
theorem pd_X7_isFilled : k_D1 yX7_isFilled 1 := by decide +kernel
set_option maxHeartbeats 4000000 in
set_option maxRecDepth 100000 in
theorem m_X7_isFilled (l : Launch) (D : va_G) (cA : Nat → ClassId) (sz : Nat) (a_this a_groups a_bounds : Nat) (n_groups : Nat) (n_bounds : Nat) (size : Int32) (groups : Nat → Int32) (bounds : Nat → Int32) (v1 : Int32) (ret_ : Int32) (h : f_X7_isFilled n_groups n_bounds size v1 = some (ret_)) : k_M l yX7_isFilled prog_9_method_7_code 2 (some .boolean) rm_X7_isFilled D cA [.ref a_this, .int v1] [(a_this, .inr (7, [.ref a_groups, .ref a_bounds, .int size])), (a_groups, .inl (cA 0, n_groups, .inl groups)), (a_bounds, .inl (cA 0, n_bounds, .inl bounds))] sz (some (.int ret_)) [(a_this, .inr (7, [.ref a_groups, .ref a_bounds, .int size])), (a_groups, .inl (cA 0, n_groups, .inl groups)), (a_bounds, .inl (cA 0, n_bounds, .inl bounds))] := by
  refine k_ofW (by decide) (Nat.le_of_ble_eq_true rfl) ?_
  intro p e s m below meth c A ls hx hb hr hml hts hown hlocks hB hA hW hl
  have hl : lv_has ls 2 [(0, .ref a_this), (1, .int v1)] := hl
  obtain ⟨H, eH⟩ : ∃ H, H = s.heap := ⟨_, rfl⟩
  obtain ⟨locs, eL⟩ : ∃ L : List Loc, L = [] := ⟨_, rfl⟩
  have hW : k_Wd D A s.heap [(a_this, .inr (7, [.ref a_groups, .ref a_bounds, .int size])), (a_groups, .inl (cA 0, n_groups, .inl groups)), (a_bounds, .inl (cA 0, n_bounds, .inl bounds))] H locs := by rw [eH, eL]; exact hW
  suffices K : W p l e rm_X7_isFilled s m [.ref a_this, .int v1].toArray below meth c H locs 0 0 (MQ below (k_Q (some (.int ret_)) D [(a_this, .inr (7, [.ref a_groups, .ref a_bounds, .int size])), (a_groups, .inl (cA 0, n_groups, .inl groups)), (a_bounds, .inl (cA 0, n_bounds, .inl bounds))] A) [.ref a_this, .int v1].toArray s 0 0 A) (F0 m 0 ls []) by rw [eH, eL] at K; exact K
  clear eH eL
  refine lv_iload_n hx hb dX7_isFilled_0 rfl (lv_at hl 1 rfl) ?_
  refine lv_if_lt (tgt := 34) hx hb dX7_isFilled_1 (by decide) (fun c_1 => ?_) (fun c_1 => ?_)
  · have h := k_t c_1 h
    refine lv_iconst (v := 0) hx hb dX7_isFilled_34 (by decide) ?_
    obtain ⟨c_2, h⟩ := k_g h
    have z0 := k_inj1 h
    rw [← z0]
    exact W.zret hx hb hr (k_narZ c_2) (fun t ht hWm => ⟨rfl, by rw [ht]; exact hW.1, hW.2.2.F ht⟩) hW.2.2.2.2 dX7_isFilled_35
  · have h := k_f c_1 h
    refine lv_iload_n hx hb dX7_isFilled_4 rfl (lv_at hl 1 rfl) ?_
    refine lv_aload_n hx hb dX7_isFilled_5 rfl (lv_at hl 0 rfl) ?_
    refine va_get (D := D) (ci := 7) (v := .int size) (C := RX7) (T := TX7) (N := 3) hx hb hts iX7 hown hB.1 hW.1 0 rfl rfl 2 (by decide) (hts _ q1_145) (fun _ h9 => h9) rfl dX7_isFilled_6 ?_
    refine lv_icmp_ge (tgt := 34) hx hb dX7_isFilled_9 (by decide) (fun c_3 => ?_) (fun c_3 => ?_)
    · have h := k_t c_3 h
      refine lv_iconst (v := 0) hx hb dX7_isFilled_34 (by decide) ?_
      obtain ⟨c_4, h⟩ := k_g h
      have z0 := k_inj1 h
      rw [← z0]
      exact W.zret hx hb hr (k_narZ c_4) (fun t ht hWm => ⟨rfl, by rw [ht]; exact hW.1, hW.2.2.F ht⟩) hW.2.2.2.2 dX7_isFilled_35
    · have h := k_f c_3 h
      refine lv_iload_n hx hb dX7_isFilled_12 rfl (lv_at hl 1 rfl) ?_
      refine lv_aload_n hx hb dX7_isFilled_13 rfl (lv_at hl 0 rfl) ?_
      refine va_get (D := D) (ci := 7) (v := .ref a_groups) (C := RX7) (T := TX7) (N := 3) hx hb hts iX7 hown hB.1 hW.1 0 rfl rfl 0 (by decide) (hts _ q1_143) (fun _ h9 => h9) rfl dX7_isFilled_14 ?_
      refine va_alen hx hb hB.1 hW.1 1 0 rfl (v := nI n_groups) rfl rfl dX7_isFilled_17 ?_
      refine lv_icmp_ge (tgt := 34) hx hb dX7_isFilled_18 (by decide) (fun c_5 => ?_) (fun c_5 => ?_)
      · have h := k_t c_5 h
        refine lv_iconst (v := 0) hx hb dX7_isFilled_34 (by decide) ?_
        obtain ⟨c_6, h⟩ := k_g h
        have z0 := k_inj1 h
        rw [← z0]
        exact W.zret hx hb hr (k_narZ c_6) (fun t ht hWm => ⟨rfl, by rw [ht]; exact hW.1, hW.2.2.F ht⟩) hW.2.2.2.2 dX7_isFilled_35
      · have h := k_f c_5 h
        refine lv_iload_n hx hb dX7_isFilled_21 rfl (lv_at hl 1 rfl) ?_
        refine lv_aload_n hx hb dX7_isFilled_22 rfl (lv_at hl 0 rfl) ?_
        refine va_get (D := D) (ci := 7) (v := .ref a_bounds) (C := RX7) (T := TX7) (N := 3) hx hb hts iX7 hown hB.1 hW.1 0 rfl rfl 1 (by decide) (hts _ q1_144) (fun _ h9 => h9) rfl dX7_isFilled_23 ?_
        refine va_alen hx hb hB.1 hW.1 2 0 rfl (v := nI n_bounds) rfl rfl dX7_isFilled_26 ?_
        refine lv_icmp_ge (tgt := 34) hx hb dX7_isFilled_27 (by decide) (fun c_7 => ?_) (fun c_7 => ?_)
        · have h := k_t c_7 h
          refine lv_iconst (v := 0) hx hb dX7_isFilled_34 (by decide) ?_
          obtain ⟨c_8, h⟩ := k_g h
          have z0 := k_inj1 h
          rw [← z0]
          exact W.zret hx hb hr (k_narZ c_8) (fun t ht hWm => ⟨rfl, by rw [ht]; exact hW.1, hW.2.2.F ht⟩) hW.2.2.2.2 dX7_isFilled_35
        · have h := k_f c_7 h
          refine lv_iconst (v := 1) hx hb dX7_isFilled_30 (by decide) ?_
          refine lv_goto (tgt := 35) hx hb dX7_isFilled_31 (by decide) ?_
          obtain ⟨c_9, h⟩ := k_g h
          have z0 := k_inj1 h
          rw [← z0]
          exact W.zret hx hb hr (k_narZ c_9) (fun t ht hWm => ⟨rfl, by rw [ht]; exact hW.1, hW.2.2.F ht⟩) hW.2.2.2.2 dX7_isFilled_35
noncomputable def f_X7_isUp (n_groups : Nat) (n_bounds : Nat) (n_p2_sizes : Nat) (n_p2_sums : Nat) (size : Int32) (groups : Nat → Int32) (bounds : Nat → Int32) (p2_sizes : Nat → Int32) (p2_sums : Nat → Int32) (v1 : Int32) : Option (Int32) := (k_b1 (f_X7_isFilled n_groups n_bounds size v1) fun r_2 => (if r_2 = 0 then (if vp_nar .boolean (0 : Int32) = (0 : Int32) then some (0) else none) else (if ¬ (v1 < 0 ∨ n_groups ≤ v1.toNatClampNeg) then k_let (groups v1.toNatClampNeg) fun x_7 => (if ¬ (v1 < 0 ∨ n_bounds ≤ v1.toNatClampNeg) then k_let (bounds v1.toNatClampNeg) fun x_9 => (k_b1 (f_X3_reaches n_p2_sizes n_p2_sums p2_sizes p2_sums x_7 x_9) fun r_11 => (if r_11 = 0 then (if vp_nar .boolean (0 : Int32) = (0 : Int32) then some (0) else none) else (if vp_nar .boolean (1 : Int32) = (1 : Int32) then some (1) else none))) else none) else none)))
abbrev rm_X7_isUp : Room := { frames := 2, cells := 0, slots := 0, locals := 43 }
theorem pd_X7_isUp : k_D1 yX7_isUp 2 := by decide +kernel
set_option maxHeartbeats 4000000 in
set_option maxRecDepth 100000 in
theorem m_X7_isUp (l : Launch) (D : va_G) (cA : Nat → ClassId) (sz : Nat) (a_this a_groups a_bounds a_p2 a_p2_sizes a_p2_sums : Nat) (n_groups : Nat) (n_bounds : Nat) (n_p2_sizes : Nat) (n_p2_sums : Nat) (size : Int32) (groups : Nat → Int32) (bounds : Nat → Int32) (p2_sizes : Nat → Int32) (p2_sums : Nat → Int32) (v1 : Int32) (ret_ : Int32) (h : f_X7_isUp n_groups n_bounds n_p2_sizes n_p2_sums size groups bounds p2_sizes p2_sums v1 = some (ret_)) : k_M l yX7_isUp prog_9_method_3_code 3 (some .boolean) rm_X7_isUp D cA [.ref a_this, .int v1, .ref a_p2] [(a_this, .inr (7, [.ref a_groups, .ref a_bounds, .int size])), (a_groups, .inl (cA 0, n_groups, .inl groups)), (a_bounds, .inl (cA 0, n_bounds, .inl bounds)), (a_p2, .inr (3, [.ref a_p2_sizes, .ref a_p2_sums])), (a_p2_sizes, .inl (cA 0, n_p2_sizes, .inl p2_sizes)), (a_p2_sums, .inl (cA 0, n_p2_sums, .inl p2_sums))] sz (some (.int ret_)) [(a_this, .inr (7, [.ref a_groups, .ref a_bounds, .int size])), (a_groups, .inl (cA 0, n_groups, .inl groups)), (a_bounds, .inl (cA 0, n_bounds, .inl bounds)), (a_p2, .inr (3, [.ref a_p2_sizes, .ref a_p2_sums])), (a_p2_sizes, .inl (cA 0, n_p2_sizes, .inl p2_sizes)), (a_p2_sums, .inl (cA 0, n_p2_sums, .inl p2_sums))] := by
  refine k_ofW (by decide) (Nat.le_of_ble_eq_true rfl) ?_
  intro p e s m below meth c A ls hx hb hr hml hts hown hlocks hB hA hW hl
  have hl : lv_has ls 3 [(0, .ref a_this), (1, .int v1), (2, .ref a_p2)] := hl
  obtain ⟨H, eH⟩ : ∃ H, H = s.heap := ⟨_, rfl⟩
  obtain ⟨locs, eL⟩ : ∃ L : List Loc, L = [] := ⟨_, rfl⟩
  have hW : k_Wd D A s.heap [(a_this, .inr (7, [.ref a_groups, .ref a_bounds, .int size])), (a_groups, .inl (cA 0, n_groups, .inl groups)), (a_bounds, .inl (cA 0, n_bounds, .inl bounds)), (a_p2, .inr (3, [.ref a_p2_sizes, .ref a_p2_sums])), (a_p2_sizes, .inl (cA 0, n_p2_sizes, .inl p2_sizes)), (a_p2_sums, .inl (cA 0, n_p2_sums, .inl p2_sums))] H locs := by rw [eH, eL]; exact hW
  suffices K : W p l e rm_X7_isUp s m [.ref a_this, .int v1, .ref a_p2].toArray below meth c H locs 0 0 (MQ below (k_Q (some (.int ret_)) D [(a_this, .inr (7, [.ref a_groups, .ref a_bounds, .int size])), (a_groups, .inl (cA 0, n_groups, .inl groups)), (a_bounds, .inl (cA 0, n_bounds, .inl bounds)), (a_p2, .inr (3, [.ref a_p2_sizes, .ref a_p2_sums])), (a_p2_sizes, .inl (cA 0, n_p2_sizes, .inl p2_sizes)), (a_p2_sums, .inl (cA 0, n_p2_sums, .inl p2_sums))] A) [.ref a_this, .int v1, .ref a_p2].toArray s 0 0 A) (F0 m 0 ls []) by rw [eH, eL] at K; exact K
  clear eH eL
  refine lv_aload_n hx hb dX7_isUp_0 rfl (lv_at hl 0 rfl) ?_
  refine lv_iload_n hx hb dX7_isUp_1 rfl (lv_at hl 1 rfl) ?_
  obtain ⟨r_2, h_1, h⟩ := k_bE1 h
  refine k_callV (C := RX7) (ws' := [(a_this, .inr (7, [.ref a_groups, .ref a_bounds, .int size])), (a_groups, .inl (cA 0, n_groups, .inl groups)), (a_bounds, .inl (cA 0, n_bounds, .inl bounds)), (a_p2, .inr (3, [.ref a_p2_sizes, .ref a_p2_sums])), (a_p2_sizes, .inl (cA 0, n_p2_sizes, .inl p2_sizes)), (a_p2_sums, .inl (cA 0, n_p2_sums, .inl p2_sums))]) (As := [.int v1]) (rest := []) (b := a_this) (m_X7_isFilled l D cA H.size a_this a_groups a_bounds n_groups n_bounds size groups bounds v1 r_2 h_1) hx hb hml hown hts hB hA hW hl.1 q3_6 q1_7 q3_5 qs_yX7_isFilled q3_3 pd_X7_isFilled ⟨rfl, rfl, Nat.le_of_ble_eq_true rfl, Nat.le_of_ble_eq_true rfl⟩ rfl 0 rfl rfl [0, 1, 2] [3, 4, 5] ⟨rfl, rfl, rfl, trivial⟩ rfl ⟨⟨rfl, rfl, rfl, trivial⟩, ⟨rfl, rfl, rfl, trivial⟩, rfl⟩ rfl rfl (Nat.le_of_ble_eq_true rfl) ⟨Nat.zero_le _, Nat.zero_le _⟩ dX7_isUp_2 (st1 := [.int r_2]) rfl (fun H locs hW => ?_)
  refine lv_if_eq (tgt := 31) hx hb dX7_isUp_5 (by decide) (fun c_4 => ?_) (fun c_4 => ?_)
  · have h := k_t c_4 h
    refine lv_iconst (v := 0) hx hb dX7_isUp_31 (by decide) ?_
    obtain ⟨c_5, h⟩ := k_g h
    have z0 := k_inj1 h
    rw [← z0]
    exact W.zret hx hb hr (k_narZ c_5) (fun t ht hWm => ⟨rfl, by rw [ht]; exact hW.1, hW.2.2.F ht⟩) hW.2.2.2.2 dX7_isUp_32
  · have h := k_f c_4 h
    refine lv_aload_n hx hb dX7_isUp_8 rfl (lv_at hl 2 rfl) ?_
    refine lv_aload_n hx hb dX7_isUp_9 rfl (lv_at hl 0 rfl) ?_
    refine va_get (D := D) (ci := 7) (v := .ref a_groups) (C := RX7) (T := TX7) (N := 3) hx hb hts iX7 hown hB.1 hW.1 0 rfl rfl 0 (by decide) (hts _ q1_143) (fun _ h9 => h9) rfl dX7_isUp_10 ?_
    refine lv_iload_n hx hb dX7_isUp_13 rfl (lv_at hl 1 rfl) ?_
    obtain ⟨c_6, h⟩ := k_g h
    refine va_iald hx hb hB.1 hW.1 1 0 rfl rfl c_6 dX7_isUp_14 ?_
    refine lv_topi (fun x_7 ex_7 => ?_)
    have h := k_letE ex_7 h
    refine lv_aload_n hx hb dX7_isUp_15 rfl (lv_at hl 0 rfl) ?_
    refine va_get (D := D) (ci := 7) (v := .ref a_bounds) (C := RX7) (T := TX7) (N := 3) hx hb hts iX7 hown hB.1 hW.1 0 rfl rfl 1 (by decide) (hts _ q1_144) (fun _ h9 => h9) rfl dX7_isUp_16 ?_
    refine lv_iload_n hx hb dX7_isUp_19 rfl (lv_at hl 1 rfl) ?_
    obtain ⟨c_8, h⟩ := k_g h
    refine va_iald hx hb hB.1 hW.1 2 0 rfl rfl c_8 dX7_isUp_20 ?_
    refine lv_topi (fun x_9 ex_9 => ?_)
    have h := k_letE ex_9 h
    obtain ⟨r_11, h_10, h⟩ := k_bE1 h
    refine k_callV (C := RX3) (ws' := [(a_this, .inr (7, [.ref a_groups, .ref a_bounds, .int size])), (a_groups, .inl (cA 0, n_groups, .inl groups)), (a_bounds, .inl (cA 0, n_bounds, .inl bounds)), (a_p2, .inr (3, [.ref a_p2_sizes, .ref a_p2_sums])), (a_p2_sizes, .inl (cA 0, n_p2_sizes, .inl p2_sizes)), (a_p2_sums, .inl (cA 0, n_p2_sums, .inl p2_sums))]) (As := [.int x_7, .int x_9]) (rest := []) (b := a_p2) (m_X3_reaches l D cA H.size a_p2 a_p2_sizes a_p2_sums n_p2_sizes n_p2_sums p2_sizes p2_sums x_7 x_9 r_11 h_10) hx hb hml hown hts hB hA hW hl.1 q2_214 q1_9 q2_212 q2_213 q3_7 pd_X3_reaches ⟨rfl, rfl, Nat.le_of_ble_eq_true rfl, Nat.le_of_ble_eq_true rfl⟩ rfl 3 rfl rfl [3, 4, 5] [0, 1, 2] ⟨rfl, rfl, rfl, trivial⟩ rfl ⟨⟨rfl, rfl, rfl, trivial⟩, ⟨rfl, rfl, rfl, trivial⟩, rfl⟩ rfl rfl (Nat.le_of_ble_eq_true rfl) ⟨Nat.zero_le _, Nat.zero_le _⟩ dX7_isUp_21 (st1 := [.int r_11]) rfl (fun H locs hW => ?_)
    refine lv_if_eq (tgt := 31) hx hb dX7_isUp_24 (by decide) (fun c_13 => ?_) (fun c_13 => ?_)
    · have h := k_t c_13 h
      refine lv_iconst (v := 0) hx hb dX7_isUp_31 (by decide) ?_
      obtain ⟨c_14, h⟩ := k_g h
      have z0 := k_inj1 h
      rw [← z0]
      exact W.zret hx hb hr (k_narZ c_14) (fun t ht hWm => ⟨rfl, by rw [ht]; exact hW.1, hW.2.2.F ht⟩) hW.2.2.2.2 dX7_isUp_32
    · have h := k_f c_13 h
      refine lv_iconst (v := 1) hx hb dX7_isUp_27 (by decide) ?_
      refine lv_goto (tgt := 32) hx hb dX7_isUp_28 (by decide) ?_
      obtain ⟨c_15, h⟩ := k_g h
      have z0 := k_inj1 h
      rw [← z0]
      exact W.zret hx hb hr (k_narZ c_15) (fun t ht hWm => ⟨rfl, by rw [ht]; exact hW.1, hW.2.2.F ht⟩) hW.2.2.2.2 dX7_isUp_32
noncomputable def f_X7_append (n_groups : Nat) (n_bounds : Nat) (v1 : Int32) (v2 : Int32) (size : Int32) (groups : Nat → Int32) (bounds : Nat → Int32) : Option (Int32 × (Nat → Int32) × (Nat → Int32)) := (if size < 0 then (some (size, groups, bounds)) else (if (nI n_groups) ≤ size then (some (size, groups, bounds)) else (if (nI n_bounds) ≤ size then (some (size, groups, bounds)) else (if ¬ (size < 0 ∨ n_groups ≤ size.toNatClampNeg) then (if ¬ (size < 0 ∨ n_bounds ≤ size.toNatClampNeg) then (some ((size + 1), (upd groups size.toNatClampNeg v1), (upd bounds size.toNatClampNeg v2))) else none) else none))))
abbrev rm_X7_append : Room := { frames := 0, cells := 0, slots := 0, locals := 0 }
theorem pd_X7_append : k_D1 yX7_append 2 := by decide +kernel
set_option maxHeartbeats 4000000 in
set_option maxRecDepth 100000 in
theorem m_X7_append (l : Launch) (D : va_G) (cA : Nat → ClassId) (sz : Nat) (a_this a_groups a_bounds : Nat) (n_groups : Nat) (n_bounds : Nat) (size : Int32) (groups : Nat → Int32) (bounds : Nat → Int32) (v1 : Int32) (v2 : Int32) (size' : Int32) (groups' : Nat → Int32) (bounds' : Nat → Int32) (h : f_X7_append n_groups n_bounds v1 v2 size groups bounds = some (size', groups', bounds')) : k_M l yX7_append prog_9_method_4_code 3 (none : Option Jvm.ClassFile.FieldType) rm_X7_append D cA [.ref a_this, .int v1, .int v2] [(a_this, .inr (7, [.ref a_groups, .ref a_bounds, .int size])), (a_groups, .inl (cA 0, n_groups, .inl groups)), (a_bounds, .inl (cA 0, n_bounds, .inl bounds))] sz (none) [(a_this, .inr (7, [.ref a_groups, .ref a_bounds, .int (size')])), (a_groups, .inl (cA 0, n_groups, .inl (groups'))), (a_bounds, .inl (cA 0, n_bounds, .inl (bounds')))] := by
  refine k_ofW (by decide) (Nat.le_of_ble_eq_true rfl) ?_
  intro p e s m below meth c A ls hx hb hr hml hts hown hlocks hB hA hW hl
  have hl : lv_has ls 3 [(0, .ref a_this), (1, .int v1), (2, .int v2)] := hl
  obtain ⟨H, eH⟩ : ∃ H, H = s.heap := ⟨_, rfl⟩
  obtain ⟨locs, eL⟩ : ∃ L : List Loc, L = [] := ⟨_, rfl⟩
  have hW : k_Wd D A s.heap [(a_this, .inr (7, [.ref a_groups, .ref a_bounds, .int size])), (a_groups, .inl (cA 0, n_groups, .inl groups)), (a_bounds, .inl (cA 0, n_bounds, .inl bounds))] H locs := by rw [eH, eL]; exact hW
  suffices K : W p l e rm_X7_append s m [.ref a_this, .int v1, .int v2].toArray below meth c H locs 0 0 (MQ below (k_Q (none) D [(a_this, .inr (7, [.ref a_groups, .ref a_bounds, .int (size')])), (a_groups, .inl (cA 0, n_groups, .inl (groups'))), (a_bounds, .inl (cA 0, n_bounds, .inl (bounds')))] A) [.ref a_this, .int v1, .int v2].toArray s 0 0 A) (F0 m 0 ls []) by rw [eH, eL] at K; exact K
  clear eH eL
  refine lv_aload_n hx hb dX7_append_0 rfl (lv_at hl 0 rfl) ?_
  refine va_get (D := D) (ci := 7) (v := .int size) (C := RX7) (T := TX7) (N := 3) hx hb hts iX7 hown hB.1 hW.1 0 rfl rfl 2 (by decide) (hts _ q1_145) (fun _ h9 => h9) rfl dX7_append_1 ?_
  refine lv_if_lt (tgt := 61) hx hb dX7_append_4 (by decide) (fun c_1 => ?_) (fun c_1 => ?_)
  · have h := k_t c_1 h
    obtain ⟨z0, z1, z2⟩ := k_inj3 h
    rw [← z0, ← z1, ← z2]
    exact W.vret hx hb hr (fun t ht hWm => ⟨rfl, by rw [ht]; exact hW.1, hW.2.2.F ht⟩) hW.2.2.2.2 dX7_append_61
  · have h := k_f c_1 h
    refine lv_aload_n hx hb dX7_append_7 rfl (lv_at hl 0 rfl) ?_
    refine va_get (D := D) (ci := 7) (v := .int size) (C := RX7) (T := TX7) (N := 3) hx hb hts iX7 hown hB.1 hW.1 0 rfl rfl 2 (by decide) (hts _ q1_145) (fun _ h9 => h9) rfl dX7_append_8 ?_
    refine lv_aload_n hx hb dX7_append_11 rfl (lv_at hl 0 rfl) ?_
    refine va_get (D := D) (ci := 7) (v := .ref a_groups) (C := RX7) (T := TX7) (N := 3) hx hb hts iX7 hown hB.1 hW.1 0 rfl rfl 0 (by decide) (hts _ q1_143) (fun _ h9 => h9) rfl dX7_append_12 ?_
    refine va_alen hx hb hB.1 hW.1 1 0 rfl (v := nI n_groups) rfl rfl dX7_append_15 ?_
    refine lv_icmp_ge (tgt := 61) hx hb dX7_append_16 (by decide) (fun c_2 => ?_) (fun c_2 => ?_)
    · have h := k_t c_2 h
      obtain ⟨z0, z1, z2⟩ := k_inj3 h
      rw [← z0, ← z1, ← z2]
      exact W.vret hx hb hr (fun t ht hWm => ⟨rfl, by rw [ht]; exact hW.1, hW.2.2.F ht⟩) hW.2.2.2.2 dX7_append_61
    · have h := k_f c_2 h
      refine lv_aload_n hx hb dX7_append_19 rfl (lv_at hl 0 rfl) ?_
      refine va_get (D := D) (ci := 7) (v := .int size) (C := RX7) (T := TX7) (N := 3) hx hb hts iX7 hown hB.1 hW.1 0 rfl rfl 2 (by decide) (hts _ q1_145) (fun _ h9 => h9) rfl dX7_append_20 ?_
      refine lv_aload_n hx hb dX7_append_23 rfl (lv_at hl 0 rfl) ?_
      refine va_get (D := D) (ci := 7) (v := .ref a_bounds) (C := RX7) (T := TX7) (N := 3) hx hb hts iX7 hown hB.1 hW.1 0 rfl rfl 1 (by decide) (hts _ q1_144) (fun _ h9 => h9) rfl dX7_append_24 ?_
      refine va_alen hx hb hB.1 hW.1 2 0 rfl (v := nI n_bounds) rfl rfl dX7_append_27 ?_
      refine lv_icmp_ge (tgt := 61) hx hb dX7_append_28 (by decide) (fun c_3 => ?_) (fun c_3 => ?_)
      · have h := k_t c_3 h
        obtain ⟨z0, z1, z2⟩ := k_inj3 h
        rw [← z0, ← z1, ← z2]
        exact W.vret hx hb hr (fun t ht hWm => ⟨rfl, by rw [ht]; exact hW.1, hW.2.2.F ht⟩) hW.2.2.2.2 dX7_append_61
      · have h := k_f c_3 h
        refine lv_aload_n hx hb dX7_append_31 rfl (lv_at hl 0 rfl) ?_
        refine va_get (D := D) (ci := 7) (v := .ref a_groups) (C := RX7) (T := TX7) (N := 3) hx hb hts iX7 hown hB.1 hW.1 0 rfl rfl 0 (by decide) (hts _ q1_143) (fun _ h9 => h9) rfl dX7_append_32 ?_
        refine lv_aload_n hx hb dX7_append_35 rfl (lv_at hl 0 rfl) ?_
        refine va_get (D := D) (ci := 7) (v := .int size) (C := RX7) (T := TX7) (N := 3) hx hb hts iX7 hown hB.1 hW.1 0 rfl rfl 2 (by decide) (hts _ q1_145) (fun _ h9 => h9) rfl dX7_append_36 ?_
        refine lv_iload_n hx hb dX7_append_39 rfl (lv_at hl 1 rfl) ?_
        obtain ⟨c_4, h⟩ := k_g h
        refine va_iast hx hb hB.1 hW.1 hW.2.1 hW.2.2 1 0 rfl rfl c_4 dX7_append_40 (fun H locs hP hD hS => ?_)
        have hW : k_Wd D A s.heap [(a_this, .inr (7, [.ref a_groups, .ref a_bounds, .int size])), (a_groups, .inl (cA 0, n_groups, .inl (upd groups size.toNatClampNeg v1))), (a_bounds, .inl (cA 0, n_bounds, .inl bounds))] H locs := ⟨hP, hD, hS⟩
        refine lv_aload_n hx hb dX7_append_41 rfl (lv_at hl 0 rfl) ?_
        refine va_get (D := D) (ci := 7) (v := .ref a_bounds) (C := RX7) (T := TX7) (N := 3) hx hb hts iX7 hown hB.1 hW.1 0 rfl rfl 1 (by decide) (hts _ q1_144) (fun _ h9 => h9) rfl dX7_append_42 ?_
        refine lv_aload_n hx hb dX7_append_45 rfl (lv_at hl 0 rfl) ?_
        refine va_get (D := D) (ci := 7) (v := .int size) (C := RX7) (T := TX7) (N := 3) hx hb hts iX7 hown hB.1 hW.1 0 rfl rfl 2 (by decide) (hts _ q1_145) (fun _ h9 => h9) rfl dX7_append_46 ?_
        refine lv_iload_n hx hb dX7_append_49 rfl (lv_at hl 2 rfl) ?_
        obtain ⟨c_5, h⟩ := k_g h
        refine va_iast hx hb hB.1 hW.1 hW.2.1 hW.2.2 2 0 rfl rfl c_5 dX7_append_50 (fun H locs hP hD hS => ?_)
        have hW : k_Wd D A s.heap [(a_this, .inr (7, [.ref a_groups, .ref a_bounds, .int size])), (a_groups, .inl (cA 0, n_groups, .inl (upd groups size.toNatClampNeg v1))), (a_bounds, .inl (cA 0, n_bounds, .inl (upd bounds size.toNatClampNeg v2)))] H locs := ⟨hP, hD, hS⟩
        refine lv_aload_n hx hb dX7_append_51 rfl (lv_at hl 0 rfl) ?_
        refine lv_dup hx hb dX7_append_52 rfl ?_
        refine va_get (D := D) (ci := 7) (v := .int size) (C := RX7) (T := TX7) (N := 3) hx hb hts iX7 hown hB.1 hW.1 0 rfl rfl 2 (by decide) (hts _ q1_145) (fun _ h9 => h9) rfl dX7_append_53 ?_
        refine lv_iconst (v := 1) hx hb dX7_append_56 (by decide) ?_
        refine lv_iadd hx hb dX7_append_57 ?_
        refine va_put (D := D) (ci := 7) (v := .int (size + 1)) (ty := .int) (C := RX7) (T := TX7) (N := 3) hx hb hts iX7 tyX7 tyX7_ok nmX7 hown hB.1 hW.1 hW.2.1 hW.2.2 0 rfl rfl 2 (by decide) (hts _ q1_145) (fun _ h9 => h9) rfl (tyX7_ok 2 (by decide)) rfl rfl (Nat.le_of_ble_eq_true rfl) dX7_append_58 (fun H locs hP hD hS => ?_)
        have hW : k_Wd D A s.heap [(a_this, .inr (7, [.ref a_groups, .ref a_bounds, .int (size + 1)])), (a_groups, .inl (cA 0, n_groups, .inl (upd groups size.toNatClampNeg v1))), (a_bounds, .inl (cA 0, n_bounds, .inl (upd bounds size.toNatClampNeg v2)))] H locs := ⟨hP, hD, hS⟩
        obtain ⟨z0, z1, z2⟩ := k_inj3 h
        rw [← z0, ← z1, ← z2]
        exact W.vret hx hb hr (fun t ht hWm => ⟨rfl, by rw [ht]; exact hW.1, hW.2.2.F ht⟩) hW.2.2.2.2 dX7_append_61
noncomputable def f_X7_clear (size : Int32) : Option (Int32) := (some (0))
abbrev rm_X7_clear : Room := { frames := 0, cells := 0, slots := 0, locals := 0 }
theorem pd_X7_clear : k_D1 yX7_clear 0 := by decide +kernel
set_option maxHeartbeats 4000000 in
set_option maxRecDepth 100000 in
theorem m_X7_clear (l : Launch) (D : va_G) (cA : Nat → ClassId) (sz : Nat) (a_this : Nat) (w_groups : Nat) (w_bounds : Nat) (size : Int32) (size' : Int32) (h : f_X7_clear size = some (size')) : k_M l yX7_clear prog_9_method_5_code 1 (none : Option Jvm.ClassFile.FieldType) rm_X7_clear D cA [.ref a_this] [(a_this, .inr (7, [.ref w_groups, .ref w_bounds, .int size]))] sz (none) [(a_this, .inr (7, [.ref w_groups, .ref w_bounds, .int (size')]))] := by
  refine k_ofW (by decide) (Nat.le_of_ble_eq_true rfl) ?_
  intro p e s m below meth c A ls hx hb hr hml hts hown hlocks hB hA hW hl
  have hl : lv_has ls 1 [(0, .ref a_this)] := hl
  obtain ⟨H, eH⟩ : ∃ H, H = s.heap := ⟨_, rfl⟩
  obtain ⟨locs, eL⟩ : ∃ L : List Loc, L = [] := ⟨_, rfl⟩
  have hW : k_Wd D A s.heap [(a_this, .inr (7, [.ref w_groups, .ref w_bounds, .int size]))] H locs := by rw [eH, eL]; exact hW
  suffices K : W p l e rm_X7_clear s m [.ref a_this].toArray below meth c H locs 0 0 (MQ below (k_Q (none) D [(a_this, .inr (7, [.ref w_groups, .ref w_bounds, .int (size')]))] A) [.ref a_this].toArray s 0 0 A) (F0 m 0 ls []) by rw [eH, eL] at K; exact K
  clear eH eL
  refine lv_aload_n hx hb dX7_clear_0 rfl (lv_at hl 0 rfl) ?_
  refine lv_iconst (v := 0) hx hb dX7_clear_1 (by decide) ?_
  refine va_put (D := D) (ci := 7) (v := .int 0) (ty := .int) (C := RX7) (T := TX7) (N := 3) hx hb hts iX7 tyX7 tyX7_ok nmX7 hown hB.1 hW.1 hW.2.1 hW.2.2 0 rfl rfl 2 (by decide) (hts _ q1_145) (fun _ h9 => h9) rfl (tyX7_ok 2 (by decide)) rfl rfl (Nat.le_of_ble_eq_true rfl) dX7_clear_2 (fun H locs hP hD hS => ?_)
  have hW : k_Wd D A s.heap [(a_this, .inr (7, [.ref w_groups, .ref w_bounds, .int 0]))] H locs := ⟨hP, hD, hS⟩
  have z0 := k_inj1 h
  rw [← z0]
  exact W.vret hx hb hr (fun t ht hWm => ⟨rfl, by rw [ht]; exact hW.1, hW.2.2.F ht⟩) hW.2.2.2.2 dX7_clear_5
noncomputable def f_X7_copyFrom_38 (fu : Nat) (n_groups : Nat) (n_bounds : Nat) (n_p1_groups : Nat) (n_p1_bounds : Nat) (p1_size : Int32) (p1_groups : Nat → Int32) (p1_bounds : Nat → Int32) (k6 : Int32 → Int32 → (Nat → Int32) → (Nat → Int32) → Option (Int32 × (Nat → Int32) × (Nat → Int32))) (x2 : Int32) (size : Int32) (groups : Nat → Int32) (bounds : Nat → Int32) : Option (Int32 × (Nat → Int32) × (Nat → Int32)) := (k_let (x2 + 1) fun x_1 => (k6 x_1 size groups bounds))
noncomputable def f_X7_copyFrom_6 (fu : Nat) (n_groups : Nat) (n_bounds : Nat) (n_p1_groups : Nat) (n_p1_bounds : Nat) (p1_size : Int32) (p1_groups : Nat → Int32) (p1_bounds : Nat → Int32) : Nat → Int32 → Int32 → (Nat → Int32) → (Nat → Int32) → Option (Int32 × (Nat → Int32) × (Nat → Int32))
  | 0 => fun _ _ _ _ => none
  | n + 1 => fun x2 size groups bounds => (if p1_size ≤ x2 then (some (size, groups, bounds)) else (k_b1 (f_X7_isFilled n_p1_groups n_p1_bounds p1_size x2) fun r_4 => (if r_4 = 0 then ((f_X7_copyFrom_38 fu n_groups n_bounds n_p1_groups n_p1_bounds p1_size p1_groups p1_bounds (f_X7_copyFrom_6 fu n_groups n_bounds n_p1_groups n_p1_bounds p1_size p1_groups p1_bounds n) x2 size groups bounds)) else (if ¬ (x2 < 0 ∨ n_p1_groups ≤ x2.toNatClampNeg) then k_let (p1_groups x2.toNatClampNeg) fun x_8 => (if ¬ (x2 < 0 ∨ n_p1_bounds ≤ x2.toNatClampNeg) then k_let (p1_bounds x2.toNatClampNeg) fun x_10 => (k_b3 (f_X7_append n_groups n_bounds x_8 x_10 size groups bounds) fun size__12 groups__13 bounds__14 => ((f_X7_copyFrom_38 fu n_groups n_bounds n_p1_groups n_p1_bounds p1_size p1_groups p1_bounds (f_X7_copyFrom_6 fu n_groups n_bounds n_p1_groups n_p1_bounds p1_size p1_groups p1_bounds n) x2 size__12 groups__13 bounds__14))) else none) else none))))
theorem fs_X7_copyFrom_6 (fu : Nat) (n_groups : Nat) (n_bounds : Nat) (n_p1_groups : Nat) (n_p1_bounds : Nat) (p1_size : Int32) (p1_groups : Nat → Int32) (p1_bounds : Nat → Int32) (n : Nat) (x2 : Int32) (size : Int32) (groups : Nat → Int32) (bounds : Nat → Int32) : f_X7_copyFrom_6 fu n_groups n_bounds n_p1_groups n_p1_bounds p1_size p1_groups p1_bounds (n + 1) x2 size groups bounds = (if p1_size ≤ x2 then (some (size, groups, bounds)) else (k_b1 (f_X7_isFilled n_p1_groups n_p1_bounds p1_size x2) fun r_4 => (if r_4 = 0 then ((f_X7_copyFrom_38 fu n_groups n_bounds n_p1_groups n_p1_bounds p1_size p1_groups p1_bounds (f_X7_copyFrom_6 fu n_groups n_bounds n_p1_groups n_p1_bounds p1_size p1_groups p1_bounds n) x2 size groups bounds)) else (if ¬ (x2 < 0 ∨ n_p1_groups ≤ x2.toNatClampNeg) then k_let (p1_groups x2.toNatClampNeg) fun x_8 => (if ¬ (x2 < 0 ∨ n_p1_bounds ≤ x2.toNatClampNeg) then k_let (p1_bounds x2.toNatClampNeg) fun x_10 => (k_b3 (f_X7_append n_groups n_bounds x_8 x_10 size groups bounds) fun size__12 groups__13 bounds__14 => ((f_X7_copyFrom_38 fu n_groups n_bounds n_p1_groups n_p1_bounds p1_size p1_groups p1_bounds (f_X7_copyFrom_6 fu n_groups n_bounds n_p1_groups n_p1_bounds p1_size p1_groups p1_bounds n) x2 size__12 groups__13 bounds__14))) else none) else none)))) := rfl
noncomputable def f_X7_copyFrom (fu : Nat) (n_groups : Nat) (n_bounds : Nat) (n_p1_groups : Nat) (n_p1_bounds : Nat) (p1_size : Int32) (p1_groups : Nat → Int32) (p1_bounds : Nat → Int32) (size : Int32) (groups : Nat → Int32) (bounds : Nat → Int32) : Option (Int32 × (Nat → Int32) × (Nat → Int32)) := (k_b1 (f_X7_clear size) fun size__17 => ((f_X7_copyFrom_6 fu n_groups n_bounds n_p1_groups n_p1_bounds p1_size p1_groups p1_bounds fu 0 size__17 groups bounds)))
abbrev rm_X7_copyFrom : Room := { frames := 1, cells := 0, slots := 0, locals := 22 }
theorem pd_X7_copyFrom : k_D1 yX7_copyFrom 1 := by decide +kernel
set_option maxHeartbeats 4000000 in
set_option maxRecDepth 100000 in
theorem m_X7_copyFrom (l : Launch) (D : va_G) (cA : Nat → ClassId) (sz : Nat) (a_this a_groups a_bounds a_p1 a_p1_groups a_p1_bounds : Nat) (fu : Nat) (n_groups : Nat) (n_bounds : Nat) (n_p1_groups : Nat) (n_p1_bounds : Nat) (size : Int32) (groups : Nat → Int32) (bounds : Nat → Int32) (p1_size : Int32) (p1_groups : Nat → Int32) (p1_bounds : Nat → Int32) (size' : Int32) (groups' : Nat → Int32) (bounds' : Nat → Int32) (h : f_X7_copyFrom fu n_groups n_bounds n_p1_groups n_p1_bounds p1_size p1_groups p1_bounds size groups bounds = some (size', groups', bounds')) : k_M l yX7_copyFrom prog_9_method_6_code 3 (none : Option Jvm.ClassFile.FieldType) rm_X7_copyFrom D cA [.ref a_this, .ref a_p1] [(a_this, .inr (7, [.ref a_groups, .ref a_bounds, .int size])), (a_groups, .inl (cA 0, n_groups, .inl groups)), (a_bounds, .inl (cA 0, n_bounds, .inl bounds)), (a_p1, .inr (7, [.ref a_p1_groups, .ref a_p1_bounds, .int p1_size])), (a_p1_groups, .inl (cA 0, n_p1_groups, .inl p1_groups)), (a_p1_bounds, .inl (cA 0, n_p1_bounds, .inl p1_bounds))] sz (none) [(a_this, .inr (7, [.ref a_groups, .ref a_bounds, .int (size')])), (a_groups, .inl (cA 0, n_groups, .inl (groups'))), (a_bounds, .inl (cA 0, n_bounds, .inl (bounds'))), (a_p1, .inr (7, [.ref a_p1_groups, .ref a_p1_bounds, .int p1_size])), (a_p1_groups, .inl (cA 0, n_p1_groups, .inl p1_groups)), (a_p1_bounds, .inl (cA 0, n_p1_bounds, .inl p1_bounds))] := by
  refine k_ofW (by decide) (Nat.le_of_ble_eq_true rfl) ?_
  intro p e s m below meth c A ls hx hb hr hml hts hown hlocks hB hA hW hl
  have hl : lv_has ls 3 [(0, .ref a_this), (1, .ref a_p1)] := hl
  obtain ⟨H, eH⟩ : ∃ H, H = s.heap := ⟨_, rfl⟩
  obtain ⟨locs, eL⟩ : ∃ L : List Loc, L = [] := ⟨_, rfl⟩
  have hW : k_Wd D A s.heap [(a_this, .inr (7, [.ref a_groups, .ref a_bounds, .int size])), (a_groups, .inl (cA 0, n_groups, .inl groups)), (a_bounds, .inl (cA 0, n_bounds, .inl bounds)), (a_p1, .inr (7, [.ref a_p1_groups, .ref a_p1_bounds, .int p1_size])), (a_p1_groups, .inl (cA 0, n_p1_groups, .inl p1_groups)), (a_p1_bounds, .inl (cA 0, n_p1_bounds, .inl p1_bounds))] H locs := by rw [eH, eL]; exact hW
  suffices K : W p l e rm_X7_copyFrom s m [.ref a_this, .ref a_p1].toArray below meth c H locs 0 0 (MQ below (k_Q (none) D [(a_this, .inr (7, [.ref a_groups, .ref a_bounds, .int (size')])), (a_groups, .inl (cA 0, n_groups, .inl (groups'))), (a_bounds, .inl (cA 0, n_bounds, .inl (bounds'))), (a_p1, .inr (7, [.ref a_p1_groups, .ref a_p1_bounds, .int p1_size])), (a_p1_groups, .inl (cA 0, n_p1_groups, .inl p1_groups)), (a_p1_bounds, .inl (cA 0, n_p1_bounds, .inl p1_bounds))] A) [.ref a_this, .ref a_p1].toArray s 0 0 A) (F0 m 0 ls []) by rw [eH, eL] at K; exact K
  clear eH eL
  have J6 : ∀ (n6 : Nat) (x2 : Int32) (size : Int32) (groups : Nat → Int32) (bounds : Nat → Int32) (H : Heap) (locs : List Loc) (ls : Array Slot), k_Wd D A s.heap [(a_this, .inr (7, [.ref a_groups, .ref a_bounds, .int size])), (a_groups, .inl (cA 0, n_groups, .inl groups)), (a_bounds, .inl (cA 0, n_bounds, .inl bounds)), (a_p1, .inr (7, [.ref a_p1_groups, .ref a_p1_bounds, .int p1_size])), (a_p1_groups, .inl (cA 0, n_p1_groups, .inl p1_groups)), (a_p1_bounds, .inl (cA 0, n_p1_bounds, .inl p1_bounds))] H locs → lv_has ls 3 [(0, .ref a_this), (1, .ref a_p1), (2, .int x2)] → f_X7_copyFrom_6 fu n_groups n_bounds n_p1_groups n_p1_bounds p1_size p1_groups p1_bounds n6 x2 size groups bounds = some (size', groups', bounds') → W p l e rm_X7_copyFrom s m [.ref a_this, .ref a_p1].toArray below meth c H locs 0 0 (MQ below (k_Q (none) D [(a_this, .inr (7, [.ref a_groups, .ref a_bounds, .int (size')])), (a_groups, .inl (cA 0, n_groups, .inl (groups'))), (a_bounds, .inl (cA 0, n_bounds, .inl (bounds'))), (a_p1, .inr (7, [.ref a_p1_groups, .ref a_p1_bounds, .int p1_size])), (a_p1_groups, .inl (cA 0, n_p1_groups, .inl p1_groups)), (a_p1_bounds, .inl (cA 0, n_p1_bounds, .inl p1_bounds))] A) [.ref a_this, .ref a_p1].toArray s 0 0 A) (F0 m 6 ls []) := by
    intro n6
    induction n6 with
    | zero => intro x2 size groups bounds H locs ls hW hl h; exact k_no h
    | succ n6 ih6 =>
      have J38 : ∀ (x2 : Int32) (size : Int32) (groups : Nat → Int32) (bounds : Nat → Int32) (H : Heap) (locs : List Loc) (ls : Array Slot), k_Wd D A s.heap [(a_this, .inr (7, [.ref a_groups, .ref a_bounds, .int size])), (a_groups, .inl (cA 0, n_groups, .inl groups)), (a_bounds, .inl (cA 0, n_bounds, .inl bounds)), (a_p1, .inr (7, [.ref a_p1_groups, .ref a_p1_bounds, .int p1_size])), (a_p1_groups, .inl (cA 0, n_p1_groups, .inl p1_groups)), (a_p1_bounds, .inl (cA 0, n_p1_bounds, .inl p1_bounds))] H locs → lv_has ls 3 [(0, .ref a_this), (1, .ref a_p1), (2, .int x2)] → f_X7_copyFrom_38 fu n_groups n_bounds n_p1_groups n_p1_bounds p1_size p1_groups p1_bounds (f_X7_copyFrom_6 fu n_groups n_bounds n_p1_groups n_p1_bounds p1_size p1_groups p1_bounds n6) x2 size groups bounds = some (size', groups', bounds') → W p l e rm_X7_copyFrom s m [.ref a_this, .ref a_p1].toArray below meth c H locs 0 0 (MQ below (k_Q (none) D [(a_this, .inr (7, [.ref a_groups, .ref a_bounds, .int (size')])), (a_groups, .inl (cA 0, n_groups, .inl (groups'))), (a_bounds, .inl (cA 0, n_bounds, .inl (bounds'))), (a_p1, .inr (7, [.ref a_p1_groups, .ref a_p1_bounds, .int p1_size])), (a_p1_groups, .inl (cA 0, n_p1_groups, .inl p1_groups)), (a_p1_bounds, .inl (cA 0, n_p1_bounds, .inl p1_bounds))] A) [.ref a_this, .ref a_p1].toArray s 0 0 A) (F0 m 38 ls []) := by
        intro x2 size groups bounds H locs ls hW hl h
        obtain ⟨x_1, ex_1⟩ : ∃ y : Int32, y = x2 + 1 := ⟨_, rfl⟩
        have h := k_letE ex_1 h
        refine lv_iinc (v := x_1) (lv' := [(2, .int x_1), (0, .ref a_this), (1, .ref a_p1)]) hx hb dX7_copyFrom_38 hl (k := 2) rfl (by rw [ex_1]; rfl) (by decide) rfl (fun ls hl => ?_)
        refine lv_goto (tgt := 6) hx hb dX7_copyFrom_41 (by decide) ?_
        exact ih6 x_1 size groups bounds H locs ls hW (lv_sub hl [1, 2, 0] rfl) h
      intro x2 size groups bounds H locs ls hW hl h
      have h := (fs_X7_copyFrom_6 _ _ _ _ _ _ _ _ _ _ _ _ _).symm.trans h
      refine lv_iload_n hx hb dX7_copyFrom_6 rfl (lv_at hl 2 rfl) ?_
      refine lv_aload_n hx hb dX7_copyFrom_7 rfl (lv_at hl 1 rfl) ?_
      refine va_get (D := D) (ci := 7) (v := .int p1_size) (C := RX7) (T := TX7) (N := 3) hx hb hts iX7 hown hB.1 hW.1 3 rfl rfl 2 (by decide) (hts _ q1_145) (fun _ h9 => h9) rfl dX7_copyFrom_8 ?_
      refine lv_icmp_ge (tgt := 44) hx hb dX7_copyFrom_11 (by decide) (fun c_2 => ?_) (fun c_2 => ?_)
      · have h := k_t c_2 h
        obtain ⟨z0, z1, z2⟩ := k_inj3 h
        rw [← z0, ← z1, ← z2]
        exact W.vret hx hb hr (fun t ht hWm => ⟨rfl, by rw [ht]; exact hW.1, hW.2.2.F ht⟩) hW.2.2.2.2 dX7_copyFrom_44
      · have h := k_f c_2 h
        refine lv_aload_n hx hb dX7_copyFrom_14 rfl (lv_at hl 1 rfl) ?_
        refine lv_iload_n hx hb dX7_copyFrom_15 rfl (lv_at hl 2 rfl) ?_
        obtain ⟨r_4, h_3, h⟩ := k_bE1 h
        refine k_callV (C := RX7) (ws' := [(a_this, .inr (7, [.ref a_groups, .ref a_bounds, .int size])), (a_groups, .inl (cA 0, n_groups, .inl groups)), (a_bounds, .inl (cA 0, n_bounds, .inl bounds)), (a_p1, .inr (7, [.ref a_p1_groups, .ref a_p1_bounds, .int p1_size])), (a_p1_groups, .inl (cA 0, n_p1_groups, .inl p1_groups)), (a_p1_bounds, .inl (cA 0, n_p1_bounds, .inl p1_bounds))]) (As := [.int x2]) (rest := []) (b := a_p1) (m_X7_isFilled l D cA H.size a_p1 a_p1_groups a_p1_bounds n_p1_groups n_p1_bounds p1_size p1_groups p1_bounds x2 r_4 h_3) hx hb hml hown hts hB hA hW hl.1 q3_6 q1_7 q3_5 qs_yX7_isFilled q3_3 pd_X7_isFilled ⟨rfl, rfl, Nat.le_of_ble_eq_true rfl, Nat.le_of_ble_eq_true rfl⟩ rfl 3 rfl rfl [3, 4, 5] [0, 1, 2] ⟨rfl, rfl, rfl, trivial⟩ rfl ⟨⟨rfl, rfl, rfl, trivial⟩, ⟨rfl, rfl, rfl, trivial⟩, rfl⟩ rfl rfl (Nat.le_of_ble_eq_true rfl) ⟨Nat.zero_le _, Nat.zero_le _⟩ dX7_copyFrom_16 (st1 := [.int r_4]) rfl (fun H locs hW => ?_)
        refine lv_if_eq (tgt := 38) hx hb dX7_copyFrom_19 (by decide) (fun c_6 => ?_) (fun c_6 => ?_)
        · have h := k_t c_6 h
          exact J38 x2 size groups bounds H locs ls hW (lv_sub hl [0, 1, 2] rfl) h
        · have h := k_f c_6 h
          refine lv_aload_n hx hb dX7_copyFrom_22 rfl (lv_at hl 0 rfl) ?_
          refine lv_aload_n hx hb dX7_copyFrom_23 rfl (lv_at hl 1 rfl) ?_
          refine va_get (D := D) (ci := 7) (v := .ref a_p1_groups) (C := RX7) (T := TX7) (N := 3) hx hb hts iX7 hown hB.1 hW.1 3 rfl rfl 0 (by decide) (hts _ q1_143) (fun _ h9 => h9) rfl dX7_copyFrom_24 ?_
          refine lv_iload_n hx hb dX7_copyFrom_27 rfl (lv_at hl 2 rfl) ?_
          obtain ⟨c_7, h⟩ := k_g h
          refine va_iald hx hb hB.1 hW.1 4 0 rfl rfl c_7 dX7_copyFrom_28 ?_
          refine lv_topi (fun x_8 ex_8 => ?_)
          have h := k_letE ex_8 h
          refine lv_aload_n hx hb dX7_copyFrom_29 rfl (lv_at hl 1 rfl) ?_
          refine va_get (D := D) (ci := 7) (v := .ref a_p1_bounds) (C := RX7) (T := TX7) (N := 3) hx hb hts iX7 hown hB.1 hW.1 3 rfl rfl 1 (by decide) (hts _ q1_144) (fun _ h9 => h9) rfl dX7_copyFrom_30 ?_
          refine lv_iload_n hx hb dX7_copyFrom_33 rfl (lv_at hl 2 rfl) ?_
          obtain ⟨c_9, h⟩ := k_g h
          refine va_iald hx hb hB.1 hW.1 5 0 rfl rfl c_9 dX7_copyFrom_34 ?_
          refine lv_topi (fun x_10 ex_10 => ?_)
          have h := k_letE ex_10 h
          obtain ⟨size__12, groups__13, bounds__14, h_11, h⟩ := k_bE3 h
          refine k_callV (C := RX7) (ws' := [(a_this, .inr (7, [.ref a_groups, .ref a_bounds, .int size__12])), (a_groups, .inl (cA 0, n_groups, .inl groups__13)), (a_bounds, .inl (cA 0, n_bounds, .inl bounds__14)), (a_p1, .inr (7, [.ref a_p1_groups, .ref a_p1_bounds, .int p1_size])), (a_p1_groups, .inl (cA 0, n_p1_groups, .inl p1_groups)), (a_p1_bounds, .inl (cA 0, n_p1_bounds, .inl p1_bounds))]) (As := [.int x_8, .int x_10]) (rest := []) (b := a_this) (m_X7_append l D cA H.size a_this a_groups a_bounds n_groups n_bounds size groups bounds x_8 x_10 size__12 groups__13 bounds__14 h_11) hx hb hml hown hts hB hA hW hl.1 q3_61 q1_7 q3_59 q3_60 q3_58 pd_X7_append ⟨rfl, rfl, Nat.le_of_ble_eq_true rfl, Nat.le_of_ble_eq_true rfl⟩ rfl 0 rfl rfl [0, 1, 2] [3, 4, 5] ⟨rfl, rfl, rfl, trivial⟩ rfl ⟨⟨rfl, rfl, rfl, trivial⟩, ⟨rfl, rfl, rfl, trivial⟩, rfl⟩ rfl rfl (Nat.le_of_ble_eq_true rfl) ⟨Nat.zero_le _, Nat.zero_le _⟩ dX7_copyFrom_35 (st1 := []) rfl (fun H locs hW => ?_)
          exact J38 x2 size__12 groups__13 bounds__14 H locs ls hW (lv_sub hl [0, 1, 2] rfl) h
  refine lv_aload_n hx hb dX7_copyFrom_0 rfl (lv_at hl 0 rfl) ?_
  obtain ⟨size__17, h_16, h⟩ := k_bE1 h
  refine k_callV (C := RX7) (ws' := [(a_this, .inr (7, [.ref a_groups, .ref a_bounds, .int size__17])), (a_groups, .inl (cA 0, n_groups, .inl groups)), (a_bounds, .inl (cA 0, n_bounds, .inl bounds)), (a_p1, .inr (7, [.ref a_p1_groups, .ref a_p1_bounds, .int p1_size])), (a_p1_groups, .inl (cA 0, n_p1_groups, .inl p1_groups)), (a_p1_bounds, .inl (cA 0, n_p1_bounds, .inl p1_bounds))]) (As := []) (rest := []) (b := a_this) (m_X7_clear l D cA H.size a_this a_groups a_bounds size size__17 h_16) hx hb hml hown hts hB hA hW hl.1 q3_19 q1_7 q3_17 q3_18 q3_57 pd_X7_clear ⟨rfl, rfl, Nat.le_of_ble_eq_true rfl, Nat.le_of_ble_eq_true rfl⟩ rfl 0 rfl rfl [0] [1, 2, 3, 4, 5] ⟨rfl, trivial⟩ rfl ⟨⟨rfl, trivial⟩, ⟨rfl, rfl, rfl, rfl, rfl, trivial⟩, rfl⟩ rfl rfl (Nat.le_of_ble_eq_true rfl) ⟨Nat.zero_le _, Nat.zero_le _⟩ dX7_copyFrom_1 (st1 := []) rfl (fun H locs hW => ?_)
  refine lv_iconst (v := 0) hx hb dX7_copyFrom_4 (by decide) ?_
  refine lv_istore_n (lv' := [(2, .int 0), (0, .ref a_this), (1, .ref a_p1)]) hx hb dX7_copyFrom_5 rfl hl (by decide) rfl (fun ls hl => ?_)
  exact J6 fu 0 size__17 groups bounds H locs ls hW (lv_sub hl [1, 2, 0] rfl) h
noncomputable def f_X5_copyFrom (fu : Nat) (n_left_codes : Nat) (n_left_counts : Nat) (n_right_codes : Nat) (n_right_counts : Nat) (n_p1_left_codes : Nat) (n_p1_left_counts : Nat) (n_p1_right_codes : Nat) (n_p1_right_counts : Nat) (p1_left_size : Int32) (p1_left_codes : Nat → Int32) (p1_left_counts : Nat → Int32) (p1_right_size : Int32) (p1_right_codes : Nat → Int32) (p1_right_counts : Nat → Int32) (left_size : Int32) (left_total : Int32) (left_codes : Nat → Int32) (left_counts : Nat → Int32) (right_size : Int32) (right_total : Int32) (right_codes : Nat → Int32) (right_counts : Nat → Int32) : Option (Int32 × Int32 × (Nat → Int32) × (Nat → Int32) × Int32 × Int32 × (Nat → Int32) × (Nat → Int32)) := (k_b4 (f_X0_copyFrom fu n_left_codes n_left_counts n_p1_left_codes n_p1_left_counts p1_left_size p1_left_codes p1_left_counts left_size left_total left_codes left_counts) fun left_size__2 left_total__3 left_codes__4 left_counts__5 => (k_b4 (f_X0_copyFrom fu n_right_codes n_right_counts n_p1_right_codes n_p1_right_counts p1_right_size p1_right_codes p1_right_counts right_size right_total right_codes right_counts) fun right_size__8 right_total__9 right_codes__10 right_counts__11 => (some (left_size__2, left_total__3, left_codes__4, left_counts__5, right_size__8, right_total__9, right_codes__10, right_counts__11))))
abbrev rm_X5_copyFrom : Room := { frames := 2, cells := 0, slots := 0, locals := 44 }
theorem pd_X5_copyFrom : k_D1 yX5_copyFrom 1 := by decide +kernel
set_option maxHeartbeats 4000000 in
set_option maxRecDepth 100000 in
theorem m_X5_copyFrom (l : Launch) (D : va_G) (cA : Nat → ClassId) (sz : Nat) (a_this a_left a_left_codes a_left_counts a_right a_right_codes a_right_counts a_p1 a_p1_left a_p1_left_codes a_p1_left_counts a_p1_right a_p1_right_codes a_p1_right_counts : Nat) (fu : Nat) (n_left_codes : Nat) (n_left_counts : Nat) (n_right_codes : Nat) (n_right_counts : Nat) (n_p1_left_codes : Nat) (n_p1_left_counts : Nat) (n_p1_right_codes : Nat) (n_p1_right_counts : Nat) (left_size : Int32) (left_total : Int32) (left_codes : Nat → Int32) (left_counts : Nat → Int32) (right_size : Int32) (right_total : Int32) (right_codes : Nat → Int32) (right_counts : Nat → Int32) (p1_left_size : Int32) (p1_left_total : Int32) (p1_left_codes : Nat → Int32) (p1_left_counts : Nat → Int32) (p1_right_size : Int32) (p1_right_total : Int32) (p1_right_codes : Nat → Int32) (p1_right_counts : Nat → Int32) (left_size' : Int32) (left_total' : Int32) (left_codes' : Nat → Int32) (left_counts' : Nat → Int32) (right_size' : Int32) (right_total' : Int32) (right_codes' : Nat → Int32) (right_counts' : Nat → Int32) (h : f_X5_copyFrom fu n_left_codes n_left_counts n_right_codes n_right_counts n_p1_left_codes n_p1_left_counts n_p1_right_codes n_p1_right_counts p1_left_size p1_left_codes p1_left_counts p1_right_size p1_right_codes p1_right_counts left_size left_total left_codes left_counts right_size right_total right_codes right_counts = some (left_size', left_total', left_codes', left_counts', right_size', right_total', right_codes', right_counts')) : k_M l yX5_copyFrom prog_7_method_2_code 2 (none : Option Jvm.ClassFile.FieldType) rm_X5_copyFrom D cA [.ref a_this, .ref a_p1] [(a_this, .inr (5, [.ref a_left, .ref a_right])), (a_left, .inr (0, [.ref a_left_codes, .ref a_left_counts, .int left_size, .int left_total])), (a_left_codes, .inl (cA 0, n_left_codes, .inl left_codes)), (a_left_counts, .inl (cA 0, n_left_counts, .inl left_counts)), (a_right, .inr (0, [.ref a_right_codes, .ref a_right_counts, .int right_size, .int right_total])), (a_right_codes, .inl (cA 0, n_right_codes, .inl right_codes)), (a_right_counts, .inl (cA 0, n_right_counts, .inl right_counts)), (a_p1, .inr (5, [.ref a_p1_left, .ref a_p1_right])), (a_p1_left, .inr (0, [.ref a_p1_left_codes, .ref a_p1_left_counts, .int p1_left_size, .int p1_left_total])), (a_p1_left_codes, .inl (cA 0, n_p1_left_codes, .inl p1_left_codes)), (a_p1_left_counts, .inl (cA 0, n_p1_left_counts, .inl p1_left_counts)), (a_p1_right, .inr (0, [.ref a_p1_right_codes, .ref a_p1_right_counts, .int p1_right_size, .int p1_right_total])), (a_p1_right_codes, .inl (cA 0, n_p1_right_codes, .inl p1_right_codes)), (a_p1_right_counts, .inl (cA 0, n_p1_right_counts, .inl p1_right_counts))] sz (none) [(a_this, .inr (5, [.ref a_left, .ref a_right])), (a_left, .inr (0, [.ref a_left_codes, .ref a_left_counts, .int (left_size'), .int (left_total')])), (a_left_codes, .inl (cA 0, n_left_codes, .inl (left_codes'))), (a_left_counts, .inl (cA 0, n_left_counts, .inl (left_counts'))), (a_right, .inr (0, [.ref a_right_codes, .ref a_right_counts, .int (right_size'), .int (right_total')])), (a_right_codes, .inl (cA 0, n_right_codes, .inl (right_codes'))), (a_right_counts, .inl (cA 0, n_right_counts, .inl (right_counts'))), (a_p1, .inr (5, [.ref a_p1_left, .ref a_p1_right])), (a_p1_left, .inr (0, [.ref a_p1_left_codes, .ref a_p1_left_counts, .int p1_left_size, .int p1_left_total])), (a_p1_left_codes, .inl (cA 0, n_p1_left_codes, .inl p1_left_codes)), (a_p1_left_counts, .inl (cA 0, n_p1_left_counts, .inl p1_left_counts)), (a_p1_right, .inr (0, [.ref a_p1_right_codes, .ref a_p1_right_counts, .int p1_right_size, .int p1_right_total])), (a_p1_right_codes, .inl (cA 0, n_p1_right_codes, .inl p1_right_codes)), (a_p1_right_counts, .inl (cA 0, n_p1_right_counts, .inl p1_right_counts))] := by
  refine k_ofW (by decide) (Nat.le_of_ble_eq_true rfl) ?_
  intro p e s m below meth c A ls hx hb hr hml hts hown hlocks hB hA hW hl
  have hl : lv_has ls 2 [(0, .ref a_this), (1, .ref a_p1)] := hl
  obtain ⟨H, eH⟩ : ∃ H, H = s.heap := ⟨_, rfl⟩
  obtain ⟨locs, eL⟩ : ∃ L : List Loc, L = [] := ⟨_, rfl⟩
  have hW : k_Wd D A s.heap [(a_this, .inr (5, [.ref a_left, .ref a_right])), (a_left, .inr (0, [.ref a_left_codes, .ref a_left_counts, .int left_size, .int left_total])), (a_left_codes, .inl (cA 0, n_left_codes, .inl left_codes)), (a_left_counts, .inl (cA 0, n_left_counts, .inl left_counts)), (a_right, .inr (0, [.ref a_right_codes, .ref a_right_counts, .int right_size, .int right_total])), (a_right_codes, .inl (cA 0, n_right_codes, .inl right_codes)), (a_right_counts, .inl (cA 0, n_right_counts, .inl right_counts)), (a_p1, .inr (5, [.ref a_p1_left, .ref a_p1_right])), (a_p1_left, .inr (0, [.ref a_p1_left_codes, .ref a_p1_left_counts, .int p1_left_size, .int p1_left_total])), (a_p1_left_codes, .inl (cA 0, n_p1_left_codes, .inl p1_left_codes)), (a_p1_left_counts, .inl (cA 0, n_p1_left_counts, .inl p1_left_counts)), (a_p1_right, .inr (0, [.ref a_p1_right_codes, .ref a_p1_right_counts, .int p1_right_size, .int p1_right_total])), (a_p1_right_codes, .inl (cA 0, n_p1_right_codes, .inl p1_right_codes)), (a_p1_right_counts, .inl (cA 0, n_p1_right_counts, .inl p1_right_counts))] H locs := by rw [eH, eL]; exact hW
  suffices K : W p l e rm_X5_copyFrom s m [.ref a_this, .ref a_p1].toArray below meth c H locs 0 0 (MQ below (k_Q (none) D [(a_this, .inr (5, [.ref a_left, .ref a_right])), (a_left, .inr (0, [.ref a_left_codes, .ref a_left_counts, .int (left_size'), .int (left_total')])), (a_left_codes, .inl (cA 0, n_left_codes, .inl (left_codes'))), (a_left_counts, .inl (cA 0, n_left_counts, .inl (left_counts'))), (a_right, .inr (0, [.ref a_right_codes, .ref a_right_counts, .int (right_size'), .int (right_total')])), (a_right_codes, .inl (cA 0, n_right_codes, .inl (right_codes'))), (a_right_counts, .inl (cA 0, n_right_counts, .inl (right_counts'))), (a_p1, .inr (5, [.ref a_p1_left, .ref a_p1_right])), (a_p1_left, .inr (0, [.ref a_p1_left_codes, .ref a_p1_left_counts, .int p1_left_size, .int p1_left_total])), (a_p1_left_codes, .inl (cA 0, n_p1_left_codes, .inl p1_left_codes)), (a_p1_left_counts, .inl (cA 0, n_p1_left_counts, .inl p1_left_counts)), (a_p1_right, .inr (0, [.ref a_p1_right_codes, .ref a_p1_right_counts, .int p1_right_size, .int p1_right_total])), (a_p1_right_codes, .inl (cA 0, n_p1_right_codes, .inl p1_right_codes)), (a_p1_right_counts, .inl (cA 0, n_p1_right_counts, .inl p1_right_counts))] A) [.ref a_this, .ref a_p1].toArray s 0 0 A) (F0 m 0 ls []) by rw [eH, eL] at K; exact K
  clear eH eL
  refine lv_aload_n hx hb dX5_copyFrom_0 rfl (lv_at hl 0 rfl) ?_
  refine va_get (D := D) (ci := 5) (v := .ref a_left) (C := RX5) (T := TX5) (N := 2) hx hb hts iX5 hown hB.1 hW.1 0 rfl rfl 0 (by decide) (hts _ q1_60) (fun _ h9 => h9) rfl dX5_copyFrom_1 ?_
  refine lv_aload_n hx hb dX5_copyFrom_4 rfl (lv_at hl 1 rfl) ?_
  refine va_get (D := D) (ci := 5) (v := .ref a_p1_left) (C := RX5) (T := TX5) (N := 2) hx hb hts iX5 hown hB.1 hW.1 7 rfl rfl 0 (by decide) (hts _ q1_60) (fun _ h9 => h9) rfl dX5_copyFrom_5 ?_
  obtain ⟨left_size__2, left_total__3, left_codes__4, left_counts__5, h_1, h⟩ := k_bE4 h
  refine k_callV (C := RX0) (ws' := [(a_this, .inr (5, [.ref a_left, .ref a_right])), (a_left, .inr (0, [.ref a_left_codes, .ref a_left_counts, .int left_size__2, .int left_total__3])), (a_left_codes, .inl (cA 0, n_left_codes, .inl left_codes__4)), (a_left_counts, .inl (cA 0, n_left_counts, .inl left_counts__5)), (a_right, .inr (0, [.ref a_right_codes, .ref a_right_counts, .int right_size, .int right_total])), (a_right_codes, .inl (cA 0, n_right_codes, .inl right_codes)), (a_right_counts, .inl (cA 0, n_right_counts, .inl right_counts)), (a_p1, .inr (5, [.ref a_p1_left, .ref a_p1_right])), (a_p1_left, .inr (0, [.ref a_p1_left_codes, .ref a_p1_left_counts, .int p1_left_size, .int p1_left_total])), (a_p1_left_codes, .inl (cA 0, n_p1_left_codes, .inl p1_left_codes)), (a_p1_left_counts, .inl (cA 0, n_p1_left_counts, .inl p1_left_counts)), (a_p1_right, .inr (0, [.ref a_p1_right_codes, .ref a_p1_right_counts, .int p1_right_size, .int p1_right_total])), (a_p1_right_codes, .inl (cA 0, n_p1_right_codes, .inl p1_right_codes)), (a_p1_right_counts, .inl (cA 0, n_p1_right_counts, .inl p1_right_counts))]) (As := [.ref a_p1_left]) (rest := []) (b := a_left) (m_X0_copyFrom l D cA H.size a_left a_left_codes a_left_counts a_p1_left a_p1_left_codes a_p1_left_counts fu n_left_codes n_left_counts n_p1_left_codes n_p1_left_counts left_size left_total left_codes left_counts p1_left_size p1_left_total p1_left_codes p1_left_counts left_size__2 left_total__3 left_codes__4 left_counts__5 h_1) hx hb hml hown hts hB hA hW hl.1 q2_15 q1_3 q2_13 q2_14 q2_12 pd_X0_copyFrom ⟨rfl, rfl, Nat.le_of_ble_eq_true rfl, Nat.le_of_ble_eq_true rfl⟩ rfl 1 rfl rfl [1, 2, 3, 8, 9, 10] [0, 4, 5, 6, 7, 11, 12, 13] ⟨rfl, rfl, rfl, rfl, rfl, rfl, trivial⟩ rfl ⟨⟨rfl, rfl, rfl, rfl, rfl, rfl, trivial⟩, ⟨rfl, rfl, rfl, rfl, rfl, rfl, rfl, rfl, trivial⟩, rfl⟩ rfl rfl (Nat.le_of_ble_eq_true rfl) ⟨Nat.zero_le _, Nat.zero_le _⟩ dX5_copyFrom_8 (st1 := []) rfl (fun H locs hW => ?_)
  refine lv_aload_n hx hb dX5_copyFrom_11 rfl (lv_at hl 0 rfl) ?_
  refine va_get (D := D) (ci := 5) (v := .ref a_right) (C := RX5) (T := TX5) (N := 2) hx hb hts iX5 hown hB.1 hW.1 0 rfl rfl 1 (by decide) (hts _ q1_63) (fun _ h9 => h9) rfl dX5_copyFrom_12 ?_
  refine lv_aload_n hx hb dX5_copyFrom_15 rfl (lv_at hl 1 rfl) ?_
  refine va_get (D := D) (ci := 5) (v := .ref a_p1_right) (C := RX5) (T := TX5) (N := 2) hx hb hts iX5 hown hB.1 hW.1 7 rfl rfl 1 (by decide) (hts _ q1_63) (fun _ h9 => h9) rfl dX5_copyFrom_16 ?_
  obtain ⟨right_size__8, right_total__9, right_codes__10, right_counts__11, h_7, h⟩ := k_bE4 h
  refine k_callV (C := RX0) (ws' := [(a_this, .inr (5, [.ref a_left, .ref a_right])), (a_left, .inr (0, [.ref a_left_codes, .ref a_left_counts, .int left_size__2, .int left_total__3])), (a_left_codes, .inl (cA 0, n_left_codes, .inl left_codes__4)), (a_left_counts, .inl (cA 0, n_left_counts, .inl left_counts__5)), (a_right, .inr (0, [.ref a_right_codes, .ref a_right_counts, .int right_size__8, .int right_total__9])), (a_right_codes, .inl (cA 0, n_right_codes, .inl right_codes__10)), (a_right_counts, .inl (cA 0, n_right_counts, .inl right_counts__11)), (a_p1, .inr (5, [.ref a_p1_left, .ref a_p1_right])), (a_p1_left, .inr (0, [.ref a_p1_left_codes, .ref a_p1_left_counts, .int p1_left_size, .int p1_left_total])), (a_p1_left_codes, .inl (cA 0, n_p1_left_codes, .inl p1_left_codes)), (a_p1_left_counts, .inl (cA 0, n_p1_left_counts, .inl p1_left_counts)), (a_p1_right, .inr (0, [.ref a_p1_right_codes, .ref a_p1_right_counts, .int p1_right_size, .int p1_right_total])), (a_p1_right_codes, .inl (cA 0, n_p1_right_codes, .inl p1_right_codes)), (a_p1_right_counts, .inl (cA 0, n_p1_right_counts, .inl p1_right_counts))]) (As := [.ref a_p1_right]) (rest := []) (b := a_right) (m_X0_copyFrom l D cA H.size a_right a_right_codes a_right_counts a_p1_right a_p1_right_codes a_p1_right_counts fu n_right_codes n_right_counts n_p1_right_codes n_p1_right_counts right_size right_total right_codes right_counts p1_right_size p1_right_total p1_right_codes p1_right_counts right_size__8 right_total__9 right_codes__10 right_counts__11 h_7) hx hb hml hown hts hB hA hW hl.1 q2_15 q1_3 q2_13 q2_14 q2_12 pd_X0_copyFrom ⟨rfl, rfl, Nat.le_of_ble_eq_true rfl, Nat.le_of_ble_eq_true rfl⟩ rfl 4 rfl rfl [4, 5, 6, 11, 12, 13] [0, 1, 2, 3, 7, 8, 9, 10] ⟨rfl, rfl, rfl, rfl, rfl, rfl, trivial⟩ rfl ⟨⟨rfl, rfl, rfl, rfl, rfl, rfl, trivial⟩, ⟨rfl, rfl, rfl, rfl, rfl, rfl, rfl, rfl, trivial⟩, rfl⟩ rfl rfl (Nat.le_of_ble_eq_true rfl) ⟨Nat.zero_le _, Nat.zero_le _⟩ dX5_copyFrom_19 (st1 := []) rfl (fun H locs hW => ?_)
  obtain ⟨z0, z1, z2, z3, z4, z5, z6, z7⟩ := k_inj8 h
  rw [← z0, ← z1, ← z2, ← z3, ← z4, ← z5, ← z6, ← z7]
  exact W.vret hx hb hr (fun t ht hWm => ⟨rfl, by rw [ht]; exact hW.1, hW.2.2.F ht⟩) hW.2.2.2.2 dX5_copyFrom_22
