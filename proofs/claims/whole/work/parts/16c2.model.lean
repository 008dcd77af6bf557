noncomputable def f_X9_compares_71 (v1 : Int32) (v2 : Int32) (v3 : Int32) (v4 : Int32) (v5 : Int32) (x5 : Int32) (x6 : Int32) (s0 : Int32) : Option (Int32) := (if x6 = 0 then (if x5 ≤ s0 then (if vp_nar .boolean (0 : Int32) = (0 : Int32) then some (0) else none) else (if vp_nar .boolean (1 : Int32) = (1 : Int32) then some (1) else none)) else (if x6 = 1 then (if s0 = x5 then (if vp_nar .boolean (1 : Int32) = (1 : Int32) then some (1) else none) else (if vp_nar .boolean (0 : Int32) = (0 : Int32) then some (0) else none)) else (if s0 ≤ x5 then (if vp_nar .boolean (0 : Int32) = (0 : Int32) then some (0) else none) else (if vp_nar .boolean (1 : Int32) = (1 : Int32) then some (1) else none))))
noncomputable def f_X9_compares (v1 : Int32) (v2 : Int32) (v3 : Int32) (v4 : Int32) (v5 : Int32) : Option (Int32) := (k_let (v1 - v1 / 2000 * 2000) fun x_12 => k_let (x_12 - 999) fun x_13 => k_let ((v1 / 2000) - (v1 / 2000) / 3 * 3) fun x_14 => k_let (v1 / 6000) fun x_15 => if x_15 = 0 then ((f_X9_compares_71 v1 v2 v3 v4 v5 x_13 x_14 v2)) else (if x_15 = 1 then ((f_X9_compares_71 v1 v2 v3 v4 v5 x_13 x_14 v3)) else (if x_15 = 2 then ((f_X9_compares_71 v1 v2 v3 v4 v5 x_13 x_14 v4)) else (if x_15 = 3 then ((f_X9_compares_71 v1 v2 v3 v4 v5 x_13 x_14 v5)) else ((f_X9_compares_71 v1 v2 v3 v4 v5 x_13 x_14 (v4 * v5)))))))
abbrev rm_X9_compares : Room := { frames := 0, cells := 0, slots := 0, locals := 0 }
theorem pd_X9_compares : k_D1 yX9_compares 5 := by decide +kernel
set_option maxHeartbeats 4000000 in
set_option maxRecDepth 100000 in
theorem m_X9_compares (l : Launch) (D : va_G) (cA : Nat → ClassId) (sz : Nat) (v1 : Int32) (v2 : Int32) (v3 : Int32) (v4 : Int32) (v5 : Int32) (ret_ : Int32) (h : f_X9_compares v1 v2 v3 v4 v5 = some (ret_)) : k_M l yX9_compares prog_11_method_30_code 9 (some .boolean) rm_X9_compares D cA [.int v1, .int v2, .int v3, .int v4, .int v5] [] sz (some (.int ret_)) [] := by
  refine k_ofW (by decide) (Nat.le_of_ble_eq_true rfl) ?_
  intro p e s m below meth c A ls hx hb hr hml hts hown hlocks hB hA hW hl
  have hl : lv_has ls 9 [(0, .int v1), (1, .int v2), (2, .int v3), (3, .int v4), (4, .int v5)] := hl
  obtain ⟨H, eH⟩ : ∃ H, H = s.heap := ⟨_, rfl⟩
  obtain ⟨locs, eL⟩ : ∃ L : List Loc, L = [] := ⟨_, rfl⟩
  have hW : k_Wd D A s.heap [] H locs := by rw [eH, eL]; exact hW
  suffices K : W p l e rm_X9_compares s m [.int v1, .int v2, .int v3, .int v4, .int v5].toArray below meth c H locs 0 0 (MQ below (k_Q (some (.int ret_)) D [] A) [.int v1, .int v2, .int v3, .int v4, .int v5].toArray s 0 0 A) (F0 m 0 ls []) by rw [eH, eL] at K; exact K
  clear eH eL
  have J71 : ∀ (x5 : Int32) (x6 : Int32) (s0 : Int32) (H : Heap) (locs : List Loc) (ls : Array Slot), k_Wd D A s.heap [] H locs → lv_has ls 9 [(5, .int x5), (6, .int x6)] → f_X9_compares_71 v1 v2 v3 v4 v5 x5 x6 s0 = some (ret_) → W p l e rm_X9_compares s m [.int v1, .int v2, .int v3, .int v4, .int v5].toArray below meth c H locs 0 0 (MQ below (k_Q (some (.int ret_)) D [] A) [.int v1, .int v2, .int v3, .int v4, .int v5].toArray s 0 0 A) (F0 m 71 ls [.int s0]) := by
    intro x5 x6 s0 H locs ls hW hl h
    refine lv_istore (lv' := [(8, .int s0), (5, .int x5), (6, .int x6)]) hx hb dX9_compares_71 hl (by decide) rfl (fun ls hl => ?_)
    refine lv_iload hx hb dX9_compares_73 (lv_at hl 2 rfl) ?_
    refine lv_if_ne (tgt := 93) hx hb dX9_compares_75 (by decide) (fun c_1 => ?_) (fun c_1 => ?_)
    · have h := k_f c_1 h
      refine lv_iload hx hb dX9_compares_93 (lv_at hl 2 rfl) ?_
      refine lv_iconst (v := 1) hx hb dX9_compares_95 (by decide) ?_
      refine lv_icmp_ne (tgt := 114) hx hb dX9_compares_96 (by decide) (fun c_2 => ?_) (fun c_2 => ?_)
      · have h := k_f c_2 h
        refine lv_iload hx hb dX9_compares_114 (lv_at hl 0 rfl) ?_
        refine lv_iload hx hb dX9_compares_116 (lv_at hl 1 rfl) ?_
        refine lv_icmp_le (tgt := 125) hx hb dX9_compares_118 (by decide) (fun c_3 => ?_) (fun c_3 => ?_)
        · have h := k_t c_3 h
          refine lv_iconst (v := 0) hx hb dX9_compares_125 (by decide) ?_
          obtain ⟨c_4, h⟩ := k_g h
          have z0 := k_inj1 h
          rw [← z0]
          exact W.zret hx hb hr (k_narZ c_4) (fun t ht hWm => ⟨rfl, by rw [ht]; exact hW.1, hW.2.2.F ht⟩) hW.2.2.2.2 dX9_compares_126
        · have h := k_f c_3 h
          refine lv_iconst (v := 1) hx hb dX9_compares_121 (by decide) ?_
          refine lv_goto (tgt := 126) hx hb dX9_compares_122 (by decide) ?_
          obtain ⟨c_5, h⟩ := k_g h
          have z0 := k_inj1 h
          rw [← z0]
          exact W.zret hx hb hr (k_narZ c_5) (fun t ht hWm => ⟨rfl, by rw [ht]; exact hW.1, hW.2.2.F ht⟩) hW.2.2.2.2 dX9_compares_126
      · have h := k_t c_2 h
        refine lv_iload hx hb dX9_compares_99 (lv_at hl 0 rfl) ?_
        refine lv_iload hx hb dX9_compares_101 (lv_at hl 1 rfl) ?_
        refine lv_icmp_ne (tgt := 110) hx hb dX9_compares_103 (by decide) (fun c_6 => ?_) (fun c_6 => ?_)
        · have h := k_f c_6 h
          refine lv_iconst (v := 0) hx hb dX9_compares_110 (by decide) ?_
          refine lv_goto (tgt := 126) hx hb dX9_compares_111 (by decide) ?_
          obtain ⟨c_7, h⟩ := k_g h
          have z0 := k_inj1 h
          rw [← z0]
          exact W.zret hx hb hr (k_narZ c_7) (fun t ht hWm => ⟨rfl, by rw [ht]; exact hW.1, hW.2.2.F ht⟩) hW.2.2.2.2 dX9_compares_126
        · have h := k_t c_6 h
          refine lv_iconst (v := 1) hx hb dX9_compares_106 (by decide) ?_
          refine lv_goto (tgt := 126) hx hb dX9_compares_107 (by decide) ?_
          obtain ⟨c_8, h⟩ := k_g h
          have z0 := k_inj1 h
          rw [← z0]
          exact W.zret hx hb hr (k_narZ c_8) (fun t ht hWm => ⟨rfl, by rw [ht]; exact hW.1, hW.2.2.F ht⟩) hW.2.2.2.2 dX9_compares_126
    · have h := k_t c_1 h
      refine lv_iload hx hb dX9_compares_78 (lv_at hl 0 rfl) ?_
      refine lv_iload hx hb dX9_compares_80 (lv_at hl 1 rfl) ?_
      refine lv_icmp_ge (tgt := 89) hx hb dX9_compares_82 (by decide) (fun c_9 => ?_) (fun c_9 => ?_)
      · have h := k_t c_9 h
        refine lv_iconst (v := 0) hx hb dX9_compares_89 (by decide) ?_
        refine lv_goto (tgt := 126) hx hb dX9_compares_90 (by decide) ?_
        obtain ⟨c_10, h⟩ := k_g h
        have z0 := k_inj1 h
        rw [← z0]
        exact W.zret hx hb hr (k_narZ c_10) (fun t ht hWm => ⟨rfl, by rw [ht]; exact hW.1, hW.2.2.F ht⟩) hW.2.2.2.2 dX9_compares_126
      · have h := k_f c_9 h
        refine lv_iconst (v := 1) hx hb dX9_compares_85 (by decide) ?_
        refine lv_goto (tgt := 126) hx hb dX9_compares_86 (by decide) ?_
        obtain ⟨c_11, h⟩ := k_g h
        have z0 := k_inj1 h
        rw [← z0]
        exact W.zret hx hb hr (k_narZ c_11) (fun t ht hWm => ⟨rfl, by rw [ht]; exact hW.1, hW.2.2.F ht⟩) hW.2.2.2.2 dX9_compares_126
  refine lv_iload_n hx hb dX9_compares_0 rfl (lv_at hl 0 rfl) ?_
  refine lv_sipush (v := 2000) hx hb dX9_compares_1 (by decide) ?_
  refine lv_irem hx hb dX9_compares_4 (by decide) ?_
  refine lv_topi (fun x_12 ex_12 => ?_)
  have h := k_letE ex_12 h
  refine lv_sipush (v := 999) hx hb dX9_compares_5 (by decide) ?_
  refine lv_isub hx hb dX9_compares_8 ?_
  refine lv_topi (fun x_13 ex_13 => ?_)
  have h := k_letE ex_13 h
  refine lv_istore (lv' := [(5, .int x_13), (0, .int v1), (1, .int v2), (2, .int v3), (3, .int v4), (4, .int v5)]) hx hb dX9_compares_9 hl (by decide) rfl (fun ls hl => ?_)
  refine lv_iload_n hx hb dX9_compares_11 rfl (lv_at hl 1 rfl) ?_
  refine lv_sipush (v := 2000) hx hb dX9_compares_12 (by decide) ?_
  refine lv_idiv hx hb dX9_compares_15 (by decide) ?_
  refine lv_iconst (v := 3) hx hb dX9_compares_16 (by decide) ?_
  refine lv_irem hx hb dX9_compares_17 (by decide) ?_
  refine lv_topi (fun x_14 ex_14 => ?_)
  have h := k_letE ex_14 h
  refine lv_istore (lv' := [(6, .int x_14), (5, .int x_13), (0, .int v1), (1, .int v2), (2, .int v3), (3, .int v4), (4, .int v5)]) hx hb dX9_compares_18 hl (by decide) rfl (fun ls hl => ?_)
  refine lv_iload_n hx hb dX9_compares_20 rfl (lv_at hl 2 rfl) ?_
  refine lv_sipush (v := 6000) hx hb dX9_compares_21 (by decide) ?_
  refine lv_idiv hx hb dX9_compares_24 (by decide) ?_
  refine lv_topi (fun x_15 ex_15 => ?_)
  have h := k_letE ex_15 h
  refine lv_istore (lv' := [(7, .int x_15), (6, .int x_14), (5, .int x_13), (0, .int v1), (1, .int v2), (2, .int v3), (3, .int v4), (4, .int v5)]) hx hb dX9_compares_25 hl (by decide) rfl (fun ls hl => ?_)
  refine lv_iload hx hb dX9_compares_27 (lv_at hl 0 rfl) ?_
  refine lv_if_ne (tgt := 36) hx hb dX9_compares_29 (by decide) (fun c_16 => ?_) (fun c_16 => ?_)
  · have h := k_f c_16 h
    refine lv_iload hx hb dX9_compares_36 (lv_at hl 0 rfl) ?_
    refine lv_iconst (v := 1) hx hb dX9_compares_38 (by decide) ?_
    refine lv_icmp_ne (tgt := 46) hx hb dX9_compares_39 (by decide) (fun c_17 => ?_) (fun c_17 => ?_)
    · have h := k_f c_17 h
      refine lv_iload hx hb dX9_compares_46 (lv_at hl 0 rfl) ?_
      refine lv_iconst (v := 2) hx hb dX9_compares_48 (by decide) ?_
      refine lv_icmp_ne (tgt := 56) hx hb dX9_compares_49 (by decide) (fun c_18 => ?_) (fun c_18 => ?_)
      · have h := k_f c_18 h
        refine lv_iload hx hb dX9_compares_56 (lv_at hl 0 rfl) ?_
        refine lv_iconst (v := 3) hx hb dX9_compares_58 (by decide) ?_
        refine lv_icmp_ne (tgt := 67) hx hb dX9_compares_59 (by decide) (fun c_19 => ?_) (fun c_19 => ?_)
        · have h := k_f c_19 h
          refine lv_iload_n hx hb dX9_compares_67 rfl (lv_at hl 6 rfl) ?_
          refine lv_iload hx hb dX9_compares_68 (lv_at hl 7 rfl) ?_
          refine lv_imul hx hb dX9_compares_70 ?_
          exact J71 x_13 x_14 (v4 * v5) H locs ls hW (lv_sub hl [2, 1] rfl) h
        · have h := k_t c_19 h
          refine lv_iload hx hb dX9_compares_62 (lv_at hl 7 rfl) ?_
          refine lv_goto (tgt := 71) hx hb dX9_compares_64 (by decide) ?_
          exact J71 x_13 x_14 v5 H locs ls hW (lv_sub hl [2, 1] rfl) h
      · have h := k_t c_18 h
        refine lv_iload_n hx hb dX9_compares_52 rfl (lv_at hl 6 rfl) ?_
        refine lv_goto (tgt := 71) hx hb dX9_compares_53 (by decide) ?_
        exact J71 x_13 x_14 v4 H locs ls hW (lv_sub hl [2, 1] rfl) h
    · have h := k_t c_17 h
      refine lv_iload_n hx hb dX9_compares_42 rfl (lv_at hl 5 rfl) ?_
      refine lv_goto (tgt := 71) hx hb dX9_compares_43 (by decide) ?_
      exact J71 x_13 x_14 v3 H locs ls hW (lv_sub hl [2, 1] rfl) h
  · have h := k_t c_16 h
    refine lv_iload_n hx hb dX9_compares_32 rfl (lv_at hl 4 rfl) ?_
    refine lv_goto (tgt := 71) hx hb dX9_compares_33 (by decide) ?_
    exact J71 x_13 x_14 v2 H locs ls hW (lv_sub hl [2, 1] rfl) h
