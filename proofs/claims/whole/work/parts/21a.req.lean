noncomputable def f_X8_requireLeftRow (v1 : Int32) (v2 : Int32) (v3 : Int32) : Option (Nat) := (k_b1 (f_X8_isKey v1) fun r_2 => (if r_2 = 0 then (some (1)) else (k_b1 (f_X8_isGroup v2) fun r_6 => (if r_6 = 0 then (some (1)) else (k_b1 (f_X8_isWithin v3 (-99) 99) fun r_10 => (if r_10 = 0 then (some (1)) else (some (0))))))))
abbrev rm_X8_requireLeftRow : Room := { frames := 6, cells := 1, slots := 6, locals := 92 }
theorem pd_X8_requireLeftRow : k_D1 yX8_requireLeftRow 3 := by decide +kernel
set_option maxHeartbeats 4000000 in
set_option maxRecDepth 100000 in
theorem m_X8_requireLeftRow (l : Launch) (hlt : l.stackTraces = false) (D : va_G) (cA : Nat → ClassId) (sz : Nat) (v1 : Int32) (v2 : Int32) (v3 : Int32) (exc_ : Nat) (h : f_X8_requireLeftRow v1 v2 v3 = some (exc_)) : k_MX l yX8_requireLeftRow prog_1_method_48_code 3 (none : Option Jvm.ClassFile.FieldType) rm_X8_requireLeftRow D cA [.int v1, .int v2, .int v3] [] sz exc_ (none) [] 1 6 := by
  refine k_ofWX (by decide) (Nat.le_of_ble_eq_true rfl) ?_
  intro p e s m below meth c A ls hx hb hr hml hts hown hlocks hB hA hW hl htab hZ hSR
  have hl : lv_has ls 3 [(0, .int v1), (1, .int v2), (2, .int v3)] := hl
  obtain ⟨H, eH⟩ : ∃ H, H = s.heap := ⟨_, rfl⟩
  obtain ⟨locs, eL⟩ : ∃ L : List Loc, L = [] := ⟨_, rfl⟩
  have hW : k_Wd D A s.heap [] H locs := by rw [eH, eL]; exact hW
  suffices K : W p l e rm_X8_requireLeftRow s m [.int v1, .int v2, .int v3].toArray below meth c H locs 0 0 (vx_MQ below (k_QR exc_ (none) D [] A) (k_XC exc_ D [] A) [.int v1, .int v2, .int v3].toArray s 1 6 A) (F0 m 0 ls []) by rw [eH, eL] at K; exact K
  clear eH eL
  refine lv_iload_n hx hb dX8_requireLeftRow_0 rfl (lv_at hl 0 rfl) ?_
  obtain ⟨r_2, h_1, h⟩ := k_bE1 h
  refine k_callS (ws' := []) (As := [.int v1]) (rest := []) (m_X8_isKey l D cA H.size v1 r_2 h_1) hx hb hml hown hts hB hA hW hl.1 q2_183 q1_1 q2_182 q2_181 pd_X8_isKey ⟨rfl, rfl, Nat.le_of_ble_eq_true rfl, Nat.le_of_ble_eq_true rfl⟩ rfl [] [] trivial rfl ⟨trivial, trivial, rfl⟩ rfl rfl (Nat.le_of_ble_eq_true rfl) ⟨Nat.le_of_ble_eq_true rfl, Nat.le_of_ble_eq_true rfl⟩ dX8_requireLeftRow_1 (st1 := [.int r_2]) rfl (fun H locs hW => ?_)
  refine lv_if_eq (tgt := 25) hx hb dX8_requireLeftRow_4 (by decide) (fun c_4 => ?_) (fun c_4 => ?_)
  · have h := k_t c_4 h
    have z0 := k_inj1 h
    rw [← z0]
    exact k_throwW (x := 1) (cls := "java/lang/IllegalArgumentException") (text := "a number of the left row is out of range") hx hb hlt hown hts hlocks htab hZ hSR hW (hl.1.trans hml.symm) (by decide +kernel) (by decide +kernel) q3_74 q1_14 (by decide +kernel) xat_1 (by decide) rfl dX8_requireLeftRow_25 dX8_requireLeftRow_28 dX8_requireLeftRow_29 dX8_requireLeftRow_32 dX8_requireLeftRow_35 (Nat.le_of_ble_eq_true rfl) (Nat.le_of_ble_eq_true rfl) (Nat.le_of_ble_eq_true rfl) (Nat.le_of_ble_eq_true rfl) (Nat.le_of_ble_eq_true rfl) (Nat.le_of_ble_eq_true rfl)
  · have h := k_f c_4 h
    refine lv_iload_n hx hb dX8_requireLeftRow_7 rfl (lv_at hl 1 rfl) ?_
    obtain ⟨r_6, h_5, h⟩ := k_bE1 h
    refine k_callS (ws' := []) (As := [.int v2]) (rest := []) (m_X8_isGroup l D cA H.size v2 r_6 h_5) hx hb hml hown hts hB hA hW hl.1 q2_189 q1_1 q2_188 q2_187 pd_X8_isGroup ⟨rfl, rfl, Nat.le_of_ble_eq_true rfl, Nat.le_of_ble_eq_true rfl⟩ rfl [] [] trivial rfl ⟨trivial, trivial, rfl⟩ rfl rfl (Nat.le_of_ble_eq_true rfl) ⟨Nat.le_of_ble_eq_true rfl, Nat.le_of_ble_eq_true rfl⟩ dX8_requireLeftRow_8 (st1 := [.int r_6]) rfl (fun H locs hW => ?_)
    refine lv_if_eq (tgt := 25) hx hb dX8_requireLeftRow_11 (by decide) (fun c_8 => ?_) (fun c_8 => ?_)
    · have h := k_t c_8 h
      have z0 := k_inj1 h
      rw [← z0]
      exact k_throwW (x := 1) (cls := "java/lang/IllegalArgumentException") (text := "a number of the left row is out of range") hx hb hlt hown hts hlocks htab hZ hSR hW (hl.1.trans hml.symm) (by decide +kernel) (by decide +kernel) q3_74 q1_14 (by decide +kernel) xat_1 (by decide) rfl dX8_requireLeftRow_25 dX8_requireLeftRow_28 dX8_requireLeftRow_29 dX8_requireLeftRow_32 dX8_requireLeftRow_35 (Nat.le_of_ble_eq_true rfl) (Nat.le_of_ble_eq_true rfl) (Nat.le_of_ble_eq_true rfl) (Nat.le_of_ble_eq_true rfl) (Nat.le_of_ble_eq_true rfl) (Nat.le_of_ble_eq_true rfl)
    · have h := k_f c_8 h
      refine lv_iload_n hx hb dX8_requireLeftRow_14 rfl (lv_at hl 2 rfl) ?_
      refine lv_bipush (v := (-99)) hx hb dX8_requireLeftRow_15 (by decide) ?_
      refine lv_bipush (v := 99) hx hb dX8_requireLeftRow_17 (by decide) ?_
      obtain ⟨r_10, h_9, h⟩ := k_bE1 h
      refine k_callS (ws' := []) (As := [.int v3, .int (-99), .int 99]) (rest := []) (m_X8_isWithin l D cA H.size v3 (-99) 99 r_10 h_9) hx hb hml hown hts hB hA hW hl.1 q2_186 q1_1 q2_185 q2_184 pd_X8_isWithin ⟨rfl, rfl, Nat.le_of_ble_eq_true rfl, Nat.le_of_ble_eq_true rfl⟩ rfl [] [] trivial rfl ⟨trivial, trivial, rfl⟩ rfl rfl (Nat.le_of_ble_eq_true rfl) ⟨Nat.le_of_ble_eq_true rfl, Nat.le_of_ble_eq_true rfl⟩ dX8_requireLeftRow_19 (st1 := [.int r_10]) rfl (fun H locs hW => ?_)
      refine lv_if_ne (tgt := 36) hx hb dX8_requireLeftRow_22 (by decide) (fun c_12 => ?_) (fun c_12 => ?_)
      · have h := k_f c_12 h
        have z0 := k_inj1 h
        rw [← z0]
        refine W.widen (k := 1) (n := 6) (Nat.le_of_ble_eq_true rfl) (Nat.le_of_ble_eq_true rfl) ?_
        refine vx_ret ?_
        exact W.vret hx hb hr (fun t ht hWm => ⟨rfl, rfl, by rw [ht]; exact hW.1, hW.2.2.F ht⟩) hW.2.2.2.2 dX8_requireLeftRow_36
      · have h := k_t c_12 h
        have z0 := k_inj1 h
        rw [← z0]
        exact k_throwW (x := 1) (cls := "java/lang/IllegalArgumentException") (text := "a number of the left row is out of range") hx hb hlt hown hts hlocks htab hZ hSR hW (hl.1.trans hml.symm) (by decide +kernel) (by decide +kernel) q3_74 q1_14 (by decide +kernel) xat_1 (by decide) rfl dX8_requireLeftRow_25 dX8_requireLeftRow_28 dX8_requireLeftRow_29 dX8_requireLeftRow_32 dX8_requireLeftRow_35 (Nat.le_of_ble_eq_true rfl) (Nat.le_of_ble_eq_true rfl) (Nat.le_of_ble_eq_true rfl) (Nat.le_of_ble_eq_true rfl) (Nat.le_of_ble_eq_true rfl) (Nat.le_of_ble_eq_true rfl)
noncomputable def f_X8_requireRightRow (v1 : Int32) (v2 : Int32) : Option (Nat) := (k_b1 (f_X8_isKey v1) fun r_2 => (if r_2 = 0 then (some (1)) else (k_b1 (f_X8_isWithin v2 (-9) 9) fun r_6 => (if r_6 = 0 then (some (1)) else (some (0))))))
abbrev rm_X8_requireRightRow : Room := { frames := 6, cells := 1, slots := 6, locals := 92 }
theorem pd_X8_requireRightRow : k_D1 yX8_requireRightRow 2 := by decide +kernel
set_option maxHeartbeats 4000000 in
set_option maxRecDepth 100000 in
theorem m_X8_requireRightRow (l : Launch) (hlt : l.stackTraces = false) (D : va_G) (cA : Nat → ClassId) (sz : Nat) (v1 : Int32) (v2 : Int32) (exc_ : Nat) (h : f_X8_requireRightRow v1 v2 = some (exc_)) : k_MX l yX8_requireRightRow prog_1_method_49_code 2 (none : Option Jvm.ClassFile.FieldType) rm_X8_requireRightRow D cA [.int v1, .int v2] [] sz exc_ (none) [] 1 6 := by
  refine k_ofWX (by decide) (Nat.le_of_ble_eq_true rfl) ?_
  intro p e s m below meth c A ls hx hb hr hml hts hown hlocks hB hA hW hl htab hZ hSR
  have hl : lv_has ls 2 [(0, .int v1), (1, .int v2)] := hl
  obtain ⟨H, eH⟩ : ∃ H, H = s.heap := ⟨_, rfl⟩
  obtain ⟨locs, eL⟩ : ∃ L : List Loc, L = [] := ⟨_, rfl⟩
  have hW : k_Wd D A s.heap [] H locs := by rw [eH, eL]; exact hW
  suffices K : W p l e rm_X8_requireRightRow s m [.int v1, .int v2].toArray below meth c H locs 0 0 (vx_MQ below (k_QR exc_ (none) D [] A) (k_XC exc_ D [] A) [.int v1, .int v2].toArray s 1 6 A) (F0 m 0 ls []) by rw [eH, eL] at K; exact K
  clear eH eL
  refine lv_iload_n hx hb dX8_requireRightRow_0 rfl (lv_at hl 0 rfl) ?_
  obtain ⟨r_2, h_1, h⟩ := k_bE1 h
  refine k_callS (ws' := []) (As := [.int v1]) (rest := []) (m_X8_isKey l D cA H.size v1 r_2 h_1) hx hb hml hown hts hB hA hW hl.1 q2_183 q1_1 q2_182 q2_181 pd_X8_isKey ⟨rfl, rfl, Nat.le_of_ble_eq_true rfl, Nat.le_of_ble_eq_true rfl⟩ rfl [] [] trivial rfl ⟨trivial, trivial, rfl⟩ rfl rfl (Nat.le_of_ble_eq_true rfl) ⟨Nat.le_of_ble_eq_true rfl, Nat.le_of_ble_eq_true rfl⟩ dX8_requireRightRow_1 (st1 := [.int r_2]) rfl (fun H locs hW => ?_)
  refine lv_if_eq (tgt := 18) hx hb dX8_requireRightRow_4 (by decide) (fun c_4 => ?_) (fun c_4 => ?_)
  · have h := k_t c_4 h
    have z0 := k_inj1 h
    rw [← z0]
    exact k_throwW (x := 1) (cls := "java/lang/IllegalArgumentException") (text := "a number of the right row is out of range") hx hb hlt hown hts hlocks htab hZ hSR hW (hl.1.trans hml.symm) (by decide +kernel) (by decide +kernel) q3_74 q1_14 (by decide +kernel) xat_1 (by decide) rfl dX8_requireRightRow_18 dX8_requireRightRow_21 dX8_requireRightRow_22 dX8_requireRightRow_25 dX8_requireRightRow_28 (Nat.le_of_ble_eq_true rfl) (Nat.le_of_ble_eq_true rfl) (Nat.le_of_ble_eq_true rfl) (Nat.le_of_ble_eq_true rfl) (Nat.le_of_ble_eq_true rfl) (Nat.le_of_ble_eq_true rfl)
  · have h := k_f c_4 h
    refine lv_iload_n hx hb dX8_requireRightRow_7 rfl (lv_at hl 1 rfl) ?_
    refine lv_bipush (v := (-9)) hx hb dX8_requireRightRow_8 (by decide) ?_
    refine lv_bipush (v := 9) hx hb dX8_requireRightRow_10 (by decide) ?_
    obtain ⟨r_6, h_5, h⟩ := k_bE1 h
    refine k_callS (ws' := []) (As := [.int v2, .int (-9), .int 9]) (rest := []) (m_X8_isWithin l D cA H.size v2 (-9) 9 r_6 h_5) hx hb hml hown hts hB hA hW hl.1 q2_186 q1_1 q2_185 q2_184 pd_X8_isWithin ⟨rfl, rfl, Nat.le_of_ble_eq_true rfl, Nat.le_of_ble_eq_true rfl⟩ rfl [] [] trivial rfl ⟨trivial, trivial, rfl⟩ rfl rfl (Nat.le_of_ble_eq_true rfl) ⟨Nat.le_of_ble_eq_true rfl, Nat.le_of_ble_eq_true rfl⟩ dX8_requireRightRow_12 (st1 := [.int r_6]) rfl (fun H locs hW => ?_)
    refine lv_if_ne (tgt := 29) hx hb dX8_requireRightRow_15 (by decide) (fun c_8 => ?_) (fun c_8 => ?_)
    · have h := k_f c_8 h
      have z0 := k_inj1 h
      rw [← z0]
      refine W.widen (k := 1) (n := 6) (Nat.le_of_ble_eq_true rfl) (Nat.le_of_ble_eq_true rfl) ?_
      refine vx_ret ?_
      exact W.vret hx hb hr (fun t ht hWm => ⟨rfl, rfl, by rw [ht]; exact hW.1, hW.2.2.F ht⟩) hW.2.2.2.2 dX8_requireRightRow_29
    · have h := k_t c_8 h
      have z0 := k_inj1 h
      rw [← z0]
      exact k_throwW (x := 1) (cls := "java/lang/IllegalArgumentException") (text := "a number of the right row is out of range") hx hb hlt hown hts hlocks htab hZ hSR hW (hl.1.trans hml.symm) (by decide +kernel) (by decide +kernel) q3_74 q1_14 (by decide +kernel) xat_1 (by decide) rfl dX8_requireRightRow_18 dX8_requireRightRow_21 dX8_requireRightRow_22 dX8_requireRightRow_25 dX8_requireRightRow_28 (Nat.le_of_ble_eq_true rfl) (Nat.le_of_ble_eq_true rfl) (Nat.le_of_ble_eq_true rfl) (Nat.le_of_ble_eq_true rfl) (Nat.le_of_ble_eq_true rfl) (Nat.le_of_ble_eq_true rfl)
noncomputable def f_X8_requireRoomInBatch (changesInBatch : Int32) : Option (Nat) := (if changesInBatch < 40 then (some (0)) else (some (2)))
abbrev rm_X8_requireRoomInBatch : Room := { frames := 6, cells := 1, slots := 6, locals := 92 }
theorem pd_X8_requireRoomInBatch : k_D1 yX8_requireRoomInBatch 0 := by decide +kernel
set_option maxHeartbeats 4000000 in
set_option maxRecDepth 100000 in
theorem m_X8_requireRoomInBatch (l : Launch) (hlt : l.stackTraces = false) (D : va_G) (cA : Nat → ClassId) (sz : Nat) (a_this : Nat) (w_tables : Nat) (w_planned : Nat) (w_history : Nat) (w_filter : Nat) (w_reader : Nat) (w_watches : Nat) (w_views : Nat) (w_savedTables : Nat) (w_savedFilter : Nat) (w_savedWatches : Nat) (changesInBatch : Int32) (fault : Int32) (isSaved : Int32) (exc_ : Nat) (h : f_X8_requireRoomInBatch changesInBatch = some (exc_)) : k_MX l yX8_requireRoomInBatch prog_1_method_44_code 1 (none : Option Jvm.ClassFile.FieldType) rm_X8_requireRoomInBatch D cA [.ref a_this] [(a_this, .inr (8, [.ref w_tables, .ref w_planned, .int changesInBatch, .ref w_history, .ref w_filter, .ref w_reader, .int fault, .ref w_watches, .ref w_views, .int isSaved, .ref w_savedTables, .ref w_savedFilter, .ref w_savedWatches]))] sz exc_ (none) [(a_this, .inr (8, [.ref w_tables, .ref w_planned, .int changesInBatch, .ref w_history, .ref w_filter, .ref w_reader, .int fault, .ref w_watches, .ref w_views, .int isSaved, .ref w_savedTables, .ref w_savedFilter, .ref w_savedWatches]))] 1 6 := by
  refine k_ofWX (by decide) (Nat.le_of_ble_eq_true rfl) ?_
  intro p e s m below meth c A ls hx hb hr hml hts hown hlocks hB hA hW hl htab hZ hSR
  have hl : lv_has ls 1 [(0, .ref a_this)] := hl
  obtain ⟨H, eH⟩ : ∃ H, H = s.heap := ⟨_, rfl⟩
  obtain ⟨locs, eL⟩ : ∃ L : List Loc, L = [] := ⟨_, rfl⟩
  have hW : k_Wd D A s.heap [(a_this, .inr (8, [.ref w_tables, .ref w_planned, .int changesInBatch, .ref w_history, .ref w_filter, .ref w_reader, .int fault, .ref w_watches, .ref w_views, .int isSaved, .ref w_savedTables, .ref w_savedFilter, .ref w_savedWatches]))] H locs := by rw [eH, eL]; exact hW
  suffices K : W p l e rm_X8_requireRoomInBatch s m [.ref a_this].toArray below meth c H locs 0 0 (vx_MQ below (k_QR exc_ (none) D [(a_this, .inr (8, [.ref w_tables, .ref w_planned, .int changesInBatch, .ref w_history, .ref w_filter, .ref w_reader, .int fault, .ref w_watches, .ref w_views, .int isSaved, .ref w_savedTables, .ref w_savedFilter, .ref w_savedWatches]))] A) (k_XC exc_ D [(a_this, .inr (8, [.ref w_tables, .ref w_planned, .int changesInBatch, .ref w_history, .ref w_filter, .ref w_reader, .int fault, .ref w_watches, .ref w_views, .int isSaved, .ref w_savedTables, .ref w_savedFilter, .ref w_savedWatches]))] A) [.ref a_this].toArray s 1 6 A) (F0 m 0 ls []) by rw [eH, eL] at K; exact K
  clear eH eL
  refine lv_aload_n hx hb dX8_requireRoomInBatch_0 rfl (lv_at hl 0 rfl) ?_
  refine va_get (D := D) (ci := 8) (v := .int changesInBatch) (C := RX8) (T := TX8) (N := 13) hx hb hts iX8 hown hB.1 hW.1 0 rfl rfl 2 (by decide) (hts _ q1_198) (fun _ h9 => h9) rfl dX8_requireRoomInBatch_1 ?_
  refine lv_bipush (v := 40) hx hb dX8_requireRoomInBatch_4 (by decide) ?_
  refine lv_icmp_lt (tgt := 20) hx hb dX8_requireRoomInBatch_6 (by decide) (fun c_1 => ?_) (fun c_1 => ?_)
  · have h := k_t c_1 h
    have z0 := k_inj1 h
    rw [← z0]
    refine W.widen (k := 1) (n := 6) (Nat.le_of_ble_eq_true rfl) (Nat.le_of_ble_eq_true rfl) ?_
    refine vx_ret ?_
    exact W.vret hx hb hr (fun t ht hWm => ⟨rfl, rfl, by rw [ht]; exact hW.1, hW.2.2.F ht⟩) hW.2.2.2.2 dX8_requireRoomInBatch_20
  · have h := k_f c_1 h
    have z0 := k_inj1 h
    rw [← z0]
    exact k_throwW (x := 2) (cls := "java/lang/IllegalStateException") (text := "the batch has 40 changes") hx hb hlt hown hts hlocks htab hZ hSR hW (hl.1.trans hml.symm) (by decide +kernel) (by decide +kernel) q3_147 q1_15 (by decide +kernel) xat_2 (by decide) rfl dX8_requireRoomInBatch_9 dX8_requireRoomInBatch_12 dX8_requireRoomInBatch_13 dX8_requireRoomInBatch_16 dX8_requireRoomInBatch_19 (Nat.le_of_ble_eq_true rfl) (Nat.le_of_ble_eq_true rfl) (Nat.le_of_ble_eq_true rfl) (Nat.le_of_ble_eq_true rfl) (Nat.le_of_ble_eq_true rfl) (Nat.le_of_ble_eq_true rfl)
noncomputable def f_X8_requireRoomInTable (p1_total : Int32) : Option (Nat) := (k_b1 (f_X0_total p1_total) fun r_2 => (if r_2 < 60 then (some (0)) else (some (2))))
abbrev rm_X8_requireRoomInTable : Room := { frames := 6, cells := 1, slots := 6, locals := 92 }
theorem pd_X8_requireRoomInTable : k_D1 yX8_requireRoomInTable 1 := by decide +kernel
set_option maxHeartbeats 4000000 in
set_option maxRecDepth 100000 in
theorem m_X8_requireRoomInTable (l : Launch) (hlt : l.stackTraces = false) (D : va_G) (cA : Nat → ClassId) (sz : Nat) (a_p1 : Nat) (w_p1_codes : Nat) (w_p1_counts : Nat) (p1_size : Int32) (p1_total : Int32) (exc_ : Nat) (h : f_X8_requireRoomInTable p1_total = some (exc_)) : k_MX l yX8_requireRoomInTable prog_1_method_46_code 1 (none : Option Jvm.ClassFile.FieldType) rm_X8_requireRoomInTable D cA [.ref a_p1] [(a_p1, .inr (0, [.ref w_p1_codes, .ref w_p1_counts, .int p1_size, .int p1_total]))] sz exc_ (none) [(a_p1, .inr (0, [.ref w_p1_codes, .ref w_p1_counts, .int p1_size, .int p1_total]))] 1 6 := by
  refine k_ofWX (by decide) (Nat.le_of_ble_eq_true rfl) ?_
  intro p e s m below meth c A ls hx hb hr hml hts hown hlocks hB hA hW hl htab hZ hSR
  have hl : lv_has ls 1 [(0, .ref a_p1)] := hl
  obtain ⟨H, eH⟩ : ∃ H, H = s.heap := ⟨_, rfl⟩
  obtain ⟨locs, eL⟩ : ∃ L : List Loc, L = [] := ⟨_, rfl⟩
  have hW : k_Wd D A s.heap [(a_p1, .inr (0, [.ref w_p1_codes, .ref w_p1_counts, .int p1_size, .int p1_total]))] H locs := by rw [eH, eL]; exact hW
  suffices K : W p l e rm_X8_requireRoomInTable s m [.ref a_p1].toArray below meth c H locs 0 0 (vx_MQ below (k_QR exc_ (none) D [(a_p1, .inr (0, [.ref w_p1_codes, .ref w_p1_counts, .int p1_size, .int p1_total]))] A) (k_XC exc_ D [(a_p1, .inr (0, [.ref w_p1_codes, .ref w_p1_counts, .int p1_size, .int p1_total]))] A) [.ref a_p1].toArray s 1 6 A) (F0 m 0 ls []) by rw [eH, eL] at K; exact K
  clear eH eL
  refine lv_aload_n hx hb dX8_requireRoomInTable_0 rfl (lv_at hl 0 rfl) ?_
  obtain ⟨r_2, h_1, h⟩ := k_bE1 h
  refine k_callV (C := RX0) (ws' := [(a_p1, .inr (0, [.ref w_p1_codes, .ref w_p1_counts, .int p1_size, .int p1_total]))]) (As := []) (rest := []) (b := a_p1) (m_X0_total l D cA H.size a_p1 w_p1_codes w_p1_counts p1_size p1_total r_2 h_1) hx hb hml hown hts hB hA hW hl.1 q2_159 q1_3 q2_157 q2_158 q2_156 pd_X0_total ⟨rfl, rfl, Nat.le_of_ble_eq_true rfl, Nat.le_of_ble_eq_true rfl⟩ rfl 0 rfl rfl [0] [] ⟨rfl, trivial⟩ rfl ⟨⟨rfl, trivial⟩, trivial, rfl⟩ rfl rfl (Nat.le_of_ble_eq_true rfl) ⟨Nat.le_of_ble_eq_true rfl, Nat.le_of_ble_eq_true rfl⟩ dX8_requireRoomInTable_1 (st1 := [.int r_2]) rfl (fun H locs hW => ?_)
  refine lv_bipush (v := 60) hx hb dX8_requireRoomInTable_4 (by decide) ?_
  refine lv_icmp_lt (tgt := 20) hx hb dX8_requireRoomInTable_6 (by decide) (fun c_4 => ?_) (fun c_4 => ?_)
  · have h := k_t c_4 h
    have z0 := k_inj1 h
    rw [← z0]
    refine W.widen (k := 1) (n := 6) (Nat.le_of_ble_eq_true rfl) (Nat.le_of_ble_eq_true rfl) ?_
    refine vx_ret ?_
    exact W.vret hx hb hr (fun t ht hWm => ⟨rfl, rfl, by rw [ht]; exact hW.1, hW.2.2.F ht⟩) hW.2.2.2.2 dX8_requireRoomInTable_20
  · have h := k_f c_4 h
    have z0 := k_inj1 h
    rw [← z0]
    exact k_throwW (x := 2) (cls := "java/lang/IllegalStateException") (text := "the planned table has 60 rows") hx hb hlt hown hts hlocks htab hZ hSR hW (hl.1.trans hml.symm) (by decide +kernel) (by decide +kernel) q3_147 q1_15 (by decide +kernel) xat_2 (by decide) rfl dX8_requireRoomInTable_9 dX8_requireRoomInTable_12 dX8_requireRoomInTable_13 dX8_requireRoomInTable_16 dX8_requireRoomInTable_19 (Nat.le_of_ble_eq_true rfl) (Nat.le_of_ble_eq_true rfl) (Nat.le_of_ble_eq_true rfl) (Nat.le_of_ble_eq_true rfl) (Nat.le_of_ble_eq_true rfl) (Nat.le_of_ble_eq_true rfl)
noncomputable def f_X8_requireRowInTable (fu : Nat) (n_p1_codes : Nat) (n_p1_counts : Nat) (p1_size : Int32) (p1_codes : Nat → Int32) (p1_counts : Nat → Int32) (v2 : Int32) : Option (Nat) := (k_b1 (f_X0_countOf fu n_p1_codes n_p1_counts p1_size p1_codes p1_counts v2) fun r_2 => (if (0 : Int32) < r_2 then (some (0)) else (some (4))))
abbrev rm_X8_requireRowInTable : Room := { frames := 6, cells := 1, slots := 6, locals := 92 }
theorem pd_X8_requireRowInTable : k_D1 yX8_requireRowInTable 2 := by decide +kernel
set_option maxHeartbeats 4000000 in
set_option maxRecDepth 100000 in
theorem m_X8_requireRowInTable (l : Launch) (hlt : l.stackTraces = false) (D : va_G) (cA : Nat → ClassId) (sz : Nat) (a_p1 a_p1_codes a_p1_counts : Nat) (fu : Nat) (n_p1_codes : Nat) (n_p1_counts : Nat) (p1_size : Int32) (p1_total : Int32) (p1_codes : Nat → Int32) (p1_counts : Nat → Int32) (v2 : Int32) (exc_ : Nat) (h : f_X8_requireRowInTable fu n_p1_codes n_p1_counts p1_size p1_codes p1_counts v2 = some (exc_)) : k_MX l yX8_requireRowInTable prog_1_method_47_code 2 (none : Option Jvm.ClassFile.FieldType) rm_X8_requireRowInTable D cA [.ref a_p1, .int v2] [(a_p1, .inr (0, [.ref a_p1_codes, .ref a_p1_counts, .int p1_size, .int p1_total])), (a_p1_codes, .inl (cA 0, n_p1_codes, .inl p1_codes)), (a_p1_counts, .inl (cA 0, n_p1_counts, .inl p1_counts))] sz exc_ (none) [(a_p1, .inr (0, [.ref a_p1_codes, .ref a_p1_counts, .int p1_size, .int p1_total])), (a_p1_codes, .inl (cA 0, n_p1_codes, .inl p1_codes)), (a_p1_counts, .inl (cA 0, n_p1_counts, .inl p1_counts))] 1 6 := by
  refine k_ofWX (by decide) (Nat.le_of_ble_eq_true rfl) ?_
  intro p e s m below meth c A ls hx hb hr hml hts hown hlocks hB hA hW hl htab hZ hSR
  have hl : lv_has ls 2 [(0, .ref a_p1), (1, .int v2)] := hl
  obtain ⟨H, eH⟩ : ∃ H, H = s.heap := ⟨_, rfl⟩
  obtain ⟨locs, eL⟩ : ∃ L : List Loc, L = [] := ⟨_, rfl⟩
  have hW : k_Wd D A s.heap [(a_p1, .inr (0, [.ref a_p1_codes, .ref a_p1_counts, .int p1_size, .int p1_total])), (a_p1_codes, .inl (cA 0, n_p1_codes, .inl p1_codes)), (a_p1_counts, .inl (cA 0, n_p1_counts, .inl p1_counts))] H locs := by rw [eH, eL]; exact hW
  suffices K : W p l e rm_X8_requireRowInTable s m [.ref a_p1, .int v2].toArray below meth c H locs 0 0 (vx_MQ below (k_QR exc_ (none) D [(a_p1, .inr (0, [.ref a_p1_codes, .ref a_p1_counts, .int p1_size, .int p1_total])), (a_p1_codes, .inl (cA 0, n_p1_codes, .inl p1_codes)), (a_p1_counts, .inl (cA 0, n_p1_counts, .inl p1_counts))] A) (k_XC exc_ D [(a_p1, .inr (0, [.ref a_p1_codes, .ref a_p1_counts, .int p1_size, .int p1_total])), (a_p1_codes, .inl (cA 0, n_p1_codes, .inl p1_codes)), (a_p1_counts, .inl (cA 0, n_p1_counts, .inl p1_counts))] A) [.ref a_p1, .int v2].toArray s 1 6 A) (F0 m 0 ls []) by rw [eH, eL] at K; exact K
  clear eH eL
  refine lv_aload_n hx hb dX8_requireRowInTable_0 rfl (lv_at hl 0 rfl) ?_
  refine lv_iload_n hx hb dX8_requireRowInTable_1 rfl (lv_at hl 1 rfl) ?_
  obtain ⟨r_2, h_1, h⟩ := k_bE1 h
  refine k_callV (C := RX0) (ws' := [(a_p1, .inr (0, [.ref a_p1_codes, .ref a_p1_counts, .int p1_size, .int p1_total])), (a_p1_codes, .inl (cA 0, n_p1_codes, .inl p1_codes)), (a_p1_counts, .inl (cA 0, n_p1_counts, .inl p1_counts))]) (As := [.int v2]) (rest := []) (b := a_p1) (m_X0_countOf l D cA H.size a_p1 a_p1_codes a_p1_counts fu n_p1_codes n_p1_counts p1_size p1_total p1_codes p1_counts v2 r_2 h_1) hx hb hml hown hts hB hA hW hl.1 q2_194 q1_3 q2_192 q2_193 q2_191 pd_X0_countOf ⟨rfl, rfl, Nat.le_of_ble_eq_true rfl, Nat.le_of_ble_eq_true rfl⟩ rfl 0 rfl rfl [0, 1, 2] [] ⟨rfl, rfl, rfl, trivial⟩ rfl ⟨⟨rfl, rfl, rfl, trivial⟩, trivial, rfl⟩ rfl rfl (Nat.le_of_ble_eq_true rfl) ⟨Nat.le_of_ble_eq_true rfl, Nat.le_of_ble_eq_true rfl⟩ dX8_requireRowInTable_2 (st1 := [.int r_2]) rfl (fun H locs hW => ?_)
  refine lv_if_gt (tgt := 19) hx hb dX8_requireRowInTable_5 (by decide) (fun c_4 => ?_) (fun c_4 => ?_)
  · have h := k_t c_4 h
    have z0 := k_inj1 h
    rw [← z0]
    refine W.widen (k := 1) (n := 6) (Nat.le_of_ble_eq_true rfl) (Nat.le_of_ble_eq_true rfl) ?_
    refine vx_ret ?_
    exact W.vret hx hb hr (fun t ht hWm => ⟨rfl, rfl, by rw [ht]; exact hW.1, hW.2.2.F ht⟩) hW.2.2.2.2 dX8_requireRowInTable_19
  · have h := k_f c_4 h
    have z0 := k_inj1 h
    rw [← z0]
    exact k_throw4W (text := "the planned table does not contain the row") hx hb hlt hown hts hlocks htab hZ hSR hW (hl.1.trans hml.symm) (by decide +kernel) dX8_requireRowInTable_8 dX8_requireRowInTable_11 dX8_requireRowInTable_12 dX8_requireRowInTable_15 dX8_requireRowInTable_18 (Nat.le_of_ble_eq_true rfl) (Nat.le_of_ble_eq_true rfl) (Nat.le_of_ble_eq_true rfl) (Nat.le_of_ble_eq_true rfl) (Nat.le_of_ble_eq_true rfl) (Nat.le_of_ble_eq_true rfl)
noncomputable def f_X8_requireIndex (v1 : Int32) (v2 : Int32) : Option (Nat) := (if v1 < 0 then (some (3)) else (if v1 < v2 then (some (0)) else (some (3))))
abbrev rm_X8_requireIndex : Room := { frames := 6, cells := 1, slots := 6, locals := 92 }
theorem pd_X8_requireIndex : k_D1 yX8_requireIndex 2 := by decide +kernel
set_option maxHeartbeats 4000000 in
set_option maxRecDepth 100000 in
theorem m_X8_requireIndex (l : Launch) (hlt : l.stackTraces = false) (D : va_G) (cA : Nat → ClassId) (sz : Nat) (v1 : Int32) (v2 : Int32) (exc_ : Nat) (h : f_X8_requireIndex v1 v2 = some (exc_)) : k_MX l yX8_requireIndex prog_1_method_50_code 2 (none : Option Jvm.ClassFile.FieldType) rm_X8_requireIndex D cA [.int v1, .int v2] [] sz exc_ (none) [] 1 6 := by
  refine k_ofWX (by decide) (Nat.le_of_ble_eq_true rfl) ?_
  intro p e s m below meth c A ls hx hb hr hml hts hown hlocks hB hA hW hl htab hZ hSR
  have hl : lv_has ls 2 [(0, .int v1), (1, .int v2)] := hl
  obtain ⟨H, eH⟩ : ∃ H, H = s.heap := ⟨_, rfl⟩
  obtain ⟨locs, eL⟩ : ∃ L : List Loc, L = [] := ⟨_, rfl⟩
  have hW : k_Wd D A s.heap [] H locs := by rw [eH, eL]; exact hW
  suffices K : W p l e rm_X8_requireIndex s m [.int v1, .int v2].toArray below meth c H locs 0 0 (vx_MQ below (k_QR exc_ (none) D [] A) (k_XC exc_ D [] A) [.int v1, .int v2].toArray s 1 6 A) (F0 m 0 ls []) by rw [eH, eL] at K; exact K
  clear eH eL
  refine lv_iload_n hx hb dX8_requireIndex_0 rfl (lv_at hl 0 rfl) ?_
  refine lv_if_lt (tgt := 9) hx hb dX8_requireIndex_1 (by decide) (fun c_1 => ?_) (fun c_1 => ?_)
  · have h := k_t c_1 h
    have z0 := k_inj1 h
    rw [← z0]
    exact k_throwW (x := 3) (cls := "java/lang/IndexOutOfBoundsException") (text := "no such row, column, group or watch") hx hb hlt hown hts hlocks htab hZ hSR hW (hl.1.trans hml.symm) (by decide +kernel) (by decide +kernel) q4_22 q1_20 (by decide +kernel) xat_3 (by decide) rfl dX8_requireIndex_9 dX8_requireIndex_12 dX8_requireIndex_13 dX8_requireIndex_16 dX8_requireIndex_19 (Nat.le_of_ble_eq_true rfl) (Nat.le_of_ble_eq_true rfl) (Nat.le_of_ble_eq_true rfl) (Nat.le_of_ble_eq_true rfl) (Nat.le_of_ble_eq_true rfl) (Nat.le_of_ble_eq_true rfl)
  · have h := k_f c_1 h
    refine lv_iload_n hx hb dX8_requireIndex_4 rfl (lv_at hl 0 rfl) ?_
    refine lv_iload_n hx hb dX8_requireIndex_5 rfl (lv_at hl 1 rfl) ?_
    refine lv_icmp_lt (tgt := 20) hx hb dX8_requireIndex_6 (by decide) (fun c_2 => ?_) (fun c_2 => ?_)
    · have h := k_t c_2 h
      have z0 := k_inj1 h
      rw [← z0]
      refine W.widen (k := 1) (n := 6) (Nat.le_of_ble_eq_true rfl) (Nat.le_of_ble_eq_true rfl) ?_
      refine vx_ret ?_
      exact W.vret hx hb hr (fun t ht hWm => ⟨rfl, rfl, by rw [ht]; exact hW.1, hW.2.2.F ht⟩) hW.2.2.2.2 dX8_requireIndex_20
    · have h := k_f c_2 h
      have z0 := k_inj1 h
      rw [← z0]
      exact k_throwW (x := 3) (cls := "java/lang/IndexOutOfBoundsException") (text := "no such row, column, group or watch") hx hb hlt hown hts hlocks htab hZ hSR hW (hl.1.trans hml.symm) (by decide +kernel) (by decide +kernel) q4_22 q1_20 (by decide +kernel) xat_3 (by decide) rfl dX8_requireIndex_9 dX8_requireIndex_12 dX8_requireIndex_13 dX8_requireIndex_16 dX8_requireIndex_19 (Nat.le_of_ble_eq_true rfl) (Nat.le_of_ble_eq_true rfl) (Nat.le_of_ble_eq_true rfl) (Nat.le_of_ble_eq_true rfl) (Nat.le_of_ble_eq_true rfl) (Nat.le_of_ble_eq_true rfl)
noncomputable def f_X8_requireRowsInGroup (n_views_totals_sizes : Nat) (views_totals_sizes : Nat → Int32) (v1 : Int32) : Option (Nat) := (k_b1 (f_X6_totals) fun _u => (k_b1 (f_X3_sizeOf n_views_totals_sizes views_totals_sizes v1) fun r_4 => (if (0 : Int32) < r_4 then (some (0)) else (some (4)))))
abbrev rm_X8_requireRowsInGroup : Room := { frames := 6, cells := 1, slots := 6, locals := 92 }
theorem pd_X8_requireRowsInGroup : k_D1 yX8_requireRowsInGroup 1 := by decide +kernel
set_option maxHeartbeats 4000000 in
set_option maxRecDepth 100000 in
theorem m_X8_requireRowsInGroup (l : Launch) (hlt : l.stackTraces = false) (D : va_G) (cA : Nat → ClassId) (sz : Nat) (a_this a_views a_views_totals a_views_totals_sizes : Nat) (w_tables : Nat) (w_planned : Nat) (w_history : Nat) (w_filter : Nat) (w_reader : Nat) (w_watches : Nat) (w_savedTables : Nat) (w_savedFilter : Nat) (w_savedWatches : Nat) (w_views_join : Nat) (w_views_oldJoin : Nat) (w_views_oldTotals : Nat) (w_views_change : Nat) (w_views_dangling : Nat) (w_views_tally : Nat) (w_views_totals_sums : Nat) (n_views_totals_sizes : Nat) (changesInBatch : Int32) (fault : Int32) (isSaved : Int32) (views_totals_sizes : Nat → Int32) (v1 : Int32) (exc_ : Nat) (h : f_X8_requireRowsInGroup n_views_totals_sizes views_totals_sizes v1 = some (exc_)) : k_MX l yX8_requireRowsInGroup prog_1_method_45_code 2 (none : Option Jvm.ClassFile.FieldType) rm_X8_requireRowsInGroup D cA [.ref a_this, .int v1] [(a_this, .inr (8, [.ref w_tables, .ref w_planned, .int changesInBatch, .ref w_history, .ref w_filter, .ref w_reader, .int fault, .ref w_watches, .ref a_views, .int isSaved, .ref w_savedTables, .ref w_savedFilter, .ref w_savedWatches])), (a_views, .inr (6, [.ref w_views_join, .ref w_views_oldJoin, .ref a_views_totals, .ref w_views_oldTotals, .ref w_views_change, .ref w_views_dangling, .ref w_views_tally])), (a_views_totals, .inr (3, [.ref a_views_totals_sizes, .ref w_views_totals_sums])), (a_views_totals_sizes, .inl (cA 0, n_views_totals_sizes, .inl views_totals_sizes))] sz exc_ (none) [(a_this, .inr (8, [.ref w_tables, .ref w_planned, .int changesInBatch, .ref w_history, .ref w_filter, .ref w_reader, .int fault, .ref w_watches, .ref a_views, .int isSaved, .ref w_savedTables, .ref w_savedFilter, .ref w_savedWatches])), (a_views, .inr (6, [.ref w_views_join, .ref w_views_oldJoin, .ref a_views_totals, .ref w_views_oldTotals, .ref w_views_change, .ref w_views_dangling, .ref w_views_tally])), (a_views_totals, .inr (3, [.ref a_views_totals_sizes, .ref w_views_totals_sums])), (a_views_totals_sizes, .inl (cA 0, n_views_totals_sizes, .inl views_totals_sizes))] 1 6 := by
  refine k_ofWX (by decide) (Nat.le_of_ble_eq_true rfl) ?_
  intro p e s m below meth c A ls hx hb hr hml hts hown hlocks hB hA hW hl htab hZ hSR
  have hl : lv_has ls 2 [(0, .ref a_this), (1, .int v1)] := hl
  obtain ⟨H, eH⟩ : ∃ H, H = s.heap := ⟨_, rfl⟩
  obtain ⟨locs, eL⟩ : ∃ L : List Loc, L = [] := ⟨_, rfl⟩
  have hW : k_Wd D A s.heap [(a_this, .inr (8, [.ref w_tables, .ref w_planned, .int changesInBatch, .ref w_history, .ref w_filter, .ref w_reader, .int fault, .ref w_watches, .ref a_views, .int isSaved, .ref w_savedTables, .ref w_savedFilter, .ref w_savedWatches])), (a_views, .inr (6, [.ref w_views_join, .ref w_views_oldJoin, .ref a_views_totals, .ref w_views_oldTotals, .ref w_views_change, .ref w_views_dangling, .ref w_views_tally])), (a_views_totals, .inr (3, [.ref a_views_totals_sizes, .ref w_views_totals_sums])), (a_views_totals_sizes, .inl (cA 0, n_views_totals_sizes, .inl views_totals_sizes))] H locs := by rw [eH, eL]; exact hW
  suffices K : W p l e rm_X8_requireRowsInGroup s m [.ref a_this, .int v1].toArray below meth c H locs 0 0 (vx_MQ below (k_QR exc_ (none) D [(a_this, .inr (8, [.ref w_tables, .ref w_planned, .int changesInBatch, .ref w_history, .ref w_filter, .ref w_reader, .int fault, .ref w_watches, .ref a_views, .int isSaved, .ref w_savedTables, .ref w_savedFilter, .ref w_savedWatches])), (a_views, .inr (6, [.ref w_views_join, .ref w_views_oldJoin, .ref a_views_totals, .ref w_views_oldTotals, .ref w_views_change, .ref w_views_dangling, .ref w_views_tally])), (a_views_totals, .inr (3, [.ref a_views_totals_sizes, .ref w_views_totals_sums])), (a_views_totals_sizes, .inl (cA 0, n_views_totals_sizes, .inl views_totals_sizes))] A) (k_XC exc_ D [(a_this, .inr (8, [.ref w_tables, .ref w_planned, .int changesInBatch, .ref w_history, .ref w_filter, .ref w_reader, .int fault, .ref w_watches, .ref a_views, .int isSaved, .ref w_savedTables, .ref w_savedFilter, .ref w_savedWatches])), (a_views, .inr (6, [.ref w_views_join, .ref w_views_oldJoin, .ref a_views_totals, .ref w_views_oldTotals, .ref w_views_change, .ref w_views_dangling, .ref w_views_tally])), (a_views_totals, .inr (3, [.ref a_views_totals_sizes, .ref w_views_totals_sums])), (a_views_totals_sizes, .inl (cA 0, n_views_totals_sizes, .inl views_totals_sizes))] A) [.ref a_this, .int v1].toArray s 1 6 A) (F0 m 0 ls []) by rw [eH, eL] at K; exact K
  clear eH eL
  refine lv_aload_n hx hb dX8_requireRowsInGroup_0 rfl (lv_at hl 0 rfl) ?_
  refine va_get (D := D) (ci := 8) (v := .ref a_views) (C := RX8) (T := TX8) (N := 13) hx hb hts iX8 hown hB.1 hW.1 0 rfl rfl 8 (by decide) (hts _ q1_204) (fun _ h9 => h9) rfl dX8_requireRowsInGroup_1 ?_
  obtain ⟨_u, h_1, h⟩ := k_bE1 h
  refine k_callV (C := RX6) (ws' := [(a_this, .inr (8, [.ref w_tables, .ref w_planned, .int changesInBatch, .ref w_history, .ref w_filter, .ref w_reader, .int fault, .ref w_watches, .ref a_views, .int isSaved, .ref w_savedTables, .ref w_savedFilter, .ref w_savedWatches])), (a_views, .inr (6, [.ref w_views_join, .ref w_views_oldJoin, .ref a_views_totals, .ref w_views_oldTotals, .ref w_views_change, .ref w_views_dangling, .ref w_views_tally])), (a_views_totals, .inr (3, [.ref a_views_totals_sizes, .ref w_views_totals_sums])), (a_views_totals_sizes, .inl (cA 0, n_views_totals_sizes, .inl views_totals_sizes))]) (As := []) (rest := []) (b := a_views) (m_X6_totals l D cA H.size a_views w_views_join w_views_oldJoin a_views_totals w_views_oldTotals w_views_change w_views_dangling w_views_tally h_1) hx hb hml hown hts hB hA hW hl.1 q2_210 q1_8 q2_208 q2_209 q2_207 pd_X6_totals ⟨rfl, rfl, Nat.le_of_ble_eq_true rfl, Nat.le_of_ble_eq_true rfl⟩ rfl 1 rfl rfl [1] [0, 2, 3] ⟨rfl, trivial⟩ rfl ⟨⟨rfl, trivial⟩, ⟨rfl, rfl, rfl, trivial⟩, rfl⟩ rfl rfl (Nat.le_of_ble_eq_true rfl) ⟨Nat.le_of_ble_eq_true rfl, Nat.le_of_ble_eq_true rfl⟩ dX8_requireRowsInGroup_4 (st1 := [.ref a_views_totals]) rfl (fun H locs hW => ?_)
  refine lv_iload_n hx hb dX8_requireRowsInGroup_7 rfl (lv_at hl 1 rfl) ?_
  obtain ⟨r_4, h_3, h⟩ := k_bE1 h
  refine k_callV (C := RX3) (ws' := [(a_this, .inr (8, [.ref w_tables, .ref w_planned, .int changesInBatch, .ref w_history, .ref w_filter, .ref w_reader, .int fault, .ref w_watches, .ref a_views, .int isSaved, .ref w_savedTables, .ref w_savedFilter, .ref w_savedWatches])), (a_views, .inr (6, [.ref w_views_join, .ref w_views_oldJoin, .ref a_views_totals, .ref w_views_oldTotals, .ref w_views_change, .ref w_views_dangling, .ref w_views_tally])), (a_views_totals, .inr (3, [.ref a_views_totals_sizes, .ref w_views_totals_sums])), (a_views_totals_sizes, .inl (cA 0, n_views_totals_sizes, .inl views_totals_sizes))]) (As := [.int v1]) (rest := []) (b := a_views_totals) (m_X3_sizeOf l D cA H.size a_views_totals a_views_totals_sizes w_views_totals_sums n_views_totals_sizes views_totals_sizes v1 r_4 h_3) hx hb hml hown hts hB hA hW hl.1 q2_218 q1_9 q2_216 q2_217 q4_69 pd_X3_sizeOf ⟨rfl, rfl, Nat.le_of_ble_eq_true rfl, Nat.le_of_ble_eq_true rfl⟩ rfl 2 rfl rfl [2, 3] [0, 1] ⟨rfl, rfl, trivial⟩ rfl ⟨⟨rfl, rfl, trivial⟩, ⟨rfl, rfl, trivial⟩, rfl⟩ rfl rfl (Nat.le_of_ble_eq_true rfl) ⟨Nat.le_of_ble_eq_true rfl, Nat.le_of_ble_eq_true rfl⟩ dX8_requireRowsInGroup_8 (st1 := [.int r_4]) rfl (fun H locs hW => ?_)
  refine lv_if_gt (tgt := 25) hx hb dX8_requireRowsInGroup_11 (by decide) (fun c_6 => ?_) (fun c_6 => ?_)
  · have h := k_t c_6 h
    have z0 := k_inj1 h
    rw [← z0]
    refine W.widen (k := 1) (n := 6) (Nat.le_of_ble_eq_true rfl) (Nat.le_of_ble_eq_true rfl) ?_
    refine vx_ret ?_
    exact W.vret hx hb hr (fun t ht hWm => ⟨rfl, rfl, by rw [ht]; exact hW.1, hW.2.2.F ht⟩) hW.2.2.2.2 dX8_requireRowsInGroup_25
  · have h := k_f c_6 h
    have z0 := k_inj1 h
    rw [← z0]
    exact k_throw4W (text := "the group has no rows") hx hb hlt hown hts hlocks htab hZ hSR hW (hl.1.trans hml.symm) (by decide +kernel) dX8_requireRowsInGroup_14 dX8_requireRowsInGroup_17 dX8_requireRowsInGroup_18 dX8_requireRowsInGroup_21 dX8_requireRowsInGroup_24 (Nat.le_of_ble_eq_true rfl) (Nat.le_of_ble_eq_true rfl) (Nat.le_of_ble_eq_true rfl) (Nat.le_of_ble_eq_true rfl) (Nat.le_of_ble_eq_true rfl) (Nat.le_of_ble_eq_true rfl)
