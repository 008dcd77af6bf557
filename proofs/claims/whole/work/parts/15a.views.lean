noncomputable def f_X6_join : Option (Unit) := (some ())
abbrev rm_X6_join : Room := { frames := 0, cells := 0, slots := 0, locals := 0 }
theorem pd_X6_join : k_D1 yX6_join 0 := by decide +kernel
set_option maxHeartbeats 4000000 in
set_option maxRecDepth 100000 in
theorem m_X6_join (l : Launch) (D : va_G) (cA : Nat → ClassId) (sz : Nat) (a_this : Nat) (w_join : Nat) (w_oldJoin : Nat) (w_totals : Nat) (w_oldTotals : Nat) (w_change : Nat) (w_dangling : Nat) (w_tally : Nat) (h : f_X6_join = some ()) : k_M l yX6_join prog_8_method_2_code 1 (some (.object "ViewMaintainer$CountedRows")) rm_X6_join D cA [.ref a_this] [(a_this, .inr (6, [.ref w_join, .ref w_oldJoin, .ref w_totals, .ref w_oldTotals, .ref w_change, .ref w_dangling, .ref w_tally]))] sz (some (.ref w_join)) [(a_this, .inr (6, [.ref w_join, .ref w_oldJoin, .ref w_totals, .ref w_oldTotals, .ref w_change, .ref w_dangling, .ref w_tally]))] := by
  refine k_ofW (by decide) (Nat.le_of_ble_eq_true rfl) ?_
  intro p e s m below meth c A ls hx hb hr hml hts hown hlocks hB hA hW hl
  have hl : lv_has ls 1 [(0, .ref a_this)] := hl
  obtain ⟨H, eH⟩ : ∃ H, H = s.heap := ⟨_, rfl⟩
  obtain ⟨locs, eL⟩ : ∃ L : List Loc, L = [] := ⟨_, rfl⟩
  have hW : k_Wd D A s.heap [(a_this, .inr (6, [.ref w_join, .ref w_oldJoin, .ref w_totals, .ref w_oldTotals, .ref w_change, .ref w_dangling, .ref w_tally]))] H locs := by rw [eH, eL]; exact hW
  suffices K : W p l e rm_X6_join s m [.ref a_this].toArray below meth c H locs 0 0 (MQ below (k_Q (some (.ref w_join)) D [(a_this, .inr (6, [.ref w_join, .ref w_oldJoin, .ref w_totals, .ref w_oldTotals, .ref w_change, .ref w_dangling, .ref w_tally]))] A) [.ref a_this].toArray s 0 0 A) (F0 m 0 ls []) by rw [eH, eL] at K; exact K
  clear eH eL
  refine lv_aload_n hx hb dX6_join_0 rfl (lv_at hl 0 rfl) ?_
  refine va_get (D := D) (ci := 6) (v := .ref w_join) (C := RX6) (T := TX6) (N := 7) hx hb hts iX6 hown hB.1 hW.1 0 rfl rfl 0 (by decide) (hts _ q1_174) (fun _ h9 => h9) rfl dX6_join_1 ?_
  exact W.aret hx hb hr (Or.inl ⟨_, rfl⟩) (Or.inr ⟨_, rfl⟩) (fun t ht hWm => ⟨rfl, by rw [ht]; exact hW.1, hW.2.2.F ht⟩) hW.2.2.2.2 dX6_join_4
noncomputable def f_X6_totals : Option (Unit) := (some ())
abbrev rm_X6_totals : Room := { frames := 0, cells := 0, slots := 0, locals := 0 }
theorem pd_X6_totals : k_D1 yX6_totals 0 := by decide +kernel
set_option maxHeartbeats 4000000 in
set_option maxRecDepth 100000 in
theorem m_X6_totals (l : Launch) (D : va_G) (cA : Nat → ClassId) (sz : Nat) (a_this : Nat) (w_join : Nat) (w_oldJoin : Nat) (w_totals : Nat) (w_oldTotals : Nat) (w_change : Nat) (w_dangling : Nat) (w_tally : Nat) (h : f_X6_totals = some ()) : k_M l yX6_totals prog_8_method_3_code 1 (some (.object "ViewMaintainer$GroupTotals")) rm_X6_totals D cA [.ref a_this] [(a_this, .inr (6, [.ref w_join, .ref w_oldJoin, .ref w_totals, .ref w_oldTotals, .ref w_change, .ref w_dangling, .ref w_tally]))] sz (some (.ref w_totals)) [(a_this, .inr (6, [.ref w_join, .ref w_oldJoin, .ref w_totals, .ref w_oldTotals, .ref w_change, .ref w_dangling, .ref w_tally]))] := by
  refine k_ofW (by decide) (Nat.le_of_ble_eq_true rfl) ?_
  intro p e s m below meth c A ls hx hb hr hml hts hown hlocks hB hA hW hl
  have hl : lv_has ls 1 [(0, .ref a_this)] := hl
  obtain ⟨H, eH⟩ : ∃ H, H = s.heap := ⟨_, rfl⟩
  obtain ⟨locs, eL⟩ : ∃ L : List Loc, L = [] := ⟨_, rfl⟩
  have hW : k_Wd D A s.heap [(a_this, .inr (6, [.ref w_join, .ref w_oldJoin, .ref w_totals, .ref w_oldTotals, .ref w_change, .ref w_dangling, .ref w_tally]))] H locs := by rw [eH, eL]; exact hW
  suffices K : W p l e rm_X6_totals s m [.ref a_this].toArray below meth c H locs 0 0 (MQ below (k_Q (some (.ref w_totals)) D [(a_this, .inr (6, [.ref w_join, .ref w_oldJoin, .ref w_totals, .ref w_oldTotals, .ref w_change, .ref w_dangling, .ref w_tally]))] A) [.ref a_this].toArray s 0 0 A) (F0 m 0 ls []) by rw [eH, eL] at K; exact K
  clear eH eL
  refine lv_aload_n hx hb dX6_totals_0 rfl (lv_at hl 0 rfl) ?_
  refine va_get (D := D) (ci := 6) (v := .ref w_totals) (C := RX6) (T := TX6) (N := 7) hx hb hts iX6 hown hB.1 hW.1 0 rfl rfl 2 (by decide) (hts _ q1_176) (fun _ h9 => h9) rfl dX6_totals_1 ?_
  exact W.aret hx hb hr (Or.inl ⟨_, rfl⟩) (Or.inr ⟨_, rfl⟩) (fun t ht hWm => ⟨rfl, by rw [ht]; exact hW.1, hW.2.2.F ht⟩) hW.2.2.2.2 dX6_totals_4
noncomputable def f_X6_oldTotals : Option (Unit) := (some ())
abbrev rm_X6_oldTotals : Room := { frames := 0, cells := 0, slots := 0, locals := 0 }
theorem pd_X6_oldTotals : k_D1 yX6_oldTotals 0 := by decide +kernel
set_option maxHeartbeats 4000000 in
set_option maxRecDepth 100000 in
theorem m_X6_oldTotals (l : Launch) (D : va_G) (cA : Nat → ClassId) (sz : Nat) (a_this : Nat) (w_join : Nat) (w_oldJoin : Nat) (w_totals : Nat) (w_oldTotals : Nat) (w_change : Nat) (w_dangling : Nat) (w_tally : Nat) (h : f_X6_oldTotals = some ()) : k_M l yX6_oldTotals prog_8_method_4_code 1 (some (.object "ViewMaintainer$GroupTotals")) rm_X6_oldTotals D cA [.ref a_this] [(a_this, .inr (6, [.ref w_join, .ref w_oldJoin, .ref w_totals, .ref w_oldTotals, .ref w_change, .ref w_dangling, .ref w_tally]))] sz (some (.ref w_oldTotals)) [(a_this, .inr (6, [.ref w_join, .ref w_oldJoin, .ref w_totals, .ref w_oldTotals, .ref w_change, .ref w_dangling, .ref w_tally]))] := by
  refine k_ofW (by decide) (Nat.le_of_ble_eq_true rfl) ?_
  intro p e s m below meth c A ls hx hb hr hml hts hown hlocks hB hA hW hl
  have hl : lv_has ls 1 [(0, .ref a_this)] := hl
  obtain ⟨H, eH⟩ : ∃ H, H = s.heap := ⟨_, rfl⟩
  obtain ⟨locs, eL⟩ : ∃ L : List Loc, L = [] := ⟨_, rfl⟩
  have hW : k_Wd D A s.heap [(a_this, .inr (6, [.ref w_join, .ref w_oldJoin, .ref w_totals, .ref w_oldTotals, .ref w_change, .ref w_dangling, .ref w_tally]))] H locs := by rw [eH, eL]; exact hW
  suffices K : W p l e rm_X6_oldTotals s m [.ref a_this].toArray below meth c H locs 0 0 (MQ below (k_Q (some (.ref w_oldTotals)) D [(a_this, .inr (6, [.ref w_join, .ref w_oldJoin, .ref w_totals, .ref w_oldTotals, .ref w_change, .ref w_dangling, .ref w_tally]))] A) [.ref a_this].toArray s 0 0 A) (F0 m 0 ls []) by rw [eH, eL] at K; exact K
  clear eH eL
  refine lv_aload_n hx hb dX6_oldTotals_0 rfl (lv_at hl 0 rfl) ?_
  refine va_get (D := D) (ci := 6) (v := .ref w_oldTotals) (C := RX6) (T := TX6) (N := 7) hx hb hts iX6 hown hB.1 hW.1 0 rfl rfl 3 (by decide) (hts _ q1_177) (fun _ h9 => h9) rfl dX6_oldTotals_1 ?_
  exact W.aret hx hb hr (Or.inl ⟨_, rfl⟩) (Or.inr ⟨_, rfl⟩) (fun t ht hWm => ⟨rfl, by rw [ht]; exact hW.1, hW.2.2.F ht⟩) hW.2.2.2.2 dX6_oldTotals_4
noncomputable def f_X6_change : Option (Unit) := (some ())
abbrev rm_X6_change : Room := { frames := 0, cells := 0, slots := 0, locals := 0 }
theorem pd_X6_change : k_D1 yX6_change 0 := by decide +kernel
set_option maxHeartbeats 4000000 in
set_option maxRecDepth 100000 in
theorem m_X6_change (l : Launch) (D : va_G) (cA : Nat → ClassId) (sz : Nat) (a_this : Nat) (w_join : Nat) (w_oldJoin : Nat) (w_totals : Nat) (w_oldTotals : Nat) (w_change : Nat) (w_dangling : Nat) (w_tally : Nat) (h : f_X6_change = some ()) : k_M l yX6_change prog_8_method_5_code 1 (some (.object "ViewMaintainer$CountedRows")) rm_X6_change D cA [.ref a_this] [(a_this, .inr (6, [.ref w_join, .ref w_oldJoin, .ref w_totals, .ref w_oldTotals, .ref w_change, .ref w_dangling, .ref w_tally]))] sz (some (.ref w_change)) [(a_this, .inr (6, [.ref w_join, .ref w_oldJoin, .ref w_totals, .ref w_oldTotals, .ref w_change, .ref w_dangling, .ref w_tally]))] := by
  refine k_ofW (by decide) (Nat.le_of_ble_eq_true rfl) ?_
  intro p e s m below meth c A ls hx hb hr hml hts hown hlocks hB hA hW hl
  have hl : lv_has ls 1 [(0, .ref a_this)] := hl
  obtain ⟨H, eH⟩ : ∃ H, H = s.heap := ⟨_, rfl⟩
  obtain ⟨locs, eL⟩ : ∃ L : List Loc, L = [] := ⟨_, rfl⟩
  have hW : k_Wd D A s.heap [(a_this, .inr (6, [.ref w_join, .ref w_oldJoin, .ref w_totals, .ref w_oldTotals, .ref w_change, .ref w_dangling, .ref w_tally]))] H locs := by rw [eH, eL]; exact hW
  suffices K : W p l e rm_X6_change s m [.ref a_this].toArray below meth c H locs 0 0 (MQ below (k_Q (some (.ref w_change)) D [(a_this, .inr (6, [.ref w_join, .ref w_oldJoin, .ref w_totals, .ref w_oldTotals, .ref w_change, .ref w_dangling, .ref w_tally]))] A) [.ref a_this].toArray s 0 0 A) (F0 m 0 ls []) by rw [eH, eL] at K; exact K
  clear eH eL
  refine lv_aload_n hx hb dX6_change_0 rfl (lv_at hl 0 rfl) ?_
  refine va_get (D := D) (ci := 6) (v := .ref w_change) (C := RX6) (T := TX6) (N := 7) hx hb hts iX6 hown hB.1 hW.1 0 rfl rfl 4 (by decide) (hts _ q1_178) (fun _ h9 => h9) rfl dX6_change_1 ?_
  exact W.aret hx hb hr (Or.inl ⟨_, rfl⟩) (Or.inr ⟨_, rfl⟩) (fun t ht hWm => ⟨rfl, by rw [ht]; exact hW.1, hW.2.2.F ht⟩) hW.2.2.2.2 dX6_change_4
noncomputable def f_X6_dangling : Option (Unit) := (some ())
abbrev rm_X6_dangling : Room := { frames := 0, cells := 0, slots := 0, locals := 0 }
theorem pd_X6_dangling : k_D1 yX6_dangling 0 := by decide +kernel
set_option maxHeartbeats 4000000 in
set_option maxRecDepth 100000 in
theorem m_X6_dangling (l : Launch) (D : va_G) (cA : Nat → ClassId) (sz : Nat) (a_this : Nat) (w_join : Nat) (w_oldJoin : Nat) (w_totals : Nat) (w_oldTotals : Nat) (w_change : Nat) (w_dangling : Nat) (w_tally : Nat) (h : f_X6_dangling = some ()) : k_M l yX6_dangling prog_8_method_6_code 1 (some (.object "ViewMaintainer$CountedRows")) rm_X6_dangling D cA [.ref a_this] [(a_this, .inr (6, [.ref w_join, .ref w_oldJoin, .ref w_totals, .ref w_oldTotals, .ref w_change, .ref w_dangling, .ref w_tally]))] sz (some (.ref w_dangling)) [(a_this, .inr (6, [.ref w_join, .ref w_oldJoin, .ref w_totals, .ref w_oldTotals, .ref w_change, .ref w_dangling, .ref w_tally]))] := by
  refine k_ofW (by decide) (Nat.le_of_ble_eq_true rfl) ?_
  intro p e s m below meth c A ls hx hb hr hml hts hown hlocks hB hA hW hl
  have hl : lv_has ls 1 [(0, .ref a_this)] := hl
  obtain ⟨H, eH⟩ : ∃ H, H = s.heap := ⟨_, rfl⟩
  obtain ⟨locs, eL⟩ : ∃ L : List Loc, L = [] := ⟨_, rfl⟩
  have hW : k_Wd D A s.heap [(a_this, .inr (6, [.ref w_join, .ref w_oldJoin, .ref w_totals, .ref w_oldTotals, .ref w_change, .ref w_dangling, .ref w_tally]))] H locs := by rw [eH, eL]; exact hW
  suffices K : W p l e rm_X6_dangling s m [.ref a_this].toArray below meth c H locs 0 0 (MQ below (k_Q (some (.ref w_dangling)) D [(a_this, .inr (6, [.ref w_join, .ref w_oldJoin, .ref w_totals, .ref w_oldTotals, .ref w_change, .ref w_dangling, .ref w_tally]))] A) [.ref a_this].toArray s 0 0 A) (F0 m 0 ls []) by rw [eH, eL] at K; exact K
  clear eH eL
  refine lv_aload_n hx hb dX6_dangling_0 rfl (lv_at hl 0 rfl) ?_
  refine va_get (D := D) (ci := 6) (v := .ref w_dangling) (C := RX6) (T := TX6) (N := 7) hx hb hts iX6 hown hB.1 hW.1 0 rfl rfl 5 (by decide) (hts _ q1_179) (fun _ h9 => h9) rfl dX6_dangling_1 ?_
  exact W.aret hx hb hr (Or.inl ⟨_, rfl⟩) (Or.inr ⟨_, rfl⟩) (fun t ht hWm => ⟨rfl, by rw [ht]; exact hW.1, hW.2.2.F ht⟩) hW.2.2.2.2 dX6_dangling_4
noncomputable def f_X6_swapOldAndNew : Option (Unit) := (some ())
abbrev rm_X6_swapOldAndNew : Room := { frames := 0, cells := 0, slots := 0, locals := 0 }
theorem pd_X6_swapOldAndNew : k_D1 yX6_swapOldAndNew 0 := by decide +kernel
set_option maxHeartbeats 4000000 in
set_option maxRecDepth 100000 in
theorem m_X6_swapOldAndNew (l : Launch) (D : va_G) (cA : Nat → ClassId) (sz : Nat) (a_this : Nat) (w_join : Nat) (w_oldJoin : Nat) (w_totals : Nat) (w_oldTotals : Nat) (w_change : Nat) (w_dangling : Nat) (w_tally : Nat) (h : f_X6_swapOldAndNew = some ()) : k_M l yX6_swapOldAndNew prog_8_method_12_code 3 (none : Option Jvm.ClassFile.FieldType) rm_X6_swapOldAndNew D cA [.ref a_this] [(a_this, .inr (6, [.ref w_join, .ref w_oldJoin, .ref w_totals, .ref w_oldTotals, .ref w_change, .ref w_dangling, .ref w_tally]))] sz (none) [(a_this, .inr (6, [.ref w_oldJoin, .ref w_join, .ref w_oldTotals, .ref w_totals, .ref w_change, .ref w_dangling, .ref w_tally]))] := by
  refine k_ofW (by decide) (Nat.le_of_ble_eq_true rfl) ?_
  intro p e s m below meth c A ls hx hb hr hml hts hown hlocks hB hA hW hl
  have hl : lv_has ls 3 [(0, .ref a_this)] := hl
  obtain ⟨H, eH⟩ : ∃ H, H = s.heap := ⟨_, rfl⟩
  obtain ⟨locs, eL⟩ : ∃ L : List Loc, L = [] := ⟨_, rfl⟩
  have hW : k_Wd D A s.heap [(a_this, .inr (6, [.ref w_join, .ref w_oldJoin, .ref w_totals, .ref w_oldTotals, .ref w_change, .ref w_dangling, .ref w_tally]))] H locs := by rw [eH, eL]; exact hW
  suffices K : W p l e rm_X6_swapOldAndNew s m [.ref a_this].toArray below meth c H locs 0 0 (MQ below (k_Q (none) D [(a_this, .inr (6, [.ref w_oldJoin, .ref w_join, .ref w_oldTotals, .ref w_totals, .ref w_change, .ref w_dangling, .ref w_tally]))] A) [.ref a_this].toArray s 0 0 A) (F0 m 0 ls []) by rw [eH, eL] at K; exact K
  clear eH eL
  refine lv_aload_n hx hb dX6_swapOldAndNew_0 rfl (lv_at hl 0 rfl) ?_
  refine va_get (D := D) (ci := 6) (v := .ref w_oldJoin) (C := RX6) (T := TX6) (N := 7) hx hb hts iX6 hown hB.1 hW.1 0 rfl rfl 1 (by decide) (hts _ q1_175) (fun _ h9 => h9) rfl dX6_swapOldAndNew_1 ?_
  refine lv_astore_n (lv' := [(1, .ref w_oldJoin), (0, .ref a_this)]) hx hb dX6_swapOldAndNew_4 rfl hl (by decide) rfl (fun ls hl => ?_)
  refine lv_aload_n hx hb dX6_swapOldAndNew_5 rfl (lv_at hl 1 rfl) ?_
  refine lv_aload_n hx hb dX6_swapOldAndNew_6 rfl (lv_at hl 1 rfl) ?_
  refine va_get (D := D) (ci := 6) (v := .ref w_join) (C := RX6) (T := TX6) (N := 7) hx hb hts iX6 hown hB.1 hW.1 0 rfl rfl 0 (by decide) (hts _ q1_174) (fun _ h9 => h9) rfl dX6_swapOldAndNew_7 ?_
  refine va_put (D := D) (ci := 6) (v := .ref w_join) (ty := .object "ViewMaintainer$CountedRows") (C := RX6) (T := TX6) (N := 7) hx hb hts iX6 tyX6 tyX6_ok nmX6 hown hB.1 hW.1 hW.2.1 hW.2.2 0 rfl rfl 1 (by decide) (hts _ q1_175) (fun _ h9 => h9) rfl (tyX6_ok 1 (by decide)) rfl rfl (Nat.le_of_ble_eq_true rfl) dX6_swapOldAndNew_10 (fun H locs hP hD hS => ?_)
  have hW : k_Wd D A s.heap [(a_this, .inr (6, [.ref w_join, .ref w_join, .ref w_totals, .ref w_oldTotals, .ref w_change, .ref w_dangling, .ref w_tally]))] H locs := ⟨hP, hD, hS⟩
  refine lv_aload_n hx hb dX6_swapOldAndNew_13 rfl (lv_at hl 1 rfl) ?_
  refine lv_aload_n hx hb dX6_swapOldAndNew_14 rfl (lv_at hl 0 rfl) ?_
  refine va_put (D := D) (ci := 6) (v := .ref w_oldJoin) (ty := .object "ViewMaintainer$CountedRows") (C := RX6) (T := TX6) (N := 7) hx hb hts iX6 tyX6 tyX6_ok nmX6 hown hB.1 hW.1 hW.2.1 hW.2.2 0 rfl rfl 0 (by decide) (hts _ q1_174) (fun _ h9 => h9) rfl (tyX6_ok 0 (by decide)) rfl rfl (Nat.le_of_ble_eq_true rfl) dX6_swapOldAndNew_15 (fun H locs hP hD hS => ?_)
  have hW : k_Wd D A s.heap [(a_this, .inr (6, [.ref w_oldJoin, .ref w_join, .ref w_totals, .ref w_oldTotals, .ref w_change, .ref w_dangling, .ref w_tally]))] H locs := ⟨hP, hD, hS⟩
  refine lv_aload_n hx hb dX6_swapOldAndNew_18 rfl (lv_at hl 1 rfl) ?_
  refine va_get (D := D) (ci := 6) (v := .ref w_oldTotals) (C := RX6) (T := TX6) (N := 7) hx hb hts iX6 hown hB.1 hW.1 0 rfl rfl 3 (by decide) (hts _ q1_177) (fun _ h9 => h9) rfl dX6_swapOldAndNew_19 ?_
  refine lv_astore_n (lv' := [(2, .ref w_oldTotals), (1, .ref w_oldJoin), (0, .ref a_this)]) hx hb dX6_swapOldAndNew_22 rfl hl (by decide) rfl (fun ls hl => ?_)
  refine lv_aload_n hx hb dX6_swapOldAndNew_23 rfl (lv_at hl 2 rfl) ?_
  refine lv_aload_n hx hb dX6_swapOldAndNew_24 rfl (lv_at hl 2 rfl) ?_
  refine va_get (D := D) (ci := 6) (v := .ref w_totals) (C := RX6) (T := TX6) (N := 7) hx hb hts iX6 hown hB.1 hW.1 0 rfl rfl 2 (by decide) (hts _ q1_176) (fun _ h9 => h9) rfl dX6_swapOldAndNew_25 ?_
  refine va_put (D := D) (ci := 6) (v := .ref w_totals) (ty := .object "ViewMaintainer$GroupTotals") (C := RX6) (T := TX6) (N := 7) hx hb hts iX6 tyX6 tyX6_ok nmX6 hown hB.1 hW.1 hW.2.1 hW.2.2 0 rfl rfl 3 (by decide) (hts _ q1_177) (fun _ h9 => h9) rfl (tyX6_ok 3 (by decide)) rfl rfl (Nat.le_of_ble_eq_true rfl) dX6_swapOldAndNew_28 (fun H locs hP hD hS => ?_)
  have hW : k_Wd D A s.heap [(a_this, .inr (6, [.ref w_oldJoin, .ref w_join, .ref w_totals, .ref w_totals, .ref w_change, .ref w_dangling, .ref w_tally]))] H locs := ⟨hP, hD, hS⟩
  refine lv_aload_n hx hb dX6_swapOldAndNew_31 rfl (lv_at hl 2 rfl) ?_
  refine lv_aload_n hx hb dX6_swapOldAndNew_32 rfl (lv_at hl 0 rfl) ?_
  refine va_put (D := D) (ci := 6) (v := .ref w_oldTotals) (ty := .object "ViewMaintainer$GroupTotals") (C := RX6) (T := TX6) (N := 7) hx hb hts iX6 tyX6 tyX6_ok nmX6 hown hB.1 hW.1 hW.2.1 hW.2.2 0 rfl rfl 2 (by decide) (hts _ q1_176) (fun _ h9 => h9) rfl (tyX6_ok 2 (by decide)) rfl rfl (Nat.le_of_ble_eq_true rfl) dX6_swapOldAndNew_33 (fun H locs hP hD hS => ?_)
  have hW : k_Wd D A s.heap [(a_this, .inr (6, [.ref w_oldJoin, .ref w_join, .ref w_oldTotals, .ref w_totals, .ref w_change, .ref w_dangling, .ref w_tally]))] H locs := ⟨hP, hD, hS⟩
  exact W.vret hx hb hr (fun t ht hWm => ⟨rfl, by rw [ht]; exact hW.1, hW.2.2.F ht⟩) hW.2.2.2.2 dX6_swapOldAndNew_36
noncomputable def f_X6_tallyProducts_81 (fu : Nat) (n_join_codes : Nat) (n_join_counts : Nat) (n_tally : Nat) (join_size : Int32) (join_codes : Nat → Int32) (join_counts : Nat → Int32) (v1 : Int32) (k10 : Int32 → (Nat → Int32) → Option ((Nat → Int32))) (x2 : Int32) (tally : Nat → Int32) : Option ((Nat → Int32)) := (k_let (x2 + 1) fun x_1 => (k10 x_1 tally))
noncomputable def f_X6_tallyProducts_10 (fu : Nat) (n_join_codes : Nat) (n_join_counts : Nat) (n_tally : Nat) (join_size : Int32) (join_codes : Nat → Int32) (join_counts : Nat → Int32) (v1 : Int32) : Nat → Int32 → (Nat → Int32) → Option ((Nat → Int32))
  | 0 => fun _ _ => none
  | n + 1 => fun x2 tally => (k_b1 (f_X0_size join_size) fun r_3 => (if r_3 ≤ x2 then (some (tally)) else (k_b1 (f_X0_codeAt n_join_codes join_size join_codes x2) fun r_7 => (k_b1 (f_X8_joinProduct r_7) fun r_10 => (k_let (r_10 + 891) fun x_12 => k_b1 (f_X8_joinGroup r_7) fun r_14 => (if r_14 = v1 then (if x_12 < 0 then ((f_X6_tallyProducts_81 fu n_join_codes n_join_counts n_tally join_size join_codes join_counts v1 (f_X6_tallyProducts_10 fu n_join_codes n_join_counts n_tally join_size join_codes join_counts v1 n) x2 tally)) else (if (nI n_tally) ≤ x_12 then ((f_X6_tallyProducts_81 fu n_join_codes n_join_counts n_tally join_size join_codes join_counts v1 (f_X6_tallyProducts_10 fu n_join_codes n_join_counts n_tally join_size join_codes join_counts v1 n) x2 tally)) else (if ¬ (x_12 < 0 ∨ n_tally ≤ x_12.toNatClampNeg) then k_let (tally x_12.toNatClampNeg) fun x_20 => (k_b1 (f_X0_countAt n_join_counts join_size join_counts x2) fun r_22 => (if ¬ (x_12 < 0 ∨ n_tally ≤ x_12.toNatClampNeg) then ((f_X6_tallyProducts_81 fu n_join_codes n_join_counts n_tally join_size join_codes join_counts v1 (f_X6_tallyProducts_10 fu n_join_codes n_join_counts n_tally join_size join_codes join_counts v1 n) x2 (upd tally x_12.toNatClampNeg (x_20 + r_22)))) else none)) else none))) else ((f_X6_tallyProducts_81 fu n_join_codes n_join_counts n_tally join_size join_codes join_counts v1 (f_X6_tallyProducts_10 fu n_join_codes n_join_counts n_tally join_size join_codes join_counts v1 n) x2 tally))))))))
theorem fs_X6_tallyProducts_10 (fu : Nat) (n_join_codes : Nat) (n_join_counts : Nat) (n_tally : Nat) (join_size : Int32) (join_codes : Nat → Int32) (join_counts : Nat → Int32) (v1 : Int32) (n : Nat) (x2 : Int32) (tally : Nat → Int32) : f_X6_tallyProducts_10 fu n_join_codes n_join_counts n_tally join_size join_codes join_counts v1 (n + 1) x2 tally = (k_b1 (f_X0_size join_size) fun r_3 => (if r_3 ≤ x2 then (some (tally)) else (k_b1 (f_X0_codeAt n_join_codes join_size join_codes x2) fun r_7 => (k_b1 (f_X8_joinProduct r_7) fun r_10 => (k_let (r_10 + 891) fun x_12 => k_b1 (f_X8_joinGroup r_7) fun r_14 => (if r_14 = v1 then (if x_12 < 0 then ((f_X6_tallyProducts_81 fu n_join_codes n_join_counts n_tally join_size join_codes join_counts v1 (f_X6_tallyProducts_10 fu n_join_codes n_join_counts n_tally join_size join_codes join_counts v1 n) x2 tally)) else (if (nI n_tally) ≤ x_12 then ((f_X6_tallyProducts_81 fu n_join_codes n_join_counts n_tally join_size join_codes join_counts v1 (f_X6_tallyProducts_10 fu n_join_codes n_join_counts n_tally join_size join_codes join_counts v1 n) x2 tally)) else (if ¬ (x_12 < 0 ∨ n_tally ≤ x_12.toNatClampNeg) then k_let (tally x_12.toNatClampNeg) fun x_20 => (k_b1 (f_X0_countAt n_join_counts join_size join_counts x2) fun r_22 => (if ¬ (x_12 < 0 ∨ n_tally ≤ x_12.toNatClampNeg) then ((f_X6_tallyProducts_81 fu n_join_codes n_join_counts n_tally join_size join_codes join_counts v1 (f_X6_tallyProducts_10 fu n_join_codes n_join_counts n_tally join_size join_codes join_counts v1 n) x2 (upd tally x_12.toNatClampNeg (x_20 + r_22)))) else none)) else none))) else ((f_X6_tallyProducts_81 fu n_join_codes n_join_counts n_tally join_size join_codes join_counts v1 (f_X6_tallyProducts_10 fu n_join_codes n_join_counts n_tally join_size join_codes join_counts v1 n) x2 tally)))))))) := rfl
noncomputable def f_X6_tallyProducts (fu : Nat) (n_join_codes : Nat) (n_join_counts : Nat) (n_tally : Nat) (join_size : Int32) (join_codes : Nat → Int32) (join_counts : Nat → Int32) (v1 : Int32) (tally : Nat → Int32) : Option ((Nat → Int32)) := (k_b1 (f_J7_fill_53178 fu n_tally 0 tally) fun tally__26 => ((f_X6_tallyProducts_10 fu n_join_codes n_join_counts n_tally join_size join_codes join_counts v1 fu 0 tally__26)))
abbrev rm_X6_tallyProducts : Room := { frames := 1, cells := 0, slots := 0, locals := 23 }
theorem pd_X6_tallyProducts : k_D1 yX6_tallyProducts 1 := by decide +kernel
set_option maxHeartbeats 4000000 in
set_option maxRecDepth 100000 in
theorem m_X6_tallyProducts (l : Launch) (D : va_G) (cA : Nat → ClassId) (sz : Nat) (a_this a_join a_join_codes a_join_counts a_tally : Nat) (w_oldJoin : Nat) (w_totals : Nat) (w_oldTotals : Nat) (w_change : Nat) (w_dangling : Nat) (fu : Nat) (n_join_codes : Nat) (n_join_counts : Nat) (n_tally : Nat) (join_size : Int32) (join_total : Int32) (join_codes : Nat → Int32) (join_counts : Nat → Int32) (tally : Nat → Int32) (v1 : Int32) (tally' : Nat → Int32) (h : f_X6_tallyProducts fu n_join_codes n_join_counts n_tally join_size join_codes join_counts v1 tally = some (tally')) : k_M l yX6_tallyProducts prog_8_method_11_code 5 (none : Option Jvm.ClassFile.FieldType) rm_X6_tallyProducts D cA [.ref a_this, .int v1] [(a_this, .inr (6, [.ref a_join, .ref w_oldJoin, .ref w_totals, .ref w_oldTotals, .ref w_change, .ref w_dangling, .ref a_tally])), (a_join, .inr (0, [.ref a_join_codes, .ref a_join_counts, .int join_size, .int join_total])), (a_join_codes, .inl (cA 0, n_join_codes, .inl join_codes)), (a_join_counts, .inl (cA 0, n_join_counts, .inl join_counts)), (a_tally, .inl (cA 0, n_tally, .inl tally))] sz (none) [(a_this, .inr (6, [.ref a_join, .ref w_oldJoin, .ref w_totals, .ref w_oldTotals, .ref w_change, .ref w_dangling, .ref a_tally])), (a_join, .inr (0, [.ref a_join_codes, .ref a_join_counts, .int join_size, .int join_total])), (a_join_codes, .inl (cA 0, n_join_codes, .inl join_codes)), (a_join_counts, .inl (cA 0, n_join_counts, .inl join_counts)), (a_tally, .inl (cA 0, n_tally, .inl (tally')))] := by
  refine k_ofW (by decide) (Nat.le_of_ble_eq_true rfl) ?_
  intro p e s m below meth c A ls hx hb hr hml hts hown hlocks hB hA hW hl
  have hl : lv_has ls 5 [(0, .ref a_this), (1, .int v1)] := hl
  obtain ⟨H, eH⟩ : ∃ H, H = s.heap := ⟨_, rfl⟩
  obtain ⟨locs, eL⟩ : ∃ L : List Loc, L = [] := ⟨_, rfl⟩
  have hW : k_Wd D A s.heap [(a_this, .inr (6, [.ref a_join, .ref w_oldJoin, .ref w_totals, .ref w_oldTotals, .ref w_change, .ref w_dangling, .ref a_tally])), (a_join, .inr (0, [.ref a_join_codes, .ref a_join_counts, .int join_size, .int join_total])), (a_join_codes, .inl (cA 0, n_join_codes, .inl join_codes)), (a_join_counts, .inl (cA 0, n_join_counts, .inl join_counts)), (a_tally, .inl (cA 0, n_tally, .inl tally))] H locs := by rw [eH, eL]; exact hW
  suffices K : W p l e rm_X6_tallyProducts s m [.ref a_this, .int v1].toArray below meth c H locs 0 0 (MQ below (k_Q (none) D [(a_this, .inr (6, [.ref a_join, .ref w_oldJoin, .ref w_totals, .ref w_oldTotals, .ref w_change, .ref w_dangling, .ref a_tally])), (a_join, .inr (0, [.ref a_join_codes, .ref a_join_counts, .int join_size, .int join_total])), (a_join_codes, .inl (cA 0, n_join_codes, .inl join_codes)), (a_join_counts, .inl (cA 0, n_join_counts, .inl join_counts)), (a_tally, .inl (cA 0, n_tally, .inl (tally')))] A) [.ref a_this, .int v1].toArray s 0 0 A) (F0 m 0 ls []) by rw [eH, eL] at K; exact K
  clear eH eL
  have J10 : ∀ (n10 : Nat) (x2 : Int32) (tally : Nat → Int32) (H : Heap) (locs : List Loc) (ls : Array Slot), k_Wd D A s.heap [(a_this, .inr (6, [.ref a_join, .ref w_oldJoin, .ref w_totals, .ref w_oldTotals, .ref w_change, .ref w_dangling, .ref a_tally])), (a_join, .inr (0, [.ref a_join_codes, .ref a_join_counts, .int join_size, .int join_total])), (a_join_codes, .inl (cA 0, n_join_codes, .inl join_codes)), (a_join_counts, .inl (cA 0, n_join_counts, .inl join_counts)), (a_tally, .inl (cA 0, n_tally, .inl tally))] H locs → lv_has ls 5 [(0, .ref a_this), (1, .int v1), (2, .int x2)] → f_X6_tallyProducts_10 fu n_join_codes n_join_counts n_tally join_size join_codes join_counts v1 n10 x2 tally = some (tally') → W p l e rm_X6_tallyProducts s m [.ref a_this, .int v1].toArray below meth c H locs 0 0 (MQ below (k_Q (none) D [(a_this, .inr (6, [.ref a_join, .ref w_oldJoin, .ref w_totals, .ref w_oldTotals, .ref w_change, .ref w_dangling, .ref a_tally])), (a_join, .inr (0, [.ref a_join_codes, .ref a_join_counts, .int join_size, .int join_total])), (a_join_codes, .inl (cA 0, n_join_codes, .inl join_codes)), (a_join_counts, .inl (cA 0, n_join_counts, .inl join_counts)), (a_tally, .inl (cA 0, n_tally, .inl (tally')))] A) [.ref a_this, .int v1].toArray s 0 0 A) (F0 m 10 ls []) := by
    intro n10
    induction n10 with
    | zero => intro x2 tally H locs ls hW hl h; exact k_no h
    | succ n10 ih10 =>
      have J81 : ∀ (x2 : Int32) (tally : Nat → Int32) (H : Heap) (locs : List Loc) (ls : Array Slot), k_Wd D A s.heap [(a_this, .inr (6, [.ref a_join, .ref w_oldJoin, .ref w_totals, .ref w_oldTotals, .ref w_change, .ref w_dangling, .ref a_tally])), (a_join, .inr (0, [.ref a_join_codes, .ref a_join_counts, .int join_size, .int join_total])), (a_join_codes, .inl (cA 0, n_join_codes, .inl join_codes)), (a_join_counts, .inl (cA 0, n_join_counts, .inl join_counts)), (a_tally, .inl (cA 0, n_tally, .inl tally))] H locs → lv_has ls 5 [(0, .ref a_this), (1, .int v1), (2, .int x2)] → f_X6_tallyProducts_81 fu n_join_codes n_join_counts n_tally join_size join_codes join_counts v1 (f_X6_tallyProducts_10 fu n_join_codes n_join_counts n_tally join_size join_codes join_counts v1 n10) x2 tally = some (tally') → W p l e rm_X6_tallyProducts s m [.ref a_this, .int v1].toArray below meth c H locs 0 0 (MQ below (k_Q (none) D [(a_this, .inr (6, [.ref a_join, .ref w_oldJoin, .ref w_totals, .ref w_oldTotals, .ref w_change, .ref w_dangling, .ref a_tally])), (a_join, .inr (0, [.ref a_join_codes, .ref a_join_counts, .int join_size, .int join_total])), (a_join_codes, .inl (cA 0, n_join_codes, .inl join_codes)), (a_join_counts, .inl (cA 0, n_join_counts, .inl join_counts)), (a_tally, .inl (cA 0, n_tally, .inl (tally')))] A) [.ref a_this, .int v1].toArray s 0 0 A) (F0 m 81 ls []) := by
        intro x2 tally H locs ls hW hl h
        obtain ⟨x_1, ex_1⟩ : ∃ y : Int32, y = x2 + 1 := ⟨_, rfl⟩
        have h := k_letE ex_1 h
        refine lv_iinc (v := x_1) (lv' := [(2, .int x_1), (0, .ref a_this), (1, .int v1)]) hx hb dX6_tallyProducts_81 hl (k := 2) rfl (by rw [ex_1]; rfl) (by decide) rfl (fun ls hl => ?_)
        refine lv_goto (tgt := 10) hx hb dX6_tallyProducts_84 (by decide) ?_
        exact ih10 x_1 tally H locs ls hW (lv_sub hl [1, 2, 0] rfl) h
      intro x2 tally H locs ls hW hl h
      have h := (fs_X6_tallyProducts_10 _ _ _ _ _ _ _ _ _ _ _).symm.trans h
      refine lv_iload_n hx hb dX6_tallyProducts_10 rfl (lv_at hl 2 rfl) ?_
      refine lv_aload_n hx hb dX6_tallyProducts_11 rfl (lv_at hl 0 rfl) ?_
      refine va_get (D := D) (ci := 6) (v := .ref a_join) (C := RX6) (T := TX6) (N := 7) hx hb hts iX6 hown hB.1 hW.1 0 rfl rfl 0 (by decide) (hts _ q1_174) (fun _ h9 => h9) rfl dX6_tallyProducts_12 ?_
      obtain ⟨r_3, h_2, h⟩ := k_bE1 h
      refine k_callV (C := RX0) (ws' := [(a_this, .inr (6, [.ref a_join, .ref w_oldJoin, .ref w_totals, .ref w_oldTotals, .ref w_change, .ref w_dangling, .ref a_tally])), (a_join, .inr (0, [.ref a_join_codes, .ref a_join_counts, .int join_size, .int join_total])), (a_join_codes, .inl (cA 0, n_join_codes, .inl join_codes)), (a_join_counts, .inl (cA 0, n_join_counts, .inl join_counts)), (a_tally, .inl (cA 0, n_tally, .inl tally))]) (As := []) (rest := [.int x2]) (b := a_join) (m_X0_size l D cA H.size a_join a_join_codes a_join_counts join_size join_total r_3 h_2) hx hb hml hown hts hB hA hW hl.1 q2_65 q1_3 q2_63 q2_64 q2_62 pd_X0_size ⟨rfl, rfl, Nat.le_of_ble_eq_true rfl, Nat.le_of_ble_eq_true rfl⟩ rfl 1 rfl rfl [1] [0, 2, 3, 4] ⟨rfl, trivial⟩ rfl ⟨⟨rfl, trivial⟩, ⟨rfl, rfl, rfl, rfl, trivial⟩, rfl⟩ rfl rfl (Nat.le_of_ble_eq_true rfl) ⟨Nat.zero_le _, Nat.zero_le _⟩ dX6_tallyProducts_15 (st1 := [.int r_3, .int x2]) rfl (fun H locs hW => ?_)
      refine lv_icmp_ge (tgt := 87) hx hb dX6_tallyProducts_18 (by decide) (fun c_5 => ?_) (fun c_5 => ?_)
      · have h := k_t c_5 h
        have z0 := k_inj1 h
        rw [← z0]
        exact W.vret hx hb hr (fun t ht hWm => ⟨rfl, by rw [ht]; exact hW.1, hW.2.2.F ht⟩) hW.2.2.2.2 dX6_tallyProducts_87
      · have h := k_f c_5 h
        refine lv_aload_n hx hb dX6_tallyProducts_21 rfl (lv_at hl 0 rfl) ?_
        refine va_get (D := D) (ci := 6) (v := .ref a_join) (C := RX6) (T := TX6) (N := 7) hx hb hts iX6 hown hB.1 hW.1 0 rfl rfl 0 (by decide) (hts _ q1_174) (fun _ h9 => h9) rfl dX6_tallyProducts_22 ?_
        refine lv_iload_n hx hb dX6_tallyProducts_25 rfl (lv_at hl 2 rfl) ?_
        obtain ⟨r_7, h_6, h⟩ := k_bE1 h
        refine k_callV (C := RX0) (ws' := [(a_this, .inr (6, [.ref a_join, .ref w_oldJoin, .ref w_totals, .ref w_oldTotals, .ref w_change, .ref w_dangling, .ref a_tally])), (a_join, .inr (0, [.ref a_join_codes, .ref a_join_counts, .int join_size, .int join_total])), (a_join_codes, .inl (cA 0, n_join_codes, .inl join_codes)), (a_join_counts, .inl (cA 0, n_join_counts, .inl join_counts)), (a_tally, .inl (cA 0, n_tally, .inl tally))]) (As := [.int x2]) (rest := []) (b := a_join) (m_X0_codeAt l D cA H.size a_join a_join_codes a_join_counts n_join_codes join_size join_total join_codes x2 r_7 h_6) hx hb hml hown hts hB hA hW hl.1 q2_23 q1_3 q2_21 q2_22 q2_66 pd_X0_codeAt ⟨rfl, rfl, Nat.le_of_ble_eq_true rfl, Nat.le_of_ble_eq_true rfl⟩ rfl 1 rfl rfl [1, 2] [0, 3, 4] ⟨rfl, rfl, trivial⟩ rfl ⟨⟨rfl, rfl, trivial⟩, ⟨rfl, rfl, rfl, trivial⟩, rfl⟩ rfl rfl (Nat.le_of_ble_eq_true rfl) ⟨Nat.zero_le _, Nat.zero_le _⟩ dX6_tallyProducts_26 (st1 := [.int r_7]) rfl (fun H locs hW => ?_)
        refine lv_istore_n (lv' := [(3, .int r_7), (0, .ref a_this), (1, .int v1), (2, .int x2)]) hx hb dX6_tallyProducts_29 rfl hl (by decide) rfl (fun ls hl => ?_)
        refine lv_iload_n hx hb dX6_tallyProducts_30 rfl (lv_at hl 0 rfl) ?_
        obtain ⟨r_10, h_9, h⟩ := k_bE1 h
        refine k_callSN (ws' := [(a_this, .inr (6, [.ref a_join, .ref w_oldJoin, .ref w_totals, .ref w_oldTotals, .ref w_change, .ref w_dangling, .ref a_tally])), (a_join, .inr (0, [.ref a_join_codes, .ref a_join_counts, .int join_size, .int join_total])), (a_join_codes, .inl (cA 0, n_join_codes, .inl join_codes)), (a_join_counts, .inl (cA 0, n_join_counts, .inl join_counts)), (a_tally, .inl (cA 0, n_tally, .inl tally))]) (As := [.int r_7]) (rest := []) (m_X8_joinProduct l D cA H.size r_7 r_10 h_9) hx hb hml hown hts hB hA hW hl.1 q2_146 q1_1 q2_145 (hB.2 _ (ln_in r_q4_99 rfl)) pd_X8_joinProduct ⟨rfl, rfl, Nat.le_of_ble_eq_true rfl, Nat.le_of_ble_eq_true rfl⟩ rfl [] [0, 1, 2, 3, 4] trivial rfl ⟨trivial, ⟨rfl, rfl, rfl, rfl, rfl, trivial⟩, rfl⟩ rfl rfl (Nat.le_of_ble_eq_true rfl) ⟨Nat.zero_le _, Nat.zero_le _⟩ dX6_tallyProducts_31 (st1 := [.int r_10]) rfl (fun H locs hW => ?_)
        refine lv_sipush (v := 891) hx hb dX6_tallyProducts_34 (by decide) ?_
        refine lv_iadd hx hb dX6_tallyProducts_37 ?_
        refine lv_topi (fun x_12 ex_12 => ?_)
        have h := k_letE ex_12 h
        refine lv_istore (lv' := [(4, .int x_12), (3, .int r_7), (0, .ref a_this), (1, .int v1), (2, .int x2)]) hx hb dX6_tallyProducts_38 hl (by decide) rfl (fun ls hl => ?_)
        refine lv_iload_n hx hb dX6_tallyProducts_40 rfl (lv_at hl 1 rfl) ?_
        obtain ⟨r_14, h_13, h⟩ := k_bE1 h
        refine k_callSN (ws' := [(a_this, .inr (6, [.ref a_join, .ref w_oldJoin, .ref w_totals, .ref w_oldTotals, .ref w_change, .ref w_dangling, .ref a_tally])), (a_join, .inr (0, [.ref a_join_codes, .ref a_join_counts, .int join_size, .int join_total])), (a_join_codes, .inl (cA 0, n_join_codes, .inl join_codes)), (a_join_counts, .inl (cA 0, n_join_counts, .inl join_counts)), (a_tally, .inl (cA 0, n_tally, .inl tally))]) (As := [.int r_7]) (rest := []) (m_X8_joinGroup l D cA H.size r_7 r_14 h_13) hx hb hml hown hts hB hA hW hl.1 q2_142 q1_1 q2_141 (hB.2 _ (ln_in r_q4_100 rfl)) pd_X8_joinGroup ⟨rfl, rfl, Nat.le_of_ble_eq_true rfl, Nat.le_of_ble_eq_true rfl⟩ rfl [] [0, 1, 2, 3, 4] trivial rfl ⟨trivial, ⟨rfl, rfl, rfl, rfl, rfl, trivial⟩, rfl⟩ rfl rfl (Nat.le_of_ble_eq_true rfl) ⟨Nat.zero_le _, Nat.zero_le _⟩ dX6_tallyProducts_41 (st1 := [.int r_14]) rfl (fun H locs hW => ?_)
        refine lv_iload_n hx hb dX6_tallyProducts_44 rfl (lv_at hl 3 rfl) ?_
        refine lv_icmp_ne (tgt := 81) hx hb dX6_tallyProducts_45 (by decide) (fun c_16 => ?_) (fun c_16 => ?_)
        · have h := k_f c_16 h
          exact J81 x2 tally H locs ls hW (lv_sub hl [2, 3, 4] rfl) h
        · have h := k_t c_16 h
          refine lv_iload hx hb dX6_tallyProducts_48 (lv_at hl 0 rfl) ?_
          refine lv_if_lt (tgt := 81) hx hb dX6_tallyProducts_50 (by decide) (fun c_17 => ?_) (fun c_17 => ?_)
          · have h := k_t c_17 h
            exact J81 x2 tally H locs ls hW (lv_sub hl [2, 3, 4] rfl) h
          · have h := k_f c_17 h
            refine lv_iload hx hb dX6_tallyProducts_53 (lv_at hl 0 rfl) ?_
            refine lv_aload_n hx hb dX6_tallyProducts_55 rfl (lv_at hl 2 rfl) ?_
            refine va_get (D := D) (ci := 6) (v := .ref a_tally) (C := RX6) (T := TX6) (N := 7) hx hb hts iX6 hown hB.1 hW.1 0 rfl rfl 6 (by decide) (hts _ q1_180) (fun _ h9 => h9) rfl dX6_tallyProducts_56 ?_
            refine va_alen hx hb hB.1 hW.1 4 0 rfl (v := nI n_tally) rfl rfl dX6_tallyProducts_59 ?_
            refine lv_icmp_ge (tgt := 81) hx hb dX6_tallyProducts_60 (by decide) (fun c_18 => ?_) (fun c_18 => ?_)
            · have h := k_t c_18 h
              exact J81 x2 tally H locs ls hW (lv_sub hl [2, 3, 4] rfl) h
            · have h := k_f c_18 h
              refine lv_aload_n hx hb dX6_tallyProducts_63 rfl (lv_at hl 2 rfl) ?_
              refine va_get (D := D) (ci := 6) (v := .ref a_tally) (C := RX6) (T := TX6) (N := 7) hx hb hts iX6 hown hB.1 hW.1 0 rfl rfl 6 (by decide) (hts _ q1_180) (fun _ h9 => h9) rfl dX6_tallyProducts_64 ?_
              refine lv_iload hx hb dX6_tallyProducts_67 (lv_at hl 0 rfl) ?_
              refine lv_dup2_11 hx hb dX6_tallyProducts_69 rfl rfl ?_
              obtain ⟨c_19, h⟩ := k_g h
              refine va_iald hx hb hB.1 hW.1 4 0 rfl rfl c_19 dX6_tallyProducts_70 ?_
              refine lv_topi (fun x_20 ex_20 => ?_)
              have h := k_letE ex_20 h
              refine lv_aload_n hx hb dX6_tallyProducts_71 rfl (lv_at hl 2 rfl) ?_
              refine va_get (D := D) (ci := 6) (v := .ref a_join) (C := RX6) (T := TX6) (N := 7) hx hb hts iX6 hown hB.1 hW.1 0 rfl rfl 0 (by decide) (hts _ q1_174) (fun _ h9 => h9) rfl dX6_tallyProducts_72 ?_
              refine lv_iload_n hx hb dX6_tallyProducts_75 rfl (lv_at hl 4 rfl) ?_
              obtain ⟨r_22, h_21, h⟩ := k_bE1 h
              refine k_callV (C := RX0) (ws' := [(a_this, .inr (6, [.ref a_join, .ref w_oldJoin, .ref w_totals, .ref w_oldTotals, .ref w_change, .ref w_dangling, .ref a_tally])), (a_join, .inr (0, [.ref a_join_codes, .ref a_join_counts, .int join_size, .int join_total])), (a_join_codes, .inl (cA 0, n_join_codes, .inl join_codes)), (a_join_counts, .inl (cA 0, n_join_counts, .inl join_counts)), (a_tally, .inl (cA 0, n_tally, .inl tally))]) (As := [.int x2]) (rest := [.int x_20, .int x_12, .ref a_tally]) (b := a_join) (m_X0_countAt l D cA H.size a_join a_join_counts a_join_codes n_join_counts join_size join_total join_counts x2 r_22 h_21) hx hb hml hown hts hB hA hW hl.1 q2_28 q1_3 q2_26 q2_27 q2_67 pd_X0_countAt ⟨rfl, rfl, Nat.le_of_ble_eq_true rfl, Nat.le_of_ble_eq_true rfl⟩ rfl 1 rfl rfl [1, 3] [0, 2, 4] ⟨rfl, rfl, trivial⟩ rfl ⟨⟨rfl, rfl, trivial⟩, ⟨rfl, rfl, rfl, trivial⟩, rfl⟩ rfl rfl (Nat.le_of_ble_eq_true rfl) ⟨Nat.zero_le _, Nat.zero_le _⟩ dX6_tallyProducts_76 (st1 := [.int r_22, .int x_20, .int x_12, .ref a_tally]) rfl (fun H locs hW => ?_)
              refine lv_iadd hx hb dX6_tallyProducts_79 ?_
              obtain ⟨c_24, h⟩ := k_g h
              refine va_iast hx hb hB.1 hW.1 hW.2.1 hW.2.2 4 0 rfl rfl c_24 dX6_tallyProducts_80 (fun H locs hP hD hS => ?_)
              have hW : k_Wd D A s.heap [(a_this, .inr (6, [.ref a_join, .ref w_oldJoin, .ref w_totals, .ref w_oldTotals, .ref w_change, .ref w_dangling, .ref a_tally])), (a_join, .inr (0, [.ref a_join_codes, .ref a_join_counts, .int join_size, .int join_total])), (a_join_codes, .inl (cA 0, n_join_codes, .inl join_codes)), (a_join_counts, .inl (cA 0, n_join_counts, .inl join_counts)), (a_tally, .inl (cA 0, n_tally, .inl (upd tally x_12.toNatClampNeg (x_20 + r_22))))] H locs := ⟨hP, hD, hS⟩
              exact J81 x2 (upd tally x_12.toNatClampNeg (x_20 + r_22)) H locs ls hW (lv_sub hl [2, 3, 4] rfl) h
  refine lv_aload_n hx hb dX6_tallyProducts_0 rfl (lv_at hl 0 rfl) ?_
  refine va_get (D := D) (ci := 6) (v := .ref a_tally) (C := RX6) (T := TX6) (N := 7) hx hb hts iX6 hown hB.1 hW.1 0 rfl rfl 6 (by decide) (hts _ q1_180) (fun _ h9 => h9) rfl dX6_tallyProducts_1 ?_
  refine lv_iconst (v := 0) hx hb dX6_tallyProducts_4 (by decide) ?_
  obtain ⟨tally__26, h_25, h⟩ := k_bE1 h
  refine k_callS (ws' := [(a_this, .inr (6, [.ref a_join, .ref w_oldJoin, .ref w_totals, .ref w_oldTotals, .ref w_change, .ref w_dangling, .ref a_tally])), (a_join, .inr (0, [.ref a_join_codes, .ref a_join_counts, .int join_size, .int join_total])), (a_join_codes, .inl (cA 0, n_join_codes, .inl join_codes)), (a_join_counts, .inl (cA 0, n_join_counts, .inl join_counts)), (a_tally, .inl (cA 0, n_tally, .inl tally__26))]) (As := [.ref a_tally, .int 0]) (rest := []) (m_J7_fill_53178 l D cA H.size a_tally fu n_tally tally 0 tally__26 h_25) hx hb hml hown hts hB hA hW hl.1 q2_137 q1_19 q2_136 q4_98 pd_J7_fill_53178 ⟨rfl, rfl, Nat.le_of_ble_eq_true rfl, Nat.le_of_ble_eq_true rfl⟩ rfl [4] [0, 1, 2, 3] ⟨rfl, trivial⟩ rfl ⟨⟨rfl, trivial⟩, ⟨rfl, rfl, rfl, rfl, trivial⟩, rfl⟩ rfl rfl (Nat.le_of_ble_eq_true rfl) ⟨Nat.zero_le _, Nat.zero_le _⟩ dX6_tallyProducts_5 (st1 := []) rfl (fun H locs hW => ?_)
  refine lv_iconst (v := 0) hx hb dX6_tallyProducts_8 (by decide) ?_
  refine lv_istore_n (lv' := [(2, .int 0), (0, .ref a_this), (1, .int v1)]) hx hb dX6_tallyProducts_9 rfl hl (by decide) rfl (fun ls hl => ?_)
  exact J10 fu 0 tally__26 H locs ls hW (lv_sub hl [1, 2, 0] rfl) h
noncomputable def f_X6_productOfOccurrence_35 (fu : Nat) (n_join_codes : Nat) (n_join_counts : Nat) (n_tally : Nat) (join_size : Int32) (join_codes : Nat → Int32) (join_counts : Nat → Int32) (v1 : Int32) (v2 : Int32) (x4 : Int32) (tally : Nat → Int32) : Option (Int32 × (Nat → Int32)) := (some ((x4 - 891), tally))
noncomputable def f_X6_productOfOccurrence_10 (fu : Nat) (n_join_codes : Nat) (n_join_counts : Nat) (n_tally : Nat) (join_size : Int32) (join_codes : Nat → Int32) (join_counts : Nat → Int32) (v1 : Int32) (v2 : Int32) : Nat → Int32 → Int32 → (Nat → Int32) → Option (Int32 × (Nat → Int32))
  | 0 => fun _ _ _ => none
  | n + 1 => fun x3 x4 tally => (if (nI n_tally) ≤ x4 then (some (0, tally)) else (if ¬ (x4 < 0 ∨ n_tally ≤ x4.toNatClampNeg) then k_let (tally x4.toNatClampNeg) fun x_3 => (k_let (x3 + x_3) fun x_4 => if x_4 ≤ v2 then (k_let (x4 + 1) fun x_6 => (f_X6_productOfOccurrence_10 fu n_join_codes n_join_counts n_tally join_size join_codes join_counts v1 v2 n x_4 x_6 tally)) else ((f_X6_productOfOccurrence_35 fu n_join_codes n_join_counts n_tally join_size join_codes join_counts v1 v2 x4 tally))) else none))
theorem fs_X6_productOfOccurrence_10 (fu : Nat) (n_join_codes : Nat) (n_join_counts : Nat) (n_tally : Nat) (join_size : Int32) (join_codes : Nat → Int32) (join_counts : Nat → Int32) (v1 : Int32) (v2 : Int32) (n : Nat) (x3 : Int32) (x4 : Int32) (tally : Nat → Int32) : f_X6_productOfOccurrence_10 fu n_join_codes n_join_counts n_tally join_size join_codes join_counts v1 v2 (n + 1) x3 x4 tally = (if (nI n_tally) ≤ x4 then (some (0, tally)) else (if ¬ (x4 < 0 ∨ n_tally ≤ x4.toNatClampNeg) then k_let (tally x4.toNatClampNeg) fun x_3 => (k_let (x3 + x_3) fun x_4 => if x_4 ≤ v2 then (k_let (x4 + 1) fun x_6 => (f_X6_productOfOccurrence_10 fu n_join_codes n_join_counts n_tally join_size join_codes join_counts v1 v2 n x_4 x_6 tally)) else ((f_X6_productOfOccurrence_35 fu n_join_codes n_join_counts n_tally join_size join_codes join_counts v1 v2 x4 tally))) else none)) := rfl
noncomputable def f_X6_productOfOccurrence (fu : Nat) (n_join_codes : Nat) (n_join_counts : Nat) (n_tally : Nat) (join_size : Int32) (join_codes : Nat → Int32) (join_counts : Nat → Int32) (v1 : Int32) (v2 : Int32) (tally : Nat → Int32) : Option (Int32 × (Nat → Int32)) := (k_b1 (f_X6_tallyProducts fu n_join_codes n_join_counts n_tally join_size join_codes join_counts v1 tally) fun tally__8 => ((f_X6_productOfOccurrence_10 fu n_join_codes n_join_counts n_tally join_size join_codes join_counts v1 v2 fu 0 0 tally__8)))
abbrev rm_X6_productOfOccurrence : Room := { frames := 2, cells := 0, slots := 0, locals := 47 }
theorem pd_X6_productOfOccurrence : k_D1 yX6_productOfOccurrence 2 := by decide +kernel
set_option maxHeartbeats 4000000 in
set_option maxRecDepth 100000 in
theorem m_X6_productOfOccurrence (l : Launch) (D : va_G) (cA : Nat → ClassId) (sz : Nat) (a_this a_join a_join_codes a_join_counts a_tally : Nat) (w_oldJoin : Nat) (w_totals : Nat) (w_oldTotals : Nat) (w_change : Nat) (w_dangling : Nat) (fu : Nat) (n_join_codes : Nat) (n_join_counts : Nat) (n_tally : Nat) (join_size : Int32) (join_total : Int32) (join_codes : Nat → Int32) (join_counts : Nat → Int32) (tally : Nat → Int32) (v1 : Int32) (v2 : Int32) (ret_ : Int32) (tally' : Nat → Int32) (h : f_X6_productOfOccurrence fu n_join_codes n_join_counts n_tally join_size join_codes join_counts v1 v2 tally = some (ret_, tally')) : k_M l yX6_productOfOccurrence prog_8_method_9_code 5 (some .int) rm_X6_productOfOccurrence D cA [.ref a_this, .int v1, .int v2] [(a_this, .inr (6, [.ref a_join, .ref w_oldJoin, .ref w_totals, .ref w_oldTotals, .ref w_change, .ref w_dangling, .ref a_tally])), (a_join, .inr (0, [.ref a_join_codes, .ref a_join_counts, .int join_size, .int join_total])), (a_join_codes, .inl (cA 0, n_join_codes, .inl join_codes)), (a_join_counts, .inl (cA 0, n_join_counts, .inl join_counts)), (a_tally, .inl (cA 0, n_tally, .inl tally))] sz (some (.int ret_)) [(a_this, .inr (6, [.ref a_join, .ref w_oldJoin, .ref w_totals, .ref w_oldTotals, .ref w_change, .ref w_dangling, .ref a_tally])), (a_join, .inr (0, [.ref a_join_codes, .ref a_join_counts, .int join_size, .int join_total])), (a_join_codes, .inl (cA 0, n_join_codes, .inl join_codes)), (a_join_counts, .inl (cA 0, n_join_counts, .inl join_counts)), (a_tally, .inl (cA 0, n_tally, .inl (tally')))] := by
  refine k_ofW (by decide) (Nat.le_of_ble_eq_true rfl) ?_
  intro p e s m below meth c A ls hx hb hr hml hts hown hlocks hB hA hW hl
  have hl : lv_has ls 5 [(0, .ref a_this), (1, .int v1), (2, .int v2)] := hl
  obtain ⟨H, eH⟩ : ∃ H, H = s.heap := ⟨_, rfl⟩
  obtain ⟨locs, eL⟩ : ∃ L : List Loc, L = [] := ⟨_, rfl⟩
  have hW : k_Wd D A s.heap [(a_this, .inr (6, [.ref a_join, .ref w_oldJoin, .ref w_totals, .ref w_oldTotals, .ref w_change, .ref w_dangling, .ref a_tally])), (a_join, .inr (0, [.ref a_join_codes, .ref a_join_counts, .int join_size, .int join_total])), (a_join_codes, .inl (cA 0, n_join_codes, .inl join_codes)), (a_join_counts, .inl (cA 0, n_join_counts, .inl join_counts)), (a_tally, .inl (cA 0, n_tally, .inl tally))] H locs := by rw [eH, eL]; exact hW
  suffices K : W p l e rm_X6_productOfOccurrence s m [.ref a_this, .int v1, .int v2].toArray below meth c H locs 0 0 (MQ below (k_Q (some (.int ret_)) D [(a_this, .inr (6, [.ref a_join, .ref w_oldJoin, .ref w_totals, .ref w_oldTotals, .ref w_change, .ref w_dangling, .ref a_tally])), (a_join, .inr (0, [.ref a_join_codes, .ref a_join_counts, .int join_size, .int join_total])), (a_join_codes, .inl (cA 0, n_join_codes, .inl join_codes)), (a_join_counts, .inl (cA 0, n_join_counts, .inl join_counts)), (a_tally, .inl (cA 0, n_tally, .inl (tally')))] A) [.ref a_this, .int v1, .int v2].toArray s 0 0 A) (F0 m 0 ls []) by rw [eH, eL] at K; exact K
  clear eH eL
  have J35 : ∀ (x4 : Int32) (tally : Nat → Int32) (H : Heap) (locs : List Loc) (ls : Array Slot), k_Wd D A s.heap [(a_this, .inr (6, [.ref a_join, .ref w_oldJoin, .ref w_totals, .ref w_oldTotals, .ref w_change, .ref w_dangling, .ref a_tally])), (a_join, .inr (0, [.ref a_join_codes, .ref a_join_counts, .int join_size, .int join_total])), (a_join_codes, .inl (cA 0, n_join_codes, .inl join_codes)), (a_join_counts, .inl (cA 0, n_join_counts, .inl join_counts)), (a_tally, .inl (cA 0, n_tally, .inl tally))] H locs → lv_has ls 5 [(4, .int x4)] → f_X6_productOfOccurrence_35 fu n_join_codes n_join_counts n_tally join_size join_codes join_counts v1 v2 x4 tally = some (ret_, tally') → W p l e rm_X6_productOfOccurrence s m [.ref a_this, .int v1, .int v2].toArray below meth c H locs 0 0 (MQ below (k_Q (some (.int ret_)) D [(a_this, .inr (6, [.ref a_join, .ref w_oldJoin, .ref w_totals, .ref w_oldTotals, .ref w_change, .ref w_dangling, .ref a_tally])), (a_join, .inr (0, [.ref a_join_codes, .ref a_join_counts, .int join_size, .int join_total])), (a_join_codes, .inl (cA 0, n_join_codes, .inl join_codes)), (a_join_counts, .inl (cA 0, n_join_counts, .inl join_counts)), (a_tally, .inl (cA 0, n_tally, .inl (tally')))] A) [.ref a_this, .int v1, .int v2].toArray s 0 0 A) (F0 m 35 ls []) := by
    intro x4 tally H locs ls hW hl h
    refine lv_iload hx hb dX6_productOfOccurrence_35 (lv_at hl 0 rfl) ?_
    refine lv_sipush (v := 891) hx hb dX6_productOfOccurrence_37 (by decide) ?_
    refine lv_isub hx hb dX6_productOfOccurrence_40 ?_
    obtain ⟨z0, z1⟩ := k_inj2 h
    rw [← z0, ← z1]
    exact W.iret hx hb hr (fun t ht hWm => ⟨rfl, by rw [ht]; exact hW.1, hW.2.2.F ht⟩) hW.2.2.2.2 dX6_productOfOccurrence_41
  have J10 : ∀ (n10 : Nat) (x3 : Int32) (x4 : Int32) (tally : Nat → Int32) (H : Heap) (locs : List Loc) (ls : Array Slot), k_Wd D A s.heap [(a_this, .inr (6, [.ref a_join, .ref w_oldJoin, .ref w_totals, .ref w_oldTotals, .ref w_change, .ref w_dangling, .ref a_tally])), (a_join, .inr (0, [.ref a_join_codes, .ref a_join_counts, .int join_size, .int join_total])), (a_join_codes, .inl (cA 0, n_join_codes, .inl join_codes)), (a_join_counts, .inl (cA 0, n_join_counts, .inl join_counts)), (a_tally, .inl (cA 0, n_tally, .inl tally))] H locs → lv_has ls 5 [(0, .ref a_this), (2, .int v2), (3, .int x3), (4, .int x4)] → f_X6_productOfOccurrence_10 fu n_join_codes n_join_counts n_tally join_size join_codes join_counts v1 v2 n10 x3 x4 tally = some (ret_, tally') → W p l e rm_X6_productOfOccurrence s m [.ref a_this, .int v1, .int v2].toArray below meth c H locs 0 0 (MQ below (k_Q (some (.int ret_)) D [(a_this, .inr (6, [.ref a_join, .ref w_oldJoin, .ref w_totals, .ref w_oldTotals, .ref w_change, .ref w_dangling, .ref a_tally])), (a_join, .inr (0, [.ref a_join_codes, .ref a_join_counts, .int join_size, .int join_total])), (a_join_codes, .inl (cA 0, n_join_codes, .inl join_codes)), (a_join_counts, .inl (cA 0, n_join_counts, .inl join_counts)), (a_tally, .inl (cA 0, n_tally, .inl (tally')))] A) [.ref a_this, .int v1, .int v2].toArray s 0 0 A) (F0 m 10 ls []) := by
    intro n10
    induction n10 with
    | zero => intro x3 x4 tally H locs ls hW hl h; exact k_no h
    | succ n10 ih10 =>
      intro x3 x4 tally H locs ls hW hl h
      have h := (fs_X6_productOfOccurrence_10 _ _ _ _ _ _ _ _ _ _ _ _ _).symm.trans h
      refine lv_iload hx hb dX6_productOfOccurrence_10 (lv_at hl 3 rfl) ?_
      refine lv_aload_n hx hb dX6_productOfOccurrence_12 rfl (lv_at hl 0 rfl) ?_
      refine va_get (D := D) (ci := 6) (v := .ref a_tally) (C := RX6) (T := TX6) (N := 7) hx hb hts iX6 hown hB.1 hW.1 0 rfl rfl 6 (by decide) (hts _ q1_180) (fun _ h9 => h9) rfl dX6_productOfOccurrence_13 ?_
      refine va_alen hx hb hB.1 hW.1 4 0 rfl (v := nI n_tally) rfl rfl dX6_productOfOccurrence_16 ?_
      refine lv_icmp_ge (tgt := 48) hx hb dX6_productOfOccurrence_17 (by decide) (fun c_1 => ?_) (fun c_1 => ?_)
      · have h := k_t c_1 h
        refine lv_iconst (v := 0) hx hb dX6_productOfOccurrence_48 (by decide) ?_
        obtain ⟨z0, z1⟩ := k_inj2 h
        rw [← z0, ← z1]
        exact W.iret hx hb hr (fun t ht hWm => ⟨rfl, by rw [ht]; exact hW.1, hW.2.2.F ht⟩) hW.2.2.2.2 dX6_productOfOccurrence_49
      · have h := k_f c_1 h
        refine lv_iload_n hx hb dX6_productOfOccurrence_20 rfl (lv_at hl 2 rfl) ?_
        refine lv_aload_n hx hb dX6_productOfOccurrence_21 rfl (lv_at hl 0 rfl) ?_
        refine va_get (D := D) (ci := 6) (v := .ref a_tally) (C := RX6) (T := TX6) (N := 7) hx hb hts iX6 hown hB.1 hW.1 0 rfl rfl 6 (by decide) (hts _ q1_180) (fun _ h9 => h9) rfl dX6_productOfOccurrence_22 ?_
        refine lv_iload hx hb dX6_productOfOccurrence_25 (lv_at hl 3 rfl) ?_
        obtain ⟨c_2, h⟩ := k_g h
        refine va_iald hx hb hB.1 hW.1 4 0 rfl rfl c_2 dX6_productOfOccurrence_27 ?_
        refine lv_topi (fun x_3 ex_3 => ?_)
        have h := k_letE ex_3 h
        refine lv_iadd hx hb dX6_productOfOccurrence_28 ?_
        refine lv_topi (fun x_4 ex_4 => ?_)
        have h := k_letE ex_4 h
        refine lv_istore_n (lv' := [(3, .int x_4), (0, .ref a_this), (2, .int v2), (4, .int x4)]) hx hb dX6_productOfOccurrence_29 rfl hl (by decide) rfl (fun ls hl => ?_)
        refine lv_iload_n hx hb dX6_productOfOccurrence_30 rfl (lv_at hl 2 rfl) ?_
        refine lv_iload_n hx hb dX6_productOfOccurrence_31 rfl (lv_at hl 0 rfl) ?_
        refine lv_icmp_ge (tgt := 42) hx hb dX6_productOfOccurrence_32 (by decide) (fun c_5 => ?_) (fun c_5 => ?_)
        · have h := k_t c_5 h
          obtain ⟨x_6, ex_6⟩ : ∃ y : Int32, y = x4 + 1 := ⟨_, rfl⟩
          have h := k_letE ex_6 h
          refine lv_iinc (v := x_6) (lv' := [(4, .int x_6), (3, .int x_4), (0, .ref a_this), (2, .int v2)]) hx hb dX6_productOfOccurrence_42 hl (k := 3) rfl (by rw [ex_6]; rfl) (by decide) rfl (fun ls hl => ?_)
          refine lv_goto (tgt := 10) hx hb dX6_productOfOccurrence_45 (by decide) ?_
          exact ih10 x_4 x_6 tally H locs ls hW (lv_sub hl [2, 3, 1, 0] rfl) h
        · have h := k_f c_5 h
          exact J35 x4 tally H locs ls hW (lv_sub hl [3] rfl) h
  refine lv_aload_n hx hb dX6_productOfOccurrence_0 rfl (lv_at hl 0 rfl) ?_
  refine lv_iload_n hx hb dX6_productOfOccurrence_1 rfl (lv_at hl 1 rfl) ?_
  obtain ⟨tally__8, h_7, h⟩ := k_bE1 h
  refine k_callV (C := RX6) (ws' := [(a_this, .inr (6, [.ref a_join, .ref w_oldJoin, .ref w_totals, .ref w_oldTotals, .ref w_change, .ref w_dangling, .ref a_tally])), (a_join, .inr (0, [.ref a_join_codes, .ref a_join_counts, .int join_size, .int join_total])), (a_join_codes, .inl (cA 0, n_join_codes, .inl join_codes)), (a_join_counts, .inl (cA 0, n_join_counts, .inl join_counts)), (a_tally, .inl (cA 0, n_tally, .inl tally__8))]) (As := [.int v1]) (rest := []) (b := a_this) (m_X6_tallyProducts l D cA H.size a_this a_join a_join_codes a_join_counts a_tally w_oldJoin w_totals w_oldTotals w_change w_dangling fu n_join_codes n_join_counts n_tally join_size join_total join_codes join_counts tally v1 tally__8 h_7) hx hb hml hown hts hB hA hW hl.1 q4_97 q1_8 q4_96 qs_yX6_tallyProducts q4_94 pd_X6_tallyProducts ⟨rfl, rfl, Nat.le_of_ble_eq_true rfl, Nat.le_of_ble_eq_true rfl⟩ rfl 0 rfl rfl [0, 1, 2, 3, 4] [] ⟨rfl, rfl, rfl, rfl, rfl, trivial⟩ rfl ⟨⟨rfl, rfl, rfl, rfl, rfl, trivial⟩, trivial, rfl⟩ rfl rfl (Nat.le_of_ble_eq_true rfl) ⟨Nat.zero_le _, Nat.zero_le _⟩ dX6_productOfOccurrence_2 (st1 := []) rfl (fun H locs hW => ?_)
  refine lv_iconst (v := 0) hx hb dX6_productOfOccurrence_5 (by decide) ?_
  refine lv_istore_n (lv' := [(3, .int 0), (0, .ref a_this), (1, .int v1), (2, .int v2)]) hx hb dX6_productOfOccurrence_6 rfl hl (by decide) rfl (fun ls hl => ?_)
  refine lv_iconst (v := 0) hx hb dX6_productOfOccurrence_7 (by decide) ?_
  refine lv_istore (lv' := [(4, .int 0), (3, .int 0), (0, .ref a_this), (1, .int v1), (2, .int v2)]) hx hb dX6_productOfOccurrence_8 hl (by decide) rfl (fun ls hl => ?_)
  exact J10 fu 0 0 tally__8 H locs ls hW (lv_sub hl [2, 4, 1, 0] rfl) h
noncomputable def f_X6_differentProducts_30 (fu : Nat) (n_join_codes : Nat) (n_join_counts : Nat) (n_tally : Nat) (join_size : Int32) (join_codes : Nat → Int32) (join_counts : Nat → Int32) (v1 : Int32) (k9 : Int32 → Int32 → (Nat → Int32) → Option (Int32 × (Nat → Int32))) (x2 : Int32) (x3 : Int32) (tally : Nat → Int32) : Option (Int32 × (Nat → Int32)) := (k_let (x3 + 1) fun x_1 => (k9 x2 x_1 tally))
noncomputable def f_X6_differentProducts_9 (fu : Nat) (n_join_codes : Nat) (n_join_counts : Nat) (n_tally : Nat) (join_size : Int32) (join_codes : Nat → Int32) (join_counts : Nat → Int32) (v1 : Int32) : Nat → Int32 → Int32 → (Nat → Int32) → Option (Int32 × (Nat → Int32))
  | 0 => fun _ _ _ => none
  | n + 1 => fun x2 x3 tally => (if (nI n_tally) ≤ x3 then (some (x2, tally)) else (if ¬ (x3 < 0 ∨ n_tally ≤ x3.toNatClampNeg) then k_let (tally x3.toNatClampNeg) fun x_4 => (if x_4 = 0 then ((f_X6_differentProducts_30 fu n_join_codes n_join_counts n_tally join_size join_codes join_counts v1 (f_X6_differentProducts_9 fu n_join_codes n_join_counts n_tally join_size join_codes join_counts v1 n) x2 x3 tally)) else (k_let (x2 + 1) fun x_6 => (f_X6_differentProducts_30 fu n_join_codes n_join_counts n_tally join_size join_codes join_counts v1 (f_X6_differentProducts_9 fu n_join_codes n_join_counts n_tally join_size join_codes join_counts v1 n) x_6 x3 tally))) else none))
theorem fs_X6_differentProducts_9 (fu : Nat) (n_join_codes : Nat) (n_join_counts : Nat) (n_tally : Nat) (join_size : Int32) (join_codes : Nat → Int32) (join_counts : Nat → Int32) (v1 : Int32) (n : Nat) (x2 : Int32) (x3 : Int32) (tally : Nat → Int32) : f_X6_differentProducts_9 fu n_join_codes n_join_counts n_tally join_size join_codes join_counts v1 (n + 1) x2 x3 tally = (if (nI n_tally) ≤ x3 then (some (x2, tally)) else (if ¬ (x3 < 0 ∨ n_tally ≤ x3.toNatClampNeg) then k_let (tally x3.toNatClampNeg) fun x_4 => (if x_4 = 0 then ((f_X6_differentProducts_30 fu n_join_codes n_join_counts n_tally join_size join_codes join_counts v1 (f_X6_differentProducts_9 fu n_join_codes n_join_counts n_tally join_size join_codes join_counts v1 n) x2 x3 tally)) else (k_let (x2 + 1) fun x_6 => (f_X6_differentProducts_30 fu n_join_codes n_join_counts n_tally join_size join_codes join_counts v1 (f_X6_differentProducts_9 fu n_join_codes n_join_counts n_tally join_size join_codes join_counts v1 n) x_6 x3 tally))) else none)) := rfl
noncomputable def f_X6_differentProducts (fu : Nat) (n_join_codes : Nat) (n_join_counts : Nat) (n_tally : Nat) (join_size : Int32) (join_codes : Nat → Int32) (join_counts : Nat → Int32) (v1 : Int32) (tally : Nat → Int32) : Option (Int32 × (Nat → Int32)) := (k_b1 (f_X6_tallyProducts fu n_join_codes n_join_counts n_tally join_size join_codes join_counts v1 tally) fun tally__8 => ((f_X6_differentProducts_9 fu n_join_codes n_join_counts n_tally join_size join_codes join_counts v1 fu 0 0 tally__8)))
abbrev rm_X6_differentProducts : Room := { frames := 2, cells := 0, slots := 0, locals := 47 }
theorem pd_X6_differentProducts : k_D1 yX6_differentProducts 1 := by decide +kernel
set_option maxHeartbeats 4000000 in
set_option maxRecDepth 100000 in
theorem m_X6_differentProducts (l : Launch) (D : va_G) (cA : Nat → ClassId) (sz : Nat) (a_this a_join a_join_codes a_join_counts a_tally : Nat) (w_oldJoin : Nat) (w_totals : Nat) (w_oldTotals : Nat) (w_change : Nat) (w_dangling : Nat) (fu : Nat) (n_join_codes : Nat) (n_join_counts : Nat) (n_tally : Nat) (join_size : Int32) (join_total : Int32) (join_codes : Nat → Int32) (join_counts : Nat → Int32) (tally : Nat → Int32) (v1 : Int32) (ret_ : Int32) (tally' : Nat → Int32) (h : f_X6_differentProducts fu n_join_codes n_join_counts n_tally join_size join_codes join_counts v1 tally = some (ret_, tally')) : k_M l yX6_differentProducts prog_8_method_10_code 4 (some .int) rm_X6_differentProducts D cA [.ref a_this, .int v1] [(a_this, .inr (6, [.ref a_join, .ref w_oldJoin, .ref w_totals, .ref w_oldTotals, .ref w_change, .ref w_dangling, .ref a_tally])), (a_join, .inr (0, [.ref a_join_codes, .ref a_join_counts, .int join_size, .int join_total])), (a_join_codes, .inl (cA 0, n_join_codes, .inl join_codes)), (a_join_counts, .inl (cA 0, n_join_counts, .inl join_counts)), (a_tally, .inl (cA 0, n_tally, .inl tally))] sz (some (.int ret_)) [(a_this, .inr (6, [.ref a_join, .ref w_oldJoin, .ref w_totals, .ref w_oldTotals, .ref w_change, .ref w_dangling, .ref a_tally])), (a_join, .inr (0, [.ref a_join_codes, .ref a_join_counts, .int join_size, .int join_total])), (a_join_codes, .inl (cA 0, n_join_codes, .inl join_codes)), (a_join_counts, .inl (cA 0, n_join_counts, .inl join_counts)), (a_tally, .inl (cA 0, n_tally, .inl (tally')))] := by
  refine k_ofW (by decide) (Nat.le_of_ble_eq_true rfl) ?_
  intro p e s m below meth c A ls hx hb hr hml hts hown hlocks hB hA hW hl
  have hl : lv_has ls 4 [(0, .ref a_this), (1, .int v1)] := hl
  obtain ⟨H, eH⟩ : ∃ H, H = s.heap := ⟨_, rfl⟩
  obtain ⟨locs, eL⟩ : ∃ L : List Loc, L = [] := ⟨_, rfl⟩
  have hW : k_Wd D A s.heap [(a_this, .inr (6, [.ref a_join, .ref w_oldJoin, .ref w_totals, .ref w_oldTotals, .ref w_change, .ref w_dangling, .ref a_tally])), (a_join, .inr (0, [.ref a_join_codes, .ref a_join_counts, .int join_size, .int join_total])), (a_join_codes, .inl (cA 0, n_join_codes, .inl join_codes)), (a_join_counts, .inl (cA 0, n_join_counts, .inl join_counts)), (a_tally, .inl (cA 0, n_tally, .inl tally))] H locs := by rw [eH, eL]; exact hW
  suffices K : W p l e rm_X6_differentProducts s m [.ref a_this, .int v1].toArray below meth c H locs 0 0 (MQ below (k_Q (some (.int ret_)) D [(a_this, .inr (6, [.ref a_join, .ref w_oldJoin, .ref w_totals, .ref w_oldTotals, .ref w_change, .ref w_dangling, .ref a_tally])), (a_join, .inr (0, [.ref a_join_codes, .ref a_join_counts, .int join_size, .int join_total])), (a_join_codes, .inl (cA 0, n_join_codes, .inl join_codes)), (a_join_counts, .inl (cA 0, n_join_counts, .inl join_counts)), (a_tally, .inl (cA 0, n_tally, .inl (tally')))] A) [.ref a_this, .int v1].toArray s 0 0 A) (F0 m 0 ls []) by rw [eH, eL] at K; exact K
  clear eH eL
  have J9 : ∀ (n9 : Nat) (x2 : Int32) (x3 : Int32) (tally : Nat → Int32) (H : Heap) (locs : List Loc) (ls : Array Slot), k_Wd D A s.heap [(a_this, .inr (6, [.ref a_join, .ref w_oldJoin, .ref w_totals, .ref w_oldTotals, .ref w_change, .ref w_dangling, .ref a_tally])), (a_join, .inr (0, [.ref a_join_codes, .ref a_join_counts, .int join_size, .int join_total])), (a_join_codes, .inl (cA 0, n_join_codes, .inl join_codes)), (a_join_counts, .inl (cA 0, n_join_counts, .inl join_counts)), (a_tally, .inl (cA 0, n_tally, .inl tally))] H locs → lv_has ls 4 [(0, .ref a_this), (2, .int x2), (3, .int x3)] → f_X6_differentProducts_9 fu n_join_codes n_join_counts n_tally join_size join_codes join_counts v1 n9 x2 x3 tally = some (ret_, tally') → W p l e rm_X6_differentProducts s m [.ref a_this, .int v1].toArray below meth c H locs 0 0 (MQ below (k_Q (some (.int ret_)) D [(a_this, .inr (6, [.ref a_join, .ref w_oldJoin, .ref w_totals, .ref w_oldTotals, .ref w_change, .ref w_dangling, .ref a_tally])), (a_join, .inr (0, [.ref a_join_codes, .ref a_join_counts, .int join_size, .int join_total])), (a_join_codes, .inl (cA 0, n_join_codes, .inl join_codes)), (a_join_counts, .inl (cA 0, n_join_counts, .inl join_counts)), (a_tally, .inl (cA 0, n_tally, .inl (tally')))] A) [.ref a_this, .int v1].toArray s 0 0 A) (F0 m 9 ls []) := by
    intro n9
    induction n9 with
    | zero => intro x2 x3 tally H locs ls hW hl h; exact k_no h
    | succ n9 ih9 =>
      have J30 : ∀ (x2 : Int32) (x3 : Int32) (tally : Nat → Int32) (H : Heap) (locs : List Loc) (ls : Array Slot), k_Wd D A s.heap [(a_this, .inr (6, [.ref a_join, .ref w_oldJoin, .ref w_totals, .ref w_oldTotals, .ref w_change, .ref w_dangling, .ref a_tally])), (a_join, .inr (0, [.ref a_join_codes, .ref a_join_counts, .int join_size, .int join_total])), (a_join_codes, .inl (cA 0, n_join_codes, .inl join_codes)), (a_join_counts, .inl (cA 0, n_join_counts, .inl join_counts)), (a_tally, .inl (cA 0, n_tally, .inl tally))] H locs → lv_has ls 4 [(0, .ref a_this), (2, .int x2), (3, .int x3)] → f_X6_differentProducts_30 fu n_join_codes n_join_counts n_tally join_size join_codes join_counts v1 (f_X6_differentProducts_9 fu n_join_codes n_join_counts n_tally join_size join_codes join_counts v1 n9) x2 x3 tally = some (ret_, tally') → W p l e rm_X6_differentProducts s m [.ref a_this, .int v1].toArray below meth c H locs 0 0 (MQ below (k_Q (some (.int ret_)) D [(a_this, .inr (6, [.ref a_join, .ref w_oldJoin, .ref w_totals, .ref w_oldTotals, .ref w_change, .ref w_dangling, .ref a_tally])), (a_join, .inr (0, [.ref a_join_codes, .ref a_join_counts, .int join_size, .int join_total])), (a_join_codes, .inl (cA 0, n_join_codes, .inl join_codes)), (a_join_counts, .inl (cA 0, n_join_counts, .inl join_counts)), (a_tally, .inl (cA 0, n_tally, .inl (tally')))] A) [.ref a_this, .int v1].toArray s 0 0 A) (F0 m 30 ls []) := by
        intro x2 x3 tally H locs ls hW hl h
        obtain ⟨x_1, ex_1⟩ : ∃ y : Int32, y = x3 + 1 := ⟨_, rfl⟩
        have h := k_letE ex_1 h
        refine lv_iinc (v := x_1) (lv' := [(3, .int x_1), (0, .ref a_this), (2, .int x2)]) hx hb dX6_differentProducts_30 hl (k := 2) rfl (by rw [ex_1]; rfl) (by decide) rfl (fun ls hl => ?_)
        refine lv_goto (tgt := 9) hx hb dX6_differentProducts_33 (by decide) ?_
        exact ih9 x2 x_1 tally H locs ls hW (lv_sub hl [1, 2, 0] rfl) h
      intro x2 x3 tally H locs ls hW hl h
      have h := (fs_X6_differentProducts_9 _ _ _ _ _ _ _ _ _ _ _ _).symm.trans h
      refine lv_iload_n hx hb dX6_differentProducts_9 rfl (lv_at hl 2 rfl) ?_
      refine lv_aload_n hx hb dX6_differentProducts_10 rfl (lv_at hl 0 rfl) ?_
      refine va_get (D := D) (ci := 6) (v := .ref a_tally) (C := RX6) (T := TX6) (N := 7) hx hb hts iX6 hown hB.1 hW.1 0 rfl rfl 6 (by decide) (hts _ q1_180) (fun _ h9 => h9) rfl dX6_differentProducts_11 ?_
      refine va_alen hx hb hB.1 hW.1 4 0 rfl (v := nI n_tally) rfl rfl dX6_differentProducts_14 ?_
      refine lv_icmp_ge (tgt := 36) hx hb dX6_differentProducts_15 (by decide) (fun c_2 => ?_) (fun c_2 => ?_)
      · have h := k_t c_2 h
        refine lv_iload_n hx hb dX6_differentProducts_36 rfl (lv_at hl 1 rfl) ?_
        obtain ⟨z0, z1⟩ := k_inj2 h
        rw [← z0, ← z1]
        exact W.iret hx hb hr (fun t ht hWm => ⟨rfl, by rw [ht]; exact hW.1, hW.2.2.F ht⟩) hW.2.2.2.2 dX6_differentProducts_37
      · have h := k_f c_2 h
        refine lv_aload_n hx hb dX6_differentProducts_18 rfl (lv_at hl 0 rfl) ?_
        refine va_get (D := D) (ci := 6) (v := .ref a_tally) (C := RX6) (T := TX6) (N := 7) hx hb hts iX6 hown hB.1 hW.1 0 rfl rfl 6 (by decide) (hts _ q1_180) (fun _ h9 => h9) rfl dX6_differentProducts_19 ?_
        refine lv_iload_n hx hb dX6_differentProducts_22 rfl (lv_at hl 2 rfl) ?_
        obtain ⟨c_3, h⟩ := k_g h
        refine va_iald hx hb hB.1 hW.1 4 0 rfl rfl c_3 dX6_differentProducts_23 ?_
        refine lv_topi (fun x_4 ex_4 => ?_)
        have h := k_letE ex_4 h
        refine lv_if_eq (tgt := 30) hx hb dX6_differentProducts_24 (by decide) (fun c_5 => ?_) (fun c_5 => ?_)
        · have h := k_t c_5 h
          exact J30 x2 x3 tally H locs ls hW (lv_sub hl [0, 1, 2] rfl) h
        · have h := k_f c_5 h
          obtain ⟨x_6, ex_6⟩ : ∃ y : Int32, y = x2 + 1 := ⟨_, rfl⟩
          have h := k_letE ex_6 h
          refine lv_iinc (v := x_6) (lv' := [(2, .int x_6), (0, .ref a_this), (3, .int x3)]) hx hb dX6_differentProducts_27 hl (k := 1) rfl (by rw [ex_6]; rfl) (by decide) rfl (fun ls hl => ?_)
          exact J30 x_6 x3 tally H locs ls hW (lv_sub hl [1, 0, 2] rfl) h
  refine lv_aload_n hx hb dX6_differentProducts_0 rfl (lv_at hl 0 rfl) ?_
  refine lv_iload_n hx hb dX6_differentProducts_1 rfl (lv_at hl 1 rfl) ?_
  obtain ⟨tally__8, h_7, h⟩ := k_bE1 h
  refine k_callV (C := RX6) (ws' := [(a_this, .inr (6, [.ref a_join, .ref w_oldJoin, .ref w_totals, .ref w_oldTotals, .ref w_change, .ref w_dangling, .ref a_tally])), (a_join, .inr (0, [.ref a_join_codes, .ref a_join_counts, .int join_size, .int join_total])), (a_join_codes, .inl (cA 0, n_join_codes, .inl join_codes)), (a_join_counts, .inl (cA 0, n_join_counts, .inl join_counts)), (a_tally, .inl (cA 0, n_tally, .inl tally__8))]) (As := [.int v1]) (rest := []) (b := a_this) (m_X6_tallyProducts l D cA H.size a_this a_join a_join_codes a_join_counts a_tally w_oldJoin w_totals w_oldTotals w_change w_dangling fu n_join_codes n_join_counts n_tally join_size join_total join_codes join_counts tally v1 tally__8 h_7) hx hb hml hown hts hB hA hW hl.1 q4_97 q1_8 q4_96 qs_yX6_tallyProducts q4_94 pd_X6_tallyProducts ⟨rfl, rfl, Nat.le_of_ble_eq_true rfl, Nat.le_of_ble_eq_true rfl⟩ rfl 0 rfl rfl [0, 1, 2, 3, 4] [] ⟨rfl, rfl, rfl, rfl, rfl, trivial⟩ rfl ⟨⟨rfl, rfl, rfl, rfl, rfl, trivial⟩, trivial, rfl⟩ rfl rfl (Nat.le_of_ble_eq_true rfl) ⟨Nat.zero_le _, Nat.zero_le _⟩ dX6_differentProducts_2 (st1 := []) rfl (fun H locs hW => ?_)
  refine lv_iconst (v := 0) hx hb dX6_differentProducts_5 (by decide) ?_
  refine lv_istore_n (lv' := [(2, .int 0), (0, .ref a_this), (1, .int v1)]) hx hb dX6_differentProducts_6 rfl hl (by decide) rfl (fun ls hl => ?_)
  refine lv_iconst (v := 0) hx hb dX6_differentProducts_7 (by decide) ?_
  refine lv_istore_n (lv' := [(3, .int 0), (2, .int 0), (0, .ref a_this), (1, .int v1)]) hx hb dX6_differentProducts_8 rfl hl (by decide) rfl (fun ls hl => ?_)
  exact J9 fu 0 0 tally__8 H locs ls hW (lv_sub hl [2, 1, 0] rfl) h
