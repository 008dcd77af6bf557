theorem pd_X5_init : k_D1 yX5_init 0 := by decide +kernel
abbrev sh_X5_init (cA : Nat → ClassId) (a_this : Nat) (ad : Nat → Nat) : va_W := [(a_this, .inr (5, [.ref (ad 0), .ref (ad 3)])), (ad 0, .inr (0, [.ref (ad 1), .ref (ad 2), .int 0, .int 0])), (ad 1, .inl (cA 0, 60, .inl (fun _ => 0))), (ad 2, .inl (cA 0, 60, .inl (fun _ => 0))), (ad 3, .inr (0, [.ref (ad 4), .ref (ad 5), .int 0, .int 0])), (ad 4, .inl (cA 0, 60, .inl (fun _ => 0))), (ad 5, .inl (cA 0, 60, .inl (fun _ => 0)))]
abbrev rm_X5_init : Room := { frames := 2, cells := 6, slots := 248, locals := 42 }
set_option maxHeartbeats 4000000 in
set_option maxRecDepth 100000 in
theorem mi_X5_init (l : Launch) (D : va_G) (cA : Nat → ClassId) (sz a_this : Nat) : k_MI l yX5_init prog_7_method_1_code 1 rm_X5_init D cA [.ref a_this] [(a_this, .inr (5, [.null, .null]))] sz (sh_X5_init cA a_this) 6 248 := by
  refine k_ofWI (by decide) (Nat.le_of_ble_eq_true rfl) ?_
  intro p e s m below meth c A ls hx hb hr hml hts hown hlocks hin hB hA hW hl hO
  have hl : lv_has ls 1 [(0, .ref a_this)] := hl
  have hin : meth.name = "<init>" := hin
  obtain ⟨H, eH⟩ : ∃ H, H = s.heap := ⟨_, rfl⟩
  obtain ⟨locs, eL⟩ : ∃ L : List Loc, L = [] := ⟨_, rfl⟩
  have hW : k_Wd D A s.heap [(a_this, .inr (5, [.null, .null]))] H locs := by rw [eH, eL]; exact hW
  suffices K : W p l e rm_X5_init s m [.ref a_this].toArray below meth c H locs 0 0 (MQ below (k_QN D (sh_X5_init cA a_this) A) [.ref a_this].toArray s 6 248 A) (F0 m 0 ls []) by rw [eH, eL] at K; exact K
  clear eH eL
  refine lv_aload_n hx hb dX5_init_0 rfl (lv_at hl 0 rfl) ?_
  refine W.objInit hx hb hown (hts _ q1_39) (hts _ q1_32) (hts _ q1_33) rfl (by rw [hml]; exact hl.1) rfl dX5_init_1 (Nat.le_of_ble_eq_true rfl) (Nat.le_of_ble_eq_true rfl) ?_
  show W p l e _ s m _ below meth c H locs _ _ _ (F0 m 4 ls [])
  refine lv_aload_n hx hb dX5_init_4 rfl (lv_at hl 0 rfl) ?_
  refine va_new (ci := 0) (fs := [.null, .null, .int 0, .int 0]) (C := RX0) (T := TX0) (N := 4) hx hb hts iX0 tyX0 tyX0_ok hown (hts _ q1_40) (hts _ q1_41) (hts _ q1_3) hB.1 hW.1 hW.2.1 hW.2.2 hA rfl (fun j hj => by rcases (show j = 0 ∨ j = 1 ∨ j = 2 ∨ j = 3 by omega) with rfl | rfl | rfl | rfl <;> rfl) (Nat.le_of_ble_eq_true rfl) (Nat.le_of_ble_eq_true rfl) dX5_init_5 (fun q1 H hP hD hS => ?_)
  have hW : k_Wd D A s.heap [(a_this, .inr (5, [.null, .null])), (q1, .inr (0, [.null, .null, .int 0, .int 0]))] H locs := ⟨hP, hD, hS⟩
  refine lv_dup hx hb dX5_init_8 rfl ?_
  refine lv_bipush (v := 60) hx hb dX5_init_9 (by decide) ?_
  refine k_callI (As := [.int 60]) (rest := [.ref q1, .ref a_this]) (wr := [(a_this, .inr (5, [.null, .null]))]) (mi_X0_init_60 l D cA H.size q1) hx hb hml hown hts hB hO hA hW hl.1 q1_44 q1_3 q1_43 rfl q1_42 pd_X0_init ⟨rfl, rfl, (Nat.le_of_ble_eq_true rfl), (Nat.le_of_ble_eq_true rfl)⟩ rfl 1 rfl [0] rfl rfl (by decide +kernel) rfl (Nat.le_of_ble_eq_true rfl) ⟨(Nat.le_of_ble_eq_true rfl), (Nat.le_of_ble_eq_true rfl)⟩ dX5_init_11 (fun d2 H locs hW => ?_)
  have hW : k_Wd D A s.heap [(a_this, .inr (5, [.null, .null])), (q1, .inr (0, [.ref (d2 0), .ref (d2 1), .int 0, .int 0])), (d2 0, .inl (cA 0, 60, .inl (fun _ => 0))), (d2 1, .inl (cA 0, 60, .inl (fun _ => 0)))] H locs := hW
  refine va_putF (D := D) (ci := 5) (v := .ref q1) (ty := .object "ViewMaintainer$CountedRows") (C := RX5) (T := TX5) (N := 2) hx hb hts iX5 tyX5 tyX5_ok nmX5 hown hB.1 hW.1 hW.2.1 hW.2.2 0 rfl rfl 0 (by decide) (hts _ q1_60) (fun _ h9 => h9) rfl hin rfl (tyX5_ok 0 (by decide)) rfl rfl (Nat.le_of_ble_eq_true rfl) dX5_init_14 (fun H locs hP hD hS => ?_)
  have hW : k_Wd D A s.heap [(a_this, .inr (5, [.ref q1, .null])), (q1, .inr (0, [.ref (d2 0), .ref (d2 1), .int 0, .int 0])), (d2 0, .inl (cA 0, 60, .inl (fun _ => 0))), (d2 1, .inl (cA 0, 60, .inl (fun _ => 0)))] H locs := ⟨hP, hD, hS⟩
  refine lv_aload_n hx hb dX5_init_17 rfl (lv_at hl 0 rfl) ?_
  refine va_new (ci := 0) (fs := [.null, .null, .int 0, .int 0]) (C := RX0) (T := TX0) (N := 4) hx hb hts iX0 tyX0 tyX0_ok hown (hts _ q1_40) (hts _ q1_41) (hts _ q1_3) hB.1 hW.1 hW.2.1 hW.2.2 hA rfl (fun j hj => by rcases (show j = 0 ∨ j = 1 ∨ j = 2 ∨ j = 3 by omega) with rfl | rfl | rfl | rfl <;> rfl) (Nat.le_of_ble_eq_true rfl) (Nat.le_of_ble_eq_true rfl) dX5_init_18 (fun q3 H hP hD hS => ?_)
  have hW : k_Wd D A s.heap [(a_this, .inr (5, [.ref q1, .null])), (q1, .inr (0, [.ref (d2 0), .ref (d2 1), .int 0, .int 0])), (d2 0, .inl (cA 0, 60, .inl (fun _ => 0))), (d2 1, .inl (cA 0, 60, .inl (fun _ => 0))), (q3, .inr (0, [.null, .null, .int 0, .int 0]))] H locs := ⟨hP, hD, hS⟩
  refine lv_dup hx hb dX5_init_21 rfl ?_
  refine lv_bipush (v := 60) hx hb dX5_init_22 (by decide) ?_
  refine k_callI (As := [.int 60]) (rest := [.ref q3, .ref a_this]) (wr := [(a_this, .inr (5, [.ref q1, .null])), (q1, .inr (0, [.ref (d2 0), .ref (d2 1), .int 0, .int 0])), (d2 0, .inl (cA 0, 60, .inl (fun _ => 0))), (d2 1, .inl (cA 0, 60, .inl (fun _ => 0)))]) (mi_X0_init_60 l D cA H.size q3) hx hb hml hown hts hB hO hA hW hl.1 q1_44 q1_3 q1_43 rfl q1_42 pd_X0_init ⟨rfl, rfl, (Nat.le_of_ble_eq_true rfl), (Nat.le_of_ble_eq_true rfl)⟩ rfl 4 rfl [0, 1, 2, 3] rfl rfl (by decide +kernel) rfl (Nat.le_of_ble_eq_true rfl) ⟨(Nat.le_of_ble_eq_true rfl), (Nat.le_of_ble_eq_true rfl)⟩ dX5_init_24 (fun d4 H locs hW => ?_)
  have hW : k_Wd D A s.heap [(a_this, .inr (5, [.ref q1, .null])), (q1, .inr (0, [.ref (d2 0), .ref (d2 1), .int 0, .int 0])), (d2 0, .inl (cA 0, 60, .inl (fun _ => 0))), (d2 1, .inl (cA 0, 60, .inl (fun _ => 0))), (q3, .inr (0, [.ref (d4 0), .ref (d4 1), .int 0, .int 0])), (d4 0, .inl (cA 0, 60, .inl (fun _ => 0))), (d4 1, .inl (cA 0, 60, .inl (fun _ => 0)))] H locs := hW
  refine va_putF (D := D) (ci := 5) (v := .ref q3) (ty := .object "ViewMaintainer$CountedRows") (C := RX5) (T := TX5) (N := 2) hx hb hts iX5 tyX5 tyX5_ok nmX5 hown hB.1 hW.1 hW.2.1 hW.2.2 0 rfl rfl 1 (by decide) (hts _ q1_63) (fun _ h9 => h9) rfl hin rfl (tyX5_ok 1 (by decide)) rfl rfl (Nat.le_of_ble_eq_true rfl) dX5_init_27 (fun H locs hP hD hS => ?_)
  have hW : k_Wd D A s.heap [(a_this, .inr (5, [.ref q1, .ref q3])), (q1, .inr (0, [.ref (d2 0), .ref (d2 1), .int 0, .int 0])), (d2 0, .inl (cA 0, 60, .inl (fun _ => 0))), (d2 1, .inl (cA 0, 60, .inl (fun _ => 0))), (q3, .inr (0, [.ref (d4 0), .ref (d4 1), .int 0, .int 0])), (d4 0, .inl (cA 0, 60, .inl (fun _ => 0))), (d4 1, .inl (cA 0, 60, .inl (fun _ => 0)))] H locs := ⟨hP, hD, hS⟩
  refine W.widen (k := 6) (n := 248) (Nat.le_of_ble_eq_true rfl) (Nat.le_of_ble_eq_true rfl) ?_
  exact W.vret hx hb hr (fun t ht hWm => ⟨rfl, ⟨(fun k => ([q1, d2 0, d2 1, q3, d4 0, d4 1] : List Nat).getD k 0), by rw [ht]; exact hW.1, hW.2.1⟩, hW.2.2.F ht⟩) hW.2.2.2.2 dX5_init_30
theorem pd_X2_init : k_D1 yX2_init 0 := by decide +kernel
abbrev sh_X2_init (cA : Nat → ClassId) (a_this : Nat) (ad : Nat → Nat) : va_W := [(a_this, .inr (2, [.ref (ad 0), .int 0, .int 0, .ref (ad 1), .int 0, .int 0, .ref (ad 2)])), (ad 0, .inl (cA 1, 40, .inl (fun _ => 0))), (ad 1, .inl (cA 0, 40, .inl (fun _ => 0))), (ad 2, .inr (1, [.ref (ad 3), .ref (ad 4), .int 0])), (ad 3, .inl (cA 0, 40, .inl (fun _ => 0))), (ad 4, .inl (cA 0, 40, .inl (fun _ => 0)))]
abbrev rm_X2_init : Room := { frames := 2, cells := 5, slots := 163, locals := 40 }
set_option maxHeartbeats 4000000 in
set_option maxRecDepth 100000 in
theorem mi_X2_init (l : Launch) (D : va_G) (cA : Nat → ClassId) (sz a_this : Nat) : k_MI l yX2_init prog_4_method_1_code 1 rm_X2_init D cA [.ref a_this] [(a_this, .inr (2, [.null, .int 0, .int 0, .null, .int 0, .int 0, .null]))] sz (sh_X2_init cA a_this) 5 163 := by
  refine k_ofWI (by decide) (Nat.le_of_ble_eq_true rfl) ?_
  intro p e s m below meth c A ls hx hb hr hml hts hown hlocks hin hB hA hW hl hO
  have hl : lv_has ls 1 [(0, .ref a_this)] := hl
  have hin : meth.name = "<init>" := hin
  obtain ⟨H, eH⟩ : ∃ H, H = s.heap := ⟨_, rfl⟩
  obtain ⟨locs, eL⟩ : ∃ L : List Loc, L = [] := ⟨_, rfl⟩
  have hW : k_Wd D A s.heap [(a_this, .inr (2, [.null, .int 0, .int 0, .null, .int 0, .int 0, .null]))] H locs := by rw [eH, eL]; exact hW
  suffices K : W p l e rm_X2_init s m [.ref a_this].toArray below meth c H locs 0 0 (MQ below (k_QN D (sh_X2_init cA a_this) A) [.ref a_this].toArray s 5 163 A) (F0 m 0 ls []) by rw [eH, eL] at K; exact K
  clear eH eL
  refine lv_aload_n hx hb dX2_init_0 rfl (lv_at hl 0 rfl) ?_
  refine W.objInit hx hb hown (hts _ q1_111) (hts _ q1_32) (hts _ q1_33) rfl (by rw [hml]; exact hl.1) rfl dX2_init_1 (Nat.le_of_ble_eq_true rfl) (Nat.le_of_ble_eq_true rfl) ?_
  show W p l e _ s m _ below meth c H locs _ _ _ (F0 m 4 ls [])
  refine lv_aload_n hx hb dX2_init_4 rfl (lv_at hl 0 rfl) ?_
  refine lv_bipush (v := 40) hx hb dX2_init_5 (by decide) ?_
  refine k_newa (atype := .char) hx hb hts hB hA hW 1 rfl (fun _ h9 => h9) q1_136 (n := 40) (N' := 40) (a0 := (40, .inl (fun _ => 0))) (fun _ => rfl) (by decide) (by decide) (Nat.le_of_ble_eq_true rfl) (Nat.le_of_ble_eq_true rfl) (Nat.le_of_ble_eq_true rfl) dX2_init_7 (fun q1 H hW => ?_)
  have hW : k_Wd D A s.heap [(a_this, .inr (2, [.null, .int 0, .int 0, .null, .int 0, .int 0, .null])), (q1, .inl (cA 1, 40, .inl (fun _ => 0)))] H locs := hW
  refine va_putF (D := D) (ci := 2) (v := .ref q1) (ty := .array .char) (C := RX2) (T := TX2) (N := 7) hx hb hts iX2 tyX2 tyX2_ok nmX2 hown hB.1 hW.1 hW.2.1 hW.2.2 0 rfl rfl 0 (by decide) (hts _ q1_114) (fun _ h9 => h9) rfl hin rfl (tyX2_ok 0 (by decide)) rfl rfl (Nat.le_of_ble_eq_true rfl) dX2_init_9 (fun H locs hP hD hS => ?_)
  have hW : k_Wd D A s.heap [(a_this, .inr (2, [.ref q1, .int 0, .int 0, .null, .int 0, .int 0, .null])), (q1, .inl (cA 1, 40, .inl (fun _ => 0)))] H locs := ⟨hP, hD, hS⟩
  refine lv_aload_n hx hb dX2_init_12 rfl (lv_at hl 0 rfl) ?_
  refine lv_iconst (v := 0) hx hb dX2_init_13 (by decide) ?_
  refine va_put (D := D) (ci := 2) (v := .int 0) (ty := .int) (C := RX2) (T := TX2) (N := 7) hx hb hts iX2 tyX2 tyX2_ok nmX2 hown hB.1 hW.1 hW.2.1 hW.2.2 0 rfl rfl 1 (by decide) (hts _ q1_115) (fun _ h9 => h9) rfl (tyX2_ok 1 (by decide)) rfl rfl (Nat.le_of_ble_eq_true rfl) dX2_init_14 (fun H locs hP hD hS => ?_)
  have hW : k_Wd D A s.heap [(a_this, .inr (2, [.ref q1, .int 0, .int 0, .null, .int 0, .int 0, .null])), (q1, .inl (cA 1, 40, .inl (fun _ => 0)))] H locs := ⟨hP, hD, hS⟩
  refine lv_aload_n hx hb dX2_init_17 rfl (lv_at hl 0 rfl) ?_
  refine lv_iconst (v := 0) hx hb dX2_init_18 (by decide) ?_
  refine va_put (D := D) (ci := 2) (v := .int 0) (ty := .int) (C := RX2) (T := TX2) (N := 7) hx hb hts iX2 tyX2 tyX2_ok nmX2 hown hB.1 hW.1 hW.2.1 hW.2.2 0 rfl rfl 2 (by decide) (hts _ q1_116) (fun _ h9 => h9) rfl (tyX2_ok 2 (by decide)) rfl rfl (Nat.le_of_ble_eq_true rfl) dX2_init_19 (fun H locs hP hD hS => ?_)
  have hW : k_Wd D A s.heap [(a_this, .inr (2, [.ref q1, .int 0, .int 0, .null, .int 0, .int 0, .null])), (q1, .inl (cA 1, 40, .inl (fun _ => 0)))] H locs := ⟨hP, hD, hS⟩
  refine lv_aload_n hx hb dX2_init_22 rfl (lv_at hl 0 rfl) ?_
  refine lv_bipush (v := 40) hx hb dX2_init_23 (by decide) ?_
  refine k_newa (atype := .int) hx hb hts hB hA hW 0 rfl (fun _ h9 => h9) q1_59 (n := 40) (N' := 40) (a0 := (40, .inl (fun _ => 0))) (fun _ => rfl) (by decide) (by decide) (Nat.le_of_ble_eq_true rfl) (Nat.le_of_ble_eq_true rfl) (Nat.le_of_ble_eq_true rfl) dX2_init_25 (fun q2 H hW => ?_)
  have hW : k_Wd D A s.heap [(a_this, .inr (2, [.ref q1, .int 0, .int 0, .null, .int 0, .int 0, .null])), (q1, .inl (cA 1, 40, .inl (fun _ => 0))), (q2, .inl (cA 0, 40, .inl (fun _ => 0)))] H locs := hW
  refine va_putF (D := D) (ci := 2) (v := .ref q2) (ty := .array .int) (C := RX2) (T := TX2) (N := 7) hx hb hts iX2 tyX2 tyX2_ok nmX2 hown hB.1 hW.1 hW.2.1 hW.2.2 0 rfl rfl 3 (by decide) (hts _ q1_117) (fun _ h9 => h9) rfl hin rfl (tyX2_ok 3 (by decide)) rfl rfl (Nat.le_of_ble_eq_true rfl) dX2_init_27 (fun H locs hP hD hS => ?_)
  have hW : k_Wd D A s.heap [(a_this, .inr (2, [.ref q1, .int 0, .int 0, .ref q2, .int 0, .int 0, .null])), (q1, .inl (cA 1, 40, .inl (fun _ => 0))), (q2, .inl (cA 0, 40, .inl (fun _ => 0)))] H locs := ⟨hP, hD, hS⟩
  refine lv_aload_n hx hb dX2_init_30 rfl (lv_at hl 0 rfl) ?_
  refine lv_iconst (v := 0) hx hb dX2_init_31 (by decide) ?_
  refine va_put (D := D) (ci := 2) (v := .int 0) (ty := .int) (C := RX2) (T := TX2) (N := 7) hx hb hts iX2 tyX2 tyX2_ok nmX2 hown hB.1 hW.1 hW.2.1 hW.2.2 0 rfl rfl 4 (by decide) (hts _ q1_118) (fun _ h9 => h9) rfl (tyX2_ok 4 (by decide)) rfl rfl (Nat.le_of_ble_eq_true rfl) dX2_init_32 (fun H locs hP hD hS => ?_)
  have hW : k_Wd D A s.heap [(a_this, .inr (2, [.ref q1, .int 0, .int 0, .ref q2, .int 0, .int 0, .null])), (q1, .inl (cA 1, 40, .inl (fun _ => 0))), (q2, .inl (cA 0, 40, .inl (fun _ => 0)))] H locs := ⟨hP, hD, hS⟩
  refine lv_aload_n hx hb dX2_init_35 rfl (lv_at hl 0 rfl) ?_
  refine lv_iconst (v := 0) hx hb dX2_init_36 (by decide) ?_
  refine va_put (D := D) (ci := 2) (v := .int 0) (ty := .int) (C := RX2) (T := TX2) (N := 7) hx hb hts iX2 tyX2 tyX2_ok nmX2 hown hB.1 hW.1 hW.2.1 hW.2.2 0 rfl rfl 5 (by decide) (hts _ q1_119) (fun _ h9 => h9) rfl (tyX2_ok 5 (by decide)) rfl rfl (Nat.le_of_ble_eq_true rfl) dX2_init_37 (fun H locs hP hD hS => ?_)
  have hW : k_Wd D A s.heap [(a_this, .inr (2, [.ref q1, .int 0, .int 0, .ref q2, .int 0, .int 0, .null])), (q1, .inl (cA 1, 40, .inl (fun _ => 0))), (q2, .inl (cA 0, 40, .inl (fun _ => 0)))] H locs := ⟨hP, hD, hS⟩
  refine lv_aload_n hx hb dX2_init_40 rfl (lv_at hl 0 rfl) ?_
  refine va_new (ci := 1) (fs := [.null, .null, .int 0]) (C := RX1) (T := TX1) (N := 3) hx hb hts iX1 tyX1 tyX1_ok hown (hts _ q1_112) (hts _ q1_91) (hts _ q1_5) hB.1 hW.1 hW.2.1 hW.2.2 hA rfl (fun j hj => by rcases (show j = 0 ∨ j = 1 ∨ j = 2 by omega) with rfl | rfl | rfl <;> rfl) (Nat.le_of_ble_eq_true rfl) (Nat.le_of_ble_eq_true rfl) dX2_init_41 (fun q3 H hP hD hS => ?_)
  have hW : k_Wd D A s.heap [(a_this, .inr (2, [.ref q1, .int 0, .int 0, .ref q2, .int 0, .int 0, .null])), (q1, .inl (cA 1, 40, .inl (fun _ => 0))), (q2, .inl (cA 0, 40, .inl (fun _ => 0))), (q3, .inr (1, [.null, .null, .int 0]))] H locs := ⟨hP, hD, hS⟩
  refine lv_dup hx hb dX2_init_44 rfl ?_
  refine k_callIN (As := []) (rest := [.ref q3, .ref a_this]) (wr := [(a_this, .inr (2, [.ref q1, .int 0, .int 0, .ref q2, .int 0, .int 0, .null])), (q1, .inl (cA 1, 40, .inl (fun _ => 0))), (q2, .inl (cA 0, 40, .inl (fun _ => 0)))]) (mi_X1_init l D cA H.size q3) hx hb hml hown hts hB hO hA hW hl.1 q1_94 q1_5 q1_93 rfl (hB.2 _ (ln_in r_q1_113 rfl)) pd_X1_init ⟨rfl, rfl, (Nat.le_of_ble_eq_true rfl), (Nat.le_of_ble_eq_true rfl)⟩ rfl 3 rfl [0, 1, 2] rfl rfl (by decide +kernel) rfl (Nat.le_of_ble_eq_true rfl) ⟨(Nat.le_of_ble_eq_true rfl), (Nat.le_of_ble_eq_true rfl)⟩ dX2_init_45 (fun d4 H locs hW => ?_)
  have hW : k_Wd D A s.heap [(a_this, .inr (2, [.ref q1, .int 0, .int 0, .ref q2, .int 0, .int 0, .null])), (q1, .inl (cA 1, 40, .inl (fun _ => 0))), (q2, .inl (cA 0, 40, .inl (fun _ => 0))), (q3, .inr (1, [.ref (d4 0), .ref (d4 1), .int 0])), (d4 0, .inl (cA 0, 40, .inl (fun _ => 0))), (d4 1, .inl (cA 0, 40, .inl (fun _ => 0)))] H locs := hW
  refine va_putF (D := D) (ci := 2) (v := .ref q3) (ty := .object "ViewMaintainer$Filter") (C := RX2) (T := TX2) (N := 7) hx hb hts iX2 tyX2 tyX2_ok nmX2 hown hB.1 hW.1 hW.2.1 hW.2.2 0 rfl rfl 6 (by decide) (hts _ q1_120) (fun _ h9 => h9) rfl hin rfl (tyX2_ok 6 (by decide)) rfl rfl (Nat.le_of_ble_eq_true rfl) dX2_init_48 (fun H locs hP hD hS => ?_)
  have hW : k_Wd D A s.heap [(a_this, .inr (2, [.ref q1, .int 0, .int 0, .ref q2, .int 0, .int 0, .ref q3])), (q1, .inl (cA 1, 40, .inl (fun _ => 0))), (q2, .inl (cA 0, 40, .inl (fun _ => 0))), (q3, .inr (1, [.ref (d4 0), .ref (d4 1), .int 0])), (d4 0, .inl (cA 0, 40, .inl (fun _ => 0))), (d4 1, .inl (cA 0, 40, .inl (fun _ => 0)))] H locs := ⟨hP, hD, hS⟩
  refine W.widen (k := 5) (n := 163) (Nat.le_of_ble_eq_true rfl) (Nat.le_of_ble_eq_true rfl) ?_
  exact W.vret hx hb hr (fun t ht hWm => ⟨rfl, ⟨(fun k => ([q1, q2, q3, d4 0, d4 1] : List Nat).getD k 0), by rw [ht]; exact hW.1, hW.2.1⟩, hW.2.2.F ht⟩) hW.2.2.2.2 dX2_init_51
