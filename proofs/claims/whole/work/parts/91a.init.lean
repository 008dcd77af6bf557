theorem pd_X0_init : k_D1 yX0_init 1 := by decide +kernel
abbrev sh_X0_init_60 (cA : Nat → ClassId) (a_this : Nat) (ad : Nat → Nat) : va_W := [(a_this, .inr (0, [.ref (ad 0), .ref (ad 1), .int 0, .int 0])), (ad 0, .inl (cA 0, 60, .inl (fun _ => 0))), (ad 1, .inl (cA 0, 60, .inl (fun _ => 0)))]
abbrev rm_X0_init_60 : Room := { frames := 1, cells := 2, slots := 120, locals := 20 }
set_option maxHeartbeats 4000000 in
set_option maxRecDepth 100000 in
theorem mi_X0_init_60 (l : Launch) (D : va_G) (cA : Nat → ClassId) (sz a_this : Nat) : k_MI l yX0_init prog_2_method_1_code 3 rm_X0_init_60 D cA [.ref a_this, .int 60] [(a_this, .inr (0, [.null, .null, .int 0, .int 0]))] sz (sh_X0_init_60 cA a_this) 2 120 := by
  refine k_ofWI (by decide) (Nat.le_of_ble_eq_true rfl) ?_
  intro p e s m below meth c A ls hx hb hr hml hts hown hlocks hin hB hA hW hl hO
  have hl : lv_has ls 3 [(0, .ref a_this), (1, .int 60)] := hl
  have hin : meth.name = "<init>" := hin
  obtain ⟨H, eH⟩ : ∃ H, H = s.heap := ⟨_, rfl⟩
  obtain ⟨locs, eL⟩ : ∃ L : List Loc, L = [] := ⟨_, rfl⟩
  have hW : k_Wd D A s.heap [(a_this, .inr (0, [.null, .null, .int 0, .int 0]))] H locs := by rw [eH, eL]; exact hW
  suffices K : W p l e rm_X0_init_60 s m [.ref a_this, .int 60].toArray below meth c H locs 0 0 (MQ below (k_QN D (sh_X0_init_60 cA a_this) A) [.ref a_this, .int 60].toArray s 2 120 A) (F0 m 0 ls []) by rw [eH, eL] at K; exact K
  clear eH eL
  refine lv_aload_n hx hb dX0_init_0 rfl (lv_at hl 0 rfl) ?_
  refine W.objInit hx hb hown (hts _ q1_45) (hts _ q1_32) (hts _ q1_33) rfl (by rw [hml]; exact hl.1) rfl dX0_init_1 (Nat.le_of_ble_eq_true rfl) (Nat.le_of_ble_eq_true rfl) ?_
  show W p l e _ s m _ below meth c H locs _ _ _ (F0 m 4 ls [])
  refine lv_aload_n hx hb dX0_init_4 rfl (lv_at hl 0 rfl) ?_
  refine lv_iconst (v := 0) hx hb dX0_init_5 (by decide) ?_
  refine va_put (D := D) (ci := 0) (v := .int 0) (ty := .int) (C := RX0) (T := TX0) (N := 4) hx hb hts iX0 tyX0 tyX0_ok nmX0 hown hB.1 hW.1 hW.2.1 hW.2.2 0 rfl rfl 2 (by decide) (hts _ q1_48) (fun _ h9 => h9) rfl (tyX0_ok 2 (by decide)) rfl rfl (Nat.le_of_ble_eq_true rfl) dX0_init_6 (fun H locs hP hD hS => ?_)
  have hW : k_Wd D A s.heap [(a_this, .inr (0, [.null, .null, .int 0, .int 0]))] H locs := ⟨hP, hD, hS⟩
  refine lv_aload_n hx hb dX0_init_9 rfl (lv_at hl 0 rfl) ?_
  refine lv_iconst (v := 0) hx hb dX0_init_10 (by decide) ?_
  refine va_put (D := D) (ci := 0) (v := .int 0) (ty := .int) (C := RX0) (T := TX0) (N := 4) hx hb hts iX0 tyX0 tyX0_ok nmX0 hown hB.1 hW.1 hW.2.1 hW.2.2 0 rfl rfl 3 (by decide) (hts _ q1_49) (fun _ h9 => h9) rfl (tyX0_ok 3 (by decide)) rfl rfl (Nat.le_of_ble_eq_true rfl) dX0_init_11 (fun H locs hP hD hS => ?_)
  have hW : k_Wd D A s.heap [(a_this, .inr (0, [.null, .null, .int 0, .int 0]))] H locs := ⟨hP, hD, hS⟩
  refine lv_iload_n hx hb dX0_init_14 rfl (lv_at hl 1 rfl) ?_
  refine lv_if_le (tgt := 22) hx hb dX0_init_15 (by decide) (fun c => absurd c (by decide)) (fun _ => ?_)
  refine lv_iload_n hx hb dX0_init_18 rfl (lv_at hl 1 rfl) ?_
  refine lv_goto (tgt := 23) hx hb dX0_init_19 (by decide) ?_
  refine lv_istore_n (lv' := [(2, .int 60), (0, .ref a_this), (1, .int 60)]) hx hb dX0_init_23 rfl hl (by decide) rfl (fun ls hl => ?_)
  refine lv_aload_n hx hb dX0_init_24 rfl (lv_at hl 1 rfl) ?_
  refine lv_iload_n hx hb dX0_init_25 rfl (lv_at hl 0 rfl) ?_
  refine k_newa (atype := .int) hx hb hts hB hA hW 0 rfl (fun _ h9 => h9) q1_59 (n := 60) (N' := 60) (a0 := (60, .inl (fun _ => 0))) (fun _ => rfl) (by decide) (by decide) (Nat.le_of_ble_eq_true rfl) (Nat.le_of_ble_eq_true rfl) (Nat.le_of_ble_eq_true rfl) dX0_init_26 (fun q1 H hW => ?_)
  have hW : k_Wd D A s.heap [(a_this, .inr (0, [.null, .null, .int 0, .int 0])), (q1, .inl (cA 0, 60, .inl (fun _ => 0)))] H locs := hW
  refine va_putF (D := D) (ci := 0) (v := .ref q1) (ty := .array .int) (C := RX0) (T := TX0) (N := 4) hx hb hts iX0 tyX0 tyX0_ok nmX0 hown hB.1 hW.1 hW.2.1 hW.2.2 0 rfl rfl 0 (by decide) (hts _ q1_46) (fun _ h9 => h9) rfl hin rfl (tyX0_ok 0 (by decide)) rfl rfl (Nat.le_of_ble_eq_true rfl) dX0_init_28 (fun H locs hP hD hS => ?_)
  have hW : k_Wd D A s.heap [(a_this, .inr (0, [.ref q1, .null, .int 0, .int 0])), (q1, .inl (cA 0, 60, .inl (fun _ => 0)))] H locs := ⟨hP, hD, hS⟩
  refine lv_aload_n hx hb dX0_init_31 rfl (lv_at hl 1 rfl) ?_
  refine lv_iload_n hx hb dX0_init_32 rfl (lv_at hl 0 rfl) ?_
  refine k_newa (atype := .int) hx hb hts hB hA hW 0 rfl (fun _ h9 => h9) q1_59 (n := 60) (N' := 60) (a0 := (60, .inl (fun _ => 0))) (fun _ => rfl) (by decide) (by decide) (Nat.le_of_ble_eq_true rfl) (Nat.le_of_ble_eq_true rfl) (Nat.le_of_ble_eq_true rfl) dX0_init_33 (fun q2 H hW => ?_)
  have hW : k_Wd D A s.heap [(a_this, .inr (0, [.ref q1, .null, .int 0, .int 0])), (q1, .inl (cA 0, 60, .inl (fun _ => 0))), (q2, .inl (cA 0, 60, .inl (fun _ => 0)))] H locs := hW
  refine va_putF (D := D) (ci := 0) (v := .ref q2) (ty := .array .int) (C := RX0) (T := TX0) (N := 4) hx hb hts iX0 tyX0 tyX0_ok nmX0 hown hB.1 hW.1 hW.2.1 hW.2.2 0 rfl rfl 1 (by decide) (hts _ q1_47) (fun _ h9 => h9) rfl hin rfl (tyX0_ok 1 (by decide)) rfl rfl (Nat.le_of_ble_eq_true rfl) dX0_init_35 (fun H locs hP hD hS => ?_)
  have hW : k_Wd D A s.heap [(a_this, .inr (0, [.ref q1, .ref q2, .int 0, .int 0])), (q1, .inl (cA 0, 60, .inl (fun _ => 0))), (q2, .inl (cA 0, 60, .inl (fun _ => 0)))] H locs := ⟨hP, hD, hS⟩
  refine W.widen (k := 2) (n := 120) (Nat.le_of_ble_eq_true rfl) (Nat.le_of_ble_eq_true rfl) ?_
  exact W.vret hx hb hr (fun t ht hWm => ⟨rfl, ⟨(fun k => ([q1, q2] : List Nat).getD k 0), by rw [ht]; exact hW.1, hW.2.1⟩, hW.2.2.F ht⟩) hW.2.2.2.2 dX0_init_38
abbrev sh_X0_init_1140 (cA : Nat → ClassId) (a_this : Nat) (ad : Nat → Nat) : va_W := [(a_this, .inr (0, [.ref (ad 0), .ref (ad 1), .int 0, .int 0])), (ad 0, .inl (cA 0, 1140, .inl (fun _ => 0))), (ad 1, .inl (cA 0, 1140, .inl (fun _ => 0)))]
abbrev rm_X0_init_1140 : Room := { frames := 1, cells := 2, slots := 2280, locals := 20 }
set_option maxHeartbeats 4000000 in
set_option maxRecDepth 100000 in
theorem mi_X0_init_1140 (l : Launch) (D : va_G) (cA : Nat → ClassId) (sz a_this : Nat) : k_MI l yX0_init prog_2_method_1_code 3 rm_X0_init_1140 D cA [.ref a_this, .int 1140] [(a_this, .inr (0, [.null, .null, .int 0, .int 0]))] sz (sh_X0_init_1140 cA a_this) 2 2280 := by
  refine k_ofWI (by decide) (Nat.le_of_ble_eq_true rfl) ?_
  intro p e s m below meth c A ls hx hb hr hml hts hown hlocks hin hB hA hW hl hO
  have hl : lv_has ls 3 [(0, .ref a_this), (1, .int 1140)] := hl
  have hin : meth.name = "<init>" := hin
  obtain ⟨H, eH⟩ : ∃ H, H = s.heap := ⟨_, rfl⟩
  obtain ⟨locs, eL⟩ : ∃ L : List Loc, L = [] := ⟨_, rfl⟩
  have hW : k_Wd D A s.heap [(a_this, .inr (0, [.null, .null, .int 0, .int 0]))] H locs := by rw [eH, eL]; exact hW
  suffices K : W p l e rm_X0_init_1140 s m [.ref a_this, .int 1140].toArray below meth c H locs 0 0 (MQ below (k_QN D (sh_X0_init_1140 cA a_this) A) [.ref a_this, .int 1140].toArray s 2 2280 A) (F0 m 0 ls []) by rw [eH, eL] at K; exact K
  clear eH eL
  refine lv_aload_n hx hb dX0_init_0 rfl (lv_at hl 0 rfl) ?_
  refine W.objInit hx hb hown (hts _ q1_45) (hts _ q1_32) (hts _ q1_33) rfl (by rw [hml]; exact hl.1) rfl dX0_init_1 (Nat.le_of_ble_eq_true rfl) (Nat.le_of_ble_eq_true rfl) ?_
  show W p l e _ s m _ below meth c H locs _ _ _ (F0 m 4 ls [])
  refine lv_aload_n hx hb dX0_init_4 rfl (lv_at hl 0 rfl) ?_
  refine lv_iconst (v := 0) hx hb dX0_init_5 (by decide) ?_
  refine va_put (D := D) (ci := 0) (v := .int 0) (ty := .int) (C := RX0) (T := TX0) (N := 4) hx hb hts iX0 tyX0 tyX0_ok nmX0 hown hB.1 hW.1 hW.2.1 hW.2.2 0 rfl rfl 2 (by decide) (hts _ q1_48) (fun _ h9 => h9) rfl (tyX0_ok 2 (by decide)) rfl rfl (Nat.le_of_ble_eq_true rfl) dX0_init_6 (fun H locs hP hD hS => ?_)
  have hW : k_Wd D A s.heap [(a_this, .inr (0, [.null, .null, .int 0, .int 0]))] H locs := ⟨hP, hD, hS⟩
  refine lv_aload_n hx hb dX0_init_9 rfl (lv_at hl 0 rfl) ?_
  refine lv_iconst (v := 0) hx hb dX0_init_10 (by decide) ?_
  refine va_put (D := D) (ci := 0) (v := .int 0) (ty := .int) (C := RX0) (T := TX0) (N := 4) hx hb hts iX0 tyX0 tyX0_ok nmX0 hown hB.1 hW.1 hW.2.1 hW.2.2 0 rfl rfl 3 (by decide) (hts _ q1_49) (fun _ h9 => h9) rfl (tyX0_ok 3 (by decide)) rfl rfl (Nat.le_of_ble_eq_true rfl) dX0_init_11 (fun H locs hP hD hS => ?_)
  have hW : k_Wd D A s.heap [(a_this, .inr (0, [.null, .null, .int 0, .int 0]))] H locs := ⟨hP, hD, hS⟩
  refine lv_iload_n hx hb dX0_init_14 rfl (lv_at hl 1 rfl) ?_
  refine lv_if_le (tgt := 22) hx hb dX0_init_15 (by decide) (fun c => absurd c (by decide)) (fun _ => ?_)
  refine lv_iload_n hx hb dX0_init_18 rfl (lv_at hl 1 rfl) ?_
  refine lv_goto (tgt := 23) hx hb dX0_init_19 (by decide) ?_
  refine lv_istore_n (lv' := [(2, .int 1140), (0, .ref a_this), (1, .int 1140)]) hx hb dX0_init_23 rfl hl (by decide) rfl (fun ls hl => ?_)
  refine lv_aload_n hx hb dX0_init_24 rfl (lv_at hl 1 rfl) ?_
  refine lv_iload_n hx hb dX0_init_25 rfl (lv_at hl 0 rfl) ?_
  refine k_newa (atype := .int) hx hb hts hB hA hW 0 rfl (fun _ h9 => h9) q1_59 (n := 1140) (N' := 1140) (a0 := (1140, .inl (fun _ => 0))) (fun _ => rfl) (by decide) (by decide) (Nat.le_of_ble_eq_true rfl) (Nat.le_of_ble_eq_true rfl) (Nat.le_of_ble_eq_true rfl) dX0_init_26 (fun q1 H hW => ?_)
  have hW : k_Wd D A s.heap [(a_this, .inr (0, [.null, .null, .int 0, .int 0])), (q1, .inl (cA 0, 1140, .inl (fun _ => 0)))] H locs := hW
  refine va_putF (D := D) (ci := 0) (v := .ref q1) (ty := .array .int) (C := RX0) (T := TX0) (N := 4) hx hb hts iX0 tyX0 tyX0_ok nmX0 hown hB.1 hW.1 hW.2.1 hW.2.2 0 rfl rfl 0 (by decide) (hts _ q1_46) (fun _ h9 => h9) rfl hin rfl (tyX0_ok 0 (by decide)) rfl rfl (Nat.le_of_ble_eq_true rfl) dX0_init_28 (fun H locs hP hD hS => ?_)
  have hW : k_Wd D A s.heap [(a_this, .inr (0, [.ref q1, .null, .int 0, .int 0])), (q1, .inl (cA 0, 1140, .inl (fun _ => 0)))] H locs := ⟨hP, hD, hS⟩
  refine lv_aload_n hx hb dX0_init_31 rfl (lv_at hl 1 rfl) ?_
  refine lv_iload_n hx hb dX0_init_32 rfl (lv_at hl 0 rfl) ?_
  refine k_newa (atype := .int) hx hb hts hB hA hW 0 rfl (fun _ h9 => h9) q1_59 (n := 1140) (N' := 1140) (a0 := (1140, .inl (fun _ => 0))) (fun _ => rfl) (by decide) (by decide) (Nat.le_of_ble_eq_true rfl) (Nat.le_of_ble_eq_true rfl) (Nat.le_of_ble_eq_true rfl) dX0_init_33 (fun q2 H hW => ?_)
  have hW : k_Wd D A s.heap [(a_this, .inr (0, [.ref q1, .null, .int 0, .int 0])), (q1, .inl (cA 0, 1140, .inl (fun _ => 0))), (q2, .inl (cA 0, 1140, .inl (fun _ => 0)))] H locs := hW
  refine va_putF (D := D) (ci := 0) (v := .ref q2) (ty := .array .int) (C := RX0) (T := TX0) (N := 4) hx hb hts iX0 tyX0 tyX0_ok nmX0 hown hB.1 hW.1 hW.2.1 hW.2.2 0 rfl rfl 1 (by decide) (hts _ q1_47) (fun _ h9 => h9) rfl hin rfl (tyX0_ok 1 (by decide)) rfl rfl (Nat.le_of_ble_eq_true rfl) dX0_init_35 (fun H locs hP hD hS => ?_)
  have hW : k_Wd D A s.heap [(a_this, .inr (0, [.ref q1, .ref q2, .int 0, .int 0])), (q1, .inl (cA 0, 1140, .inl (fun _ => 0))), (q2, .inl (cA 0, 1140, .inl (fun _ => 0)))] H locs := ⟨hP, hD, hS⟩
  refine W.widen (k := 2) (n := 2280) (Nat.le_of_ble_eq_true rfl) (Nat.le_of_ble_eq_true rfl) ?_
  exact W.vret hx hb hr (fun t ht hWm => ⟨rfl, ⟨(fun k => ([q1, q2] : List Nat).getD k 0), by rw [ht]; exact hW.1, hW.2.1⟩, hW.2.2.F ht⟩) hW.2.2.2.2 dX0_init_38
abbrev sh_X0_init_2280 (cA : Nat → ClassId) (a_this : Nat) (ad : Nat → Nat) : va_W := [(a_this, .inr (0, [.ref (ad 0), .ref (ad 1), .int 0, .int 0])), (ad 0, .inl (cA 0, 2280, .inl (fun _ => 0))), (ad 1, .inl (cA 0, 2280, .inl (fun _ => 0)))]
abbrev rm_X0_init_2280 : Room := { frames := 1, cells := 2, slots := 4560, locals := 20 }
set_option maxHeartbeats 4000000 in
set_option maxRecDepth 100000 in
theorem mi_X0_init_2280 (l : Launch) (D : va_G) (cA : Nat → ClassId) (sz a_this : Nat) : k_MI l yX0_init prog_2_method_1_code 3 rm_X0_init_2280 D cA [.ref a_this, .int 2280] [(a_this, .inr (0, [.null, .null, .int 0, .int 0]))] sz (sh_X0_init_2280 cA a_this) 2 4560 := by
  refine k_ofWI (by decide) (Nat.le_of_ble_eq_true rfl) ?_
  intro p e s m below meth c A ls hx hb hr hml hts hown hlocks hin hB hA hW hl hO
  have hl : lv_has ls 3 [(0, .ref a_this), (1, .int 2280)] := hl
  have hin : meth.name = "<init>" := hin
  obtain ⟨H, eH⟩ : ∃ H, H = s.heap := ⟨_, rfl⟩
  obtain ⟨locs, eL⟩ : ∃ L : List Loc, L = [] := ⟨_, rfl⟩
  have hW : k_Wd D A s.heap [(a_this, .inr (0, [.null, .null, .int 0, .int 0]))] H locs := by rw [eH, eL]; exact hW
  suffices K : W p l e rm_X0_init_2280 s m [.ref a_this, .int 2280].toArray below meth c H locs 0 0 (MQ below (k_QN D (sh_X0_init_2280 cA a_this) A) [.ref a_this, .int 2280].toArray s 2 4560 A) (F0 m 0 ls []) by rw [eH, eL] at K; exact K
  clear eH eL
  refine lv_aload_n hx hb dX0_init_0 rfl (lv_at hl 0 rfl) ?_
  refine W.objInit hx hb hown (hts _ q1_45) (hts _ q1_32) (hts _ q1_33) rfl (by rw [hml]; exact hl.1) rfl dX0_init_1 (Nat.le_of_ble_eq_true rfl) (Nat.le_of_ble_eq_true rfl) ?_
  show W p l e _ s m _ below meth c H locs _ _ _ (F0 m 4 ls [])
  refine lv_aload_n hx hb dX0_init_4 rfl (lv_at hl 0 rfl) ?_
  refine lv_iconst (v := 0) hx hb dX0_init_5 (by decide) ?_
  refine va_put (D := D) (ci := 0) (v := .int 0) (ty := .int) (C := RX0) (T := TX0) (N := 4) hx hb hts iX0 tyX0 tyX0_ok nmX0 hown hB.1 hW.1 hW.2.1 hW.2.2 0 rfl rfl 2 (by decide) (hts _ q1_48) (fun _ h9 => h9) rfl (tyX0_ok 2 (by decide)) rfl rfl (Nat.le_of_ble_eq_true rfl) dX0_init_6 (fun H locs hP hD hS => ?_)
  have hW : k_Wd D A s.heap [(a_this, .inr (0, [.null, .null, .int 0, .int 0]))] H locs := ⟨hP, hD, hS⟩
  refine lv_aload_n hx hb dX0_init_9 rfl (lv_at hl 0 rfl) ?_
  refine lv_iconst (v := 0) hx hb dX0_init_10 (by decide) ?_
  refine va_put (D := D) (ci := 0) (v := .int 0) (ty := .int) (C := RX0) (T := TX0) (N := 4) hx hb hts iX0 tyX0 tyX0_ok nmX0 hown hB.1 hW.1 hW.2.1 hW.2.2 0 rfl rfl 3 (by decide) (hts _ q1_49) (fun _ h9 => h9) rfl (tyX0_ok 3 (by decide)) rfl rfl (Nat.le_of_ble_eq_true rfl) dX0_init_11 (fun H locs hP hD hS => ?_)
  have hW : k_Wd D A s.heap [(a_this, .inr (0, [.null, .null, .int 0, .int 0]))] H locs := ⟨hP, hD, hS⟩
  refine lv_iload_n hx hb dX0_init_14 rfl (lv_at hl 1 rfl) ?_
  refine lv_if_le (tgt := 22) hx hb dX0_init_15 (by decide) (fun c => absurd c (by decide)) (fun _ => ?_)
  refine lv_iload_n hx hb dX0_init_18 rfl (lv_at hl 1 rfl) ?_
  refine lv_goto (tgt := 23) hx hb dX0_init_19 (by decide) ?_
  refine lv_istore_n (lv' := [(2, .int 2280), (0, .ref a_this), (1, .int 2280)]) hx hb dX0_init_23 rfl hl (by decide) rfl (fun ls hl => ?_)
  refine lv_aload_n hx hb dX0_init_24 rfl (lv_at hl 1 rfl) ?_
  refine lv_iload_n hx hb dX0_init_25 rfl (lv_at hl 0 rfl) ?_
  refine k_newa (atype := .int) hx hb hts hB hA hW 0 rfl (fun _ h9 => h9) q1_59 (n := 2280) (N' := 2280) (a0 := (2280, .inl (fun _ => 0))) (fun _ => rfl) (by decide) (by decide) (Nat.le_of_ble_eq_true rfl) (Nat.le_of_ble_eq_true rfl) (Nat.le_of_ble_eq_true rfl) dX0_init_26 (fun q1 H hW => ?_)
  have hW : k_Wd D A s.heap [(a_this, .inr (0, [.null, .null, .int 0, .int 0])), (q1, .inl (cA 0, 2280, .inl (fun _ => 0)))] H locs := hW
  refine va_putF (D := D) (ci := 0) (v := .ref q1) (ty := .array .int) (C := RX0) (T := TX0) (N := 4) hx hb hts iX0 tyX0 tyX0_ok nmX0 hown hB.1 hW.1 hW.2.1 hW.2.2 0 rfl rfl 0 (by decide) (hts _ q1_46) (fun _ h9 => h9) rfl hin rfl (tyX0_ok 0 (by decide)) rfl rfl (Nat.le_of_ble_eq_true rfl) dX0_init_28 (fun H locs hP hD hS => ?_)
  have hW : k_Wd D A s.heap [(a_this, .inr (0, [.ref q1, .null, .int 0, .int 0])), (q1, .inl (cA 0, 2280, .inl (fun _ => 0)))] H locs := ⟨hP, hD, hS⟩
  refine lv_aload_n hx hb dX0_init_31 rfl (lv_at hl 1 rfl) ?_
  refine lv_iload_n hx hb dX0_init_32 rfl (lv_at hl 0 rfl) ?_
  refine k_newa (atype := .int) hx hb hts hB hA hW 0 rfl (fun _ h9 => h9) q1_59 (n := 2280) (N' := 2280) (a0 := (2280, .inl (fun _ => 0))) (fun _ => rfl) (by decide) (by decide) (Nat.le_of_ble_eq_true rfl) (Nat.le_of_ble_eq_true rfl) (Nat.le_of_ble_eq_true rfl) dX0_init_33 (fun q2 H hW => ?_)
  have hW : k_Wd D A s.heap [(a_this, .inr (0, [.ref q1, .null, .int 0, .int 0])), (q1, .inl (cA 0, 2280, .inl (fun _ => 0))), (q2, .inl (cA 0, 2280, .inl (fun _ => 0)))] H locs := hW
  refine va_putF (D := D) (ci := 0) (v := .ref q2) (ty := .array .int) (C := RX0) (T := TX0) (N := 4) hx hb hts iX0 tyX0 tyX0_ok nmX0 hown hB.1 hW.1 hW.2.1 hW.2.2 0 rfl rfl 1 (by decide) (hts _ q1_47) (fun _ h9 => h9) rfl hin rfl (tyX0_ok 1 (by decide)) rfl rfl (Nat.le_of_ble_eq_true rfl) dX0_init_35 (fun H locs hP hD hS => ?_)
  have hW : k_Wd D A s.heap [(a_this, .inr (0, [.ref q1, .ref q2, .int 0, .int 0])), (q1, .inl (cA 0, 2280, .inl (fun _ => 0))), (q2, .inl (cA 0, 2280, .inl (fun _ => 0)))] H locs := ⟨hP, hD, hS⟩
  refine W.widen (k := 2) (n := 4560) (Nat.le_of_ble_eq_true rfl) (Nat.le_of_ble_eq_true rfl) ?_
  exact W.vret hx hb hr (fun t ht hWm => ⟨rfl, ⟨(fun k => ([q1, q2] : List Nat).getD k 0), by rw [ht]; exact hW.1, hW.2.1⟩, hW.2.2.F ht⟩) hW.2.2.2.2 dX0_init_38
theorem pd_X1_init : k_D1 yX1_init 0 := by decide +kernel
abbrev sh_X1_init (cA : Nat → ClassId) (a_this : Nat) (ad : Nat → Nat) : va_W := [(a_this, .inr (1, [.ref (ad 0), .ref (ad 1), .int 0])), (ad 0, .inl (cA 0, 40, .inl (fun _ => 0))), (ad 1, .inl (cA 0, 40, .inl (fun _ => 0)))]
abbrev rm_X1_init : Room := { frames := 1, cells := 2, slots := 80, locals := 20 }
set_option maxHeartbeats 4000000 in
set_option maxRecDepth 100000 in
theorem mi_X1_init (l : Launch) (D : va_G) (cA : Nat → ClassId) (sz a_this : Nat) : k_MI l yX1_init prog_3_method_1_code 1 rm_X1_init D cA [.ref a_this] [(a_this, .inr (1, [.null, .null, .int 0]))] sz (sh_X1_init cA a_this) 2 80 := by
  refine k_ofWI (by decide) (Nat.le_of_ble_eq_true rfl) ?_
  intro p e s m below meth c A ls hx hb hr hml hts hown hlocks hin hB hA hW hl hO
  have hl : lv_has ls 1 [(0, .ref a_this)] := hl
  have hin : meth.name = "<init>" := hin
  obtain ⟨H, eH⟩ : ∃ H, H = s.heap := ⟨_, rfl⟩
  obtain ⟨locs, eL⟩ : ∃ L : List Loc, L = [] := ⟨_, rfl⟩
  have hW : k_Wd D A s.heap [(a_this, .inr (1, [.null, .null, .int 0]))] H locs := by rw [eH, eL]; exact hW
  suffices K : W p l e rm_X1_init s m [.ref a_this].toArray below meth c H locs 0 0 (MQ below (k_QN D (sh_X1_init cA a_this) A) [.ref a_this].toArray s 2 80 A) (F0 m 0 ls []) by rw [eH, eL] at K; exact K
  clear eH eL
  refine lv_aload_n hx hb dX1_init_0 rfl (lv_at hl 0 rfl) ?_
  refine W.objInit hx hb hown (hts _ q1_95) (hts _ q1_32) (hts _ q1_33) rfl (by rw [hml]; exact hl.1) rfl dX1_init_1 (Nat.le_of_ble_eq_true rfl) (Nat.le_of_ble_eq_true rfl) ?_
  show W p l e _ s m _ below meth c H locs _ _ _ (F0 m 4 ls [])
  refine lv_aload_n hx hb dX1_init_4 rfl (lv_at hl 0 rfl) ?_
  refine lv_bipush (v := 40) hx hb dX1_init_5 (by decide) ?_
  refine k_newa (atype := .int) hx hb hts hB hA hW 0 rfl (fun _ h9 => h9) q1_59 (n := 40) (N' := 40) (a0 := (40, .inl (fun _ => 0))) (fun _ => rfl) (by decide) (by decide) (Nat.le_of_ble_eq_true rfl) (Nat.le_of_ble_eq_true rfl) (Nat.le_of_ble_eq_true rfl) dX1_init_7 (fun q1 H hW => ?_)
  have hW : k_Wd D A s.heap [(a_this, .inr (1, [.null, .null, .int 0])), (q1, .inl (cA 0, 40, .inl (fun _ => 0)))] H locs := hW
  refine va_putF (D := D) (ci := 1) (v := .ref q1) (ty := .array .int) (C := RX1) (T := TX1) (N := 3) hx hb hts iX1 tyX1 tyX1_ok nmX1 hown hB.1 hW.1 hW.2.1 hW.2.2 0 rfl rfl 0 (by decide) (hts _ q1_96) (fun _ h9 => h9) rfl hin rfl (tyX1_ok 0 (by decide)) rfl rfl (Nat.le_of_ble_eq_true rfl) dX1_init_9 (fun H locs hP hD hS => ?_)
  have hW : k_Wd D A s.heap [(a_this, .inr (1, [.ref q1, .null, .int 0])), (q1, .inl (cA 0, 40, .inl (fun _ => 0)))] H locs := ⟨hP, hD, hS⟩
  refine lv_aload_n hx hb dX1_init_12 rfl (lv_at hl 0 rfl) ?_
  refine lv_bipush (v := 40) hx hb dX1_init_13 (by decide) ?_
  refine k_newa (atype := .int) hx hb hts hB hA hW 0 rfl (fun _ h9 => h9) q1_59 (n := 40) (N' := 40) (a0 := (40, .inl (fun _ => 0))) (fun _ => rfl) (by decide) (by decide) (Nat.le_of_ble_eq_true rfl) (Nat.le_of_ble_eq_true rfl) (Nat.le_of_ble_eq_true rfl) dX1_init_15 (fun q2 H hW => ?_)
  have hW : k_Wd D A s.heap [(a_this, .inr (1, [.ref q1, .null, .int 0])), (q1, .inl (cA 0, 40, .inl (fun _ => 0))), (q2, .inl (cA 0, 40, .inl (fun _ => 0)))] H locs := hW
  refine va_putF (D := D) (ci := 1) (v := .ref q2) (ty := .array .int) (C := RX1) (T := TX1) (N := 3) hx hb hts iX1 tyX1 tyX1_ok nmX1 hown hB.1 hW.1 hW.2.1 hW.2.2 0 rfl rfl 1 (by decide) (hts _ q1_97) (fun _ h9 => h9) rfl hin rfl (tyX1_ok 1 (by decide)) rfl rfl (Nat.le_of_ble_eq_true rfl) dX1_init_17 (fun H locs hP hD hS => ?_)
  have hW : k_Wd D A s.heap [(a_this, .inr (1, [.ref q1, .ref q2, .int 0])), (q1, .inl (cA 0, 40, .inl (fun _ => 0))), (q2, .inl (cA 0, 40, .inl (fun _ => 0)))] H locs := ⟨hP, hD, hS⟩
  refine lv_aload_n hx hb dX1_init_20 rfl (lv_at hl 0 rfl) ?_
  refine lv_iconst (v := 0) hx hb dX1_init_21 (by decide) ?_
  refine va_put (D := D) (ci := 1) (v := .int 0) (ty := .int) (C := RX1) (T := TX1) (N := 3) hx hb hts iX1 tyX1 tyX1_ok nmX1 hown hB.1 hW.1 hW.2.1 hW.2.2 0 rfl rfl 2 (by decide) (hts _ q1_98) (fun _ h9 => h9) rfl (tyX1_ok 2 (by decide)) rfl rfl (Nat.le_of_ble_eq_true rfl) dX1_init_22 (fun H locs hP hD hS => ?_)
  have hW : k_Wd D A s.heap [(a_this, .inr (1, [.ref q1, .ref q2, .int 0])), (q1, .inl (cA 0, 40, .inl (fun _ => 0))), (q2, .inl (cA 0, 40, .inl (fun _ => 0)))] H locs := ⟨hP, hD, hS⟩
  refine W.widen (k := 2) (n := 80) (Nat.le_of_ble_eq_true rfl) (Nat.le_of_ble_eq_true rfl) ?_
  exact W.vret hx hb hr (fun t ht hWm => ⟨rfl, ⟨(fun k => ([q1, q2] : List Nat).getD k 0), by rw [ht]; exact hW.1, hW.2.1⟩, hW.2.2.F ht⟩) hW.2.2.2.2 dX1_init_25
theorem pd_X3_init : k_D1 yX3_init 0 := by decide +kernel
abbrev sh_X3_init (cA : Nat → ClassId) (a_this : Nat) (ad : Nat → Nat) : va_W := [(a_this, .inr (3, [.ref (ad 0), .ref (ad 1)])), (ad 0, .inl (cA 0, 6, .inl (fun _ => 0))), (ad 1, .inl (cA 0, 6, .inl (fun _ => 0)))]
abbrev rm_X3_init : Room := { frames := 1, cells := 2, slots := 12, locals := 20 }
set_option maxHeartbeats 4000000 in
set_option maxRecDepth 100000 in
theorem mi_X3_init (l : Launch) (D : va_G) (cA : Nat → ClassId) (sz a_this : Nat) : k_MI l yX3_init prog_5_method_1_code 1 rm_X3_init D cA [.ref a_this] [(a_this, .inr (3, [.null, .null]))] sz (sh_X3_init cA a_this) 2 12 := by
  refine k_ofWI (by decide) (Nat.le_of_ble_eq_true rfl) ?_
  intro p e s m below meth c A ls hx hb hr hml hts hown hlocks hin hB hA hW hl hO
  have hl : lv_has ls 1 [(0, .ref a_this)] := hl
  have hin : meth.name = "<init>" := hin
  obtain ⟨H, eH⟩ : ∃ H, H = s.heap := ⟨_, rfl⟩
  obtain ⟨locs, eL⟩ : ∃ L : List Loc, L = [] := ⟨_, rfl⟩
  have hW : k_Wd D A s.heap [(a_this, .inr (3, [.null, .null]))] H locs := by rw [eH, eL]; exact hW
  suffices K : W p l e rm_X3_init s m [.ref a_this].toArray below meth c H locs 0 0 (MQ below (k_QN D (sh_X3_init cA a_this) A) [.ref a_this].toArray s 2 12 A) (F0 m 0 ls []) by rw [eH, eL] at K; exact K
  clear eH eL
  refine lv_aload_n hx hb dX3_init_0 rfl (lv_at hl 0 rfl) ?_
  refine W.objInit hx hb hown (hts _ q1_166) (hts _ q1_32) (hts _ q1_33) rfl (by rw [hml]; exact hl.1) rfl dX3_init_1 (Nat.le_of_ble_eq_true rfl) (Nat.le_of_ble_eq_true rfl) ?_
  show W p l e _ s m _ below meth c H locs _ _ _ (F0 m 4 ls [])
  refine lv_aload_n hx hb dX3_init_4 rfl (lv_at hl 0 rfl) ?_
  refine lv_bipush (v := 6) hx hb dX3_init_5 (by decide) ?_
  refine k_newa (atype := .int) hx hb hts hB hA hW 0 rfl (fun _ h9 => h9) q1_59 (n := 6) (N' := 6) (a0 := (6, .inl (fun _ => 0))) (fun _ => rfl) (by decide) (by decide) (Nat.le_of_ble_eq_true rfl) (Nat.le_of_ble_eq_true rfl) (Nat.le_of_ble_eq_true rfl) dX3_init_7 (fun q1 H hW => ?_)
  have hW : k_Wd D A s.heap [(a_this, .inr (3, [.null, .null])), (q1, .inl (cA 0, 6, .inl (fun _ => 0)))] H locs := hW
  refine va_putF (D := D) (ci := 3) (v := .ref q1) (ty := .array .int) (C := RX3) (T := TX3) (N := 2) hx hb hts iX3 tyX3 tyX3_ok nmX3 hown hB.1 hW.1 hW.2.1 hW.2.2 0 rfl rfl 0 (by decide) (hts _ q1_167) (fun _ h9 => h9) rfl hin rfl (tyX3_ok 0 (by decide)) rfl rfl (Nat.le_of_ble_eq_true rfl) dX3_init_9 (fun H locs hP hD hS => ?_)
  have hW : k_Wd D A s.heap [(a_this, .inr (3, [.ref q1, .null])), (q1, .inl (cA 0, 6, .inl (fun _ => 0)))] H locs := ⟨hP, hD, hS⟩
  refine lv_aload_n hx hb dX3_init_12 rfl (lv_at hl 0 rfl) ?_
  refine lv_bipush (v := 6) hx hb dX3_init_13 (by decide) ?_
  refine k_newa (atype := .int) hx hb hts hB hA hW 0 rfl (fun _ h9 => h9) q1_59 (n := 6) (N' := 6) (a0 := (6, .inl (fun _ => 0))) (fun _ => rfl) (by decide) (by decide) (Nat.le_of_ble_eq_true rfl) (Nat.le_of_ble_eq_true rfl) (Nat.le_of_ble_eq_true rfl) dX3_init_15 (fun q2 H hW => ?_)
  have hW : k_Wd D A s.heap [(a_this, .inr (3, [.ref q1, .null])), (q1, .inl (cA 0, 6, .inl (fun _ => 0))), (q2, .inl (cA 0, 6, .inl (fun _ => 0)))] H locs := hW
  refine va_putF (D := D) (ci := 3) (v := .ref q2) (ty := .array .int) (C := RX3) (T := TX3) (N := 2) hx hb hts iX3 tyX3 tyX3_ok nmX3 hown hB.1 hW.1 hW.2.1 hW.2.2 0 rfl rfl 1 (by decide) (hts _ q1_168) (fun _ h9 => h9) rfl hin rfl (tyX3_ok 1 (by decide)) rfl rfl (Nat.le_of_ble_eq_true rfl) dX3_init_17 (fun H locs hP hD hS => ?_)
  have hW : k_Wd D A s.heap [(a_this, .inr (3, [.ref q1, .ref q2])), (q1, .inl (cA 0, 6, .inl (fun _ => 0))), (q2, .inl (cA 0, 6, .inl (fun _ => 0)))] H locs := ⟨hP, hD, hS⟩
  refine W.widen (k := 2) (n := 12) (Nat.le_of_ble_eq_true rfl) (Nat.le_of_ble_eq_true rfl) ?_
  exact W.vret hx hb hr (fun t ht hWm => ⟨rfl, ⟨(fun k => ([q1, q2] : List Nat).getD k 0), by rw [ht]; exact hW.1, hW.2.1⟩, hW.2.2.F ht⟩) hW.2.2.2.2 dX3_init_20
theorem pd_X7_init : k_D1 yX7_init 0 := by decide +kernel
abbrev sh_X7_init (cA : Nat → ClassId) (a_this : Nat) (ad : Nat → Nat) : va_W := [(a_this, .inr (7, [.ref (ad 0), .ref (ad 1), .int 0])), (ad 0, .inl (cA 0, 6, .inl (fun _ => 0))), (ad 1, .inl (cA 0, 6, .inl (fun _ => 0)))]
abbrev rm_X7_init : Room := { frames := 1, cells := 2, slots := 12, locals := 20 }
set_option maxHeartbeats 4000000 in
set_option maxRecDepth 100000 in
theorem mi_X7_init (l : Launch) (D : va_G) (cA : Nat → ClassId) (sz a_this : Nat) : k_MI l yX7_init prog_9_method_1_code 1 rm_X7_init D cA [.ref a_this] [(a_this, .inr (7, [.null, .null, .int 0]))] sz (sh_X7_init cA a_this) 2 12 := by
  refine k_ofWI (by decide) (Nat.le_of_ble_eq_true rfl) ?_
  intro p e s m below meth c A ls hx hb hr hml hts hown hlocks hin hB hA hW hl hO
  have hl : lv_has ls 1 [(0, .ref a_this)] := hl
  have hin : meth.name = "<init>" := hin
  obtain ⟨H, eH⟩ : ∃ H, H = s.heap := ⟨_, rfl⟩
  obtain ⟨locs, eL⟩ : ∃ L : List Loc, L = [] := ⟨_, rfl⟩
  have hW : k_Wd D A s.heap [(a_this, .inr (7, [.null, .null, .int 0]))] H locs := by rw [eH, eL]; exact hW
  suffices K : W p l e rm_X7_init s m [.ref a_this].toArray below meth c H locs 0 0 (MQ below (k_QN D (sh_X7_init cA a_this) A) [.ref a_this].toArray s 2 12 A) (F0 m 0 ls []) by rw [eH, eL] at K; exact K
  clear eH eL
  refine lv_aload_n hx hb dX7_init_0 rfl (lv_at hl 0 rfl) ?_
  refine W.objInit hx hb hown (hts _ q1_142) (hts _ q1_32) (hts _ q1_33) rfl (by rw [hml]; exact hl.1) rfl dX7_init_1 (Nat.le_of_ble_eq_true rfl) (Nat.le_of_ble_eq_true rfl) ?_
  show W p l e _ s m _ below meth c H locs _ _ _ (F0 m 4 ls [])
  refine lv_aload_n hx hb dX7_init_4 rfl (lv_at hl 0 rfl) ?_
  refine lv_bipush (v := 6) hx hb dX7_init_5 (by decide) ?_
  refine k_newa (atype := .int) hx hb hts hB hA hW 0 rfl (fun _ h9 => h9) q1_59 (n := 6) (N' := 6) (a0 := (6, .inl (fun _ => 0))) (fun _ => rfl) (by decide) (by decide) (Nat.le_of_ble_eq_true rfl) (Nat.le_of_ble_eq_true rfl) (Nat.le_of_ble_eq_true rfl) dX7_init_7 (fun q1 H hW => ?_)
  have hW : k_Wd D A s.heap [(a_this, .inr (7, [.null, .null, .int 0])), (q1, .inl (cA 0, 6, .inl (fun _ => 0)))] H locs := hW
  refine va_putF (D := D) (ci := 7) (v := .ref q1) (ty := .array .int) (C := RX7) (T := TX7) (N := 3) hx hb hts iX7 tyX7 tyX7_ok nmX7 hown hB.1 hW.1 hW.2.1 hW.2.2 0 rfl rfl 0 (by decide) (hts _ q1_143) (fun _ h9 => h9) rfl hin rfl (tyX7_ok 0 (by decide)) rfl rfl (Nat.le_of_ble_eq_true rfl) dX7_init_9 (fun H locs hP hD hS => ?_)
  have hW : k_Wd D A s.heap [(a_this, .inr (7, [.ref q1, .null, .int 0])), (q1, .inl (cA 0, 6, .inl (fun _ => 0)))] H locs := ⟨hP, hD, hS⟩
  refine lv_aload_n hx hb dX7_init_12 rfl (lv_at hl 0 rfl) ?_
  refine lv_bipush (v := 6) hx hb dX7_init_13 (by decide) ?_
  refine k_newa (atype := .int) hx hb hts hB hA hW 0 rfl (fun _ h9 => h9) q1_59 (n := 6) (N' := 6) (a0 := (6, .inl (fun _ => 0))) (fun _ => rfl) (by decide) (by decide) (Nat.le_of_ble_eq_true rfl) (Nat.le_of_ble_eq_true rfl) (Nat.le_of_ble_eq_true rfl) dX7_init_15 (fun q2 H hW => ?_)
  have hW : k_Wd D A s.heap [(a_this, .inr (7, [.ref q1, .null, .int 0])), (q1, .inl (cA 0, 6, .inl (fun _ => 0))), (q2, .inl (cA 0, 6, .inl (fun _ => 0)))] H locs := hW
  refine va_putF (D := D) (ci := 7) (v := .ref q2) (ty := .array .int) (C := RX7) (T := TX7) (N := 3) hx hb hts iX7 tyX7 tyX7_ok nmX7 hown hB.1 hW.1 hW.2.1 hW.2.2 0 rfl rfl 1 (by decide) (hts _ q1_144) (fun _ h9 => h9) rfl hin rfl (tyX7_ok 1 (by decide)) rfl rfl (Nat.le_of_ble_eq_true rfl) dX7_init_17 (fun H locs hP hD hS => ?_)
  have hW : k_Wd D A s.heap [(a_this, .inr (7, [.ref q1, .ref q2, .int 0])), (q1, .inl (cA 0, 6, .inl (fun _ => 0))), (q2, .inl (cA 0, 6, .inl (fun _ => 0)))] H locs := ⟨hP, hD, hS⟩
  refine lv_aload_n hx hb dX7_init_20 rfl (lv_at hl 0 rfl) ?_
  refine lv_iconst (v := 0) hx hb dX7_init_21 (by decide) ?_
  refine va_put (D := D) (ci := 7) (v := .int 0) (ty := .int) (C := RX7) (T := TX7) (N := 3) hx hb hts iX7 tyX7 tyX7_ok nmX7 hown hB.1 hW.1 hW.2.1 hW.2.2 0 rfl rfl 2 (by decide) (hts _ q1_145) (fun _ h9 => h9) rfl (tyX7_ok 2 (by decide)) rfl rfl (Nat.le_of_ble_eq_true rfl) dX7_init_22 (fun H locs hP hD hS => ?_)
  have hW : k_Wd D A s.heap [(a_this, .inr (7, [.ref q1, .ref q2, .int 0])), (q1, .inl (cA 0, 6, .inl (fun _ => 0))), (q2, .inl (cA 0, 6, .inl (fun _ => 0)))] H locs := ⟨hP, hD, hS⟩
  refine W.widen (k := 2) (n := 12) (Nat.le_of_ble_eq_true rfl) (Nat.le_of_ble_eq_true rfl) ?_
  exact W.vret hx hb hr (fun t ht hWm => ⟨rfl, ⟨(fun k => ([q1, q2] : List Nat).getD k 0), by rw [ht]; exact hW.1, hW.2.1⟩, hW.2.2.F ht⟩) hW.2.2.2.2 dX7_init_25
