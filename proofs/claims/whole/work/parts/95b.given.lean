theorem P_kept (z0 z1 z2 z3 : Nat) : (va_up (va_up (va_up (va_up (fun _ => none) (0 : Int32).toNatClampNeg (some z0)) (1 : Int32).toNatClampNeg (some z1)) (2 : Int32).toNatClampNeg (some z2)) (3 : Int32).toNatClampNeg (some z3)) 0 = some z0 ∧ (va_up (va_up (va_up (va_up (fun _ => none) (0 : Int32).toNatClampNeg (some z0)) (1 : Int32).toNatClampNeg (some z1)) (2 : Int32).toNatClampNeg (some z2)) (3 : Int32).toNatClampNeg (some z3)) 1 = some z1 ∧ (va_up (va_up (va_up (va_up (fun _ => none) (0 : Int32).toNatClampNeg (some z0)) (1 : Int32).toNatClampNeg (some z1)) (2 : Int32).toNatClampNeg (some z2)) (3 : Int32).toNatClampNeg (some z3)) 2 = some z2 ∧ (va_up (va_up (va_up (va_up (fun _ => none) (0 : Int32).toNatClampNeg (some z0)) (1 : Int32).toNatClampNeg (some z1)) (2 : Int32).toNatClampNeg (some z2)) (3 : Int32).toNatClampNeg (some z3)) 3 = some z3 := ⟨rfl, rfl, rfl, rfl⟩
theorem k_arr {args : Array Value} {s : State} {ty : FieldType} (h : (Cond.arrayClass ty).before args s = true) (hra : ∀ c : ClassId, s.vm.findClass ("[" ++ ty.toString) = some c → va_RA s c ty) : ∃ c : ClassId, ArrOfT s c ty ∧ va_RA s c ty := by
  obtain ⟨c, k, comp, h1, h2, h3⟩ := Cond.arrayClass_spec h
  exact ⟨c, fun n z => ⟨fun k h => (by cases h), k, h2, comp, h3⟩, hra c h1⟩
theorem k_arrT {args : Array Value} {s : State} {C : String} (h : (Cond.arrayOver (.object C)).before args s = true) : ∃ c : ClassId, ArrOfT s c (.object C) ∧ va_RA s c (.object C) := by
  obtain ⟨comp, c, k, h1, h2, h3, h4, h5⟩ := Cond.arrayOver_spec h
  exact ⟨c, fun n z => ⟨fun k h => (by cases h), k, h3, comp, h4⟩, k, comp, h3, h4, h1, h5⟩
def k_cA (a0 a1 a2 a3 a4 a5 : ClassId) (k : Nat) : ClassId := ([a0, a1, a2, a3, a4, a5] : List ClassId).getD k a0
theorem k_str {args : Array Value} {s : State} {own tx : String} {k : Nat} (h1 : (Cond.stringRef own k tx).before args s = true) (h2 : (Cond.exactly (.string own k) "java/lang/String").before args s = true) : ∃ a, vk_R own k tx a s := by
  obtain ⟨a, c, cA, kA, q1, -⟩ := Cond.exactly_spec (args := args) (first := s) (o := none) (s := s) (idx := []) (t := .string own k) (cls := "java/lang/String") h2
  exact ⟨a, vk_R.of h1 q1⟩
theorem k_SR0 {b : Nat} {s : State} (hts : ∀ w ∈ lw_tbl, w.before #[Value.ref b] s = true) (hs : ∀ c ∈ flatC (Jvm.Cond.and given_1 narrow_1), c.before #[Value.ref b] s = true) : k_SR s := by
  refine ⟨?_, fun w hw => va_Nw.of (k_isC_tab (List.mem_filter.mp hw).2) (hts w (List.mem_filter.mp hw).1)⟩
  exact List.forall_mem_cons.mpr ⟨k_str (hts _ r_q3_116) (hs (.exactly (.string "ViewMaintainer" 302) "java/lang/String") (by decide +kernel)), List.forall_mem_cons.mpr ⟨k_str (hts _ r_q3_156) (hs (.exactly (.string "ViewMaintainer" 294) "java/lang/String") (by decide +kernel)), List.forall_mem_cons.mpr ⟨k_str (hts _ r_q3_166) (hs (.exactly (.string "ViewMaintainer" 298) "java/lang/String") (by decide +kernel)), List.forall_mem_cons.mpr ⟨k_str (hts _ r_q3_195) (hs (.exactly (.string "ViewMaintainer" 300) "java/lang/String") (by decide +kernel)), List.forall_mem_cons.mpr ⟨k_str (hts _ r_q3_212) (hs (.exactly (.string "ViewMaintainer" 304) "java/lang/String") (by decide +kernel)), List.forall_mem_cons.mpr ⟨k_str (hts _ r_q3_232) (hs (.exactly (.string "ViewMaintainer" 132) "java/lang/String") (by decide +kernel)), List.forall_mem_cons.mpr ⟨k_str (hts _ r_q4_31) (hs (.exactly (.string "ViewMaintainer" 306) "java/lang/String") (by decide +kernel)), List.forall_mem_cons.mpr ⟨k_str (hts _ r_q4_89) (hs (.exactly (.string "ViewMaintainer" 296) "java/lang/String") (by decide +kernel)), List.forall_mem_cons.mpr ⟨k_str (hts _ r_q4_126) (hs (.exactly (.string "ViewMaintainer" 216) "java/lang/String") (by decide +kernel)), List.forall_mem_cons.mpr ⟨k_str (hts _ r_q4_153) (hs (.exactly (.string "ViewMaintainer" 228) "java/lang/String") (by decide +kernel)), List.forall_mem_cons.mpr ⟨k_str (hts _ r_q4_168) (hs (.exactly (.string "ViewMaintainer" 235) "java/lang/String") (by decide +kernel)), List.forall_mem_cons.mpr ⟨k_str (hts _ r_q4_184) (hs (.exactly (.string "ViewMaintainer" 252) "java/lang/String") (by decide +kernel)), List.forall_mem_cons.mpr ⟨k_str (hts _ r_q4_189) (hs (.exactly (.string "ViewMaintainer" 258) "java/lang/String") (by decide +kernel)), List.forall_mem_cons.mpr ⟨k_str (hts _ r_q5_95) (hs (.exactly (.string "ViewMaintainer" 267) "java/lang/String") (by decide +kernel)), List.forall_mem_cons.mpr ⟨k_str (hts _ r_q5_115) (hs (.exactly (.string "ViewMaintainer" 288) "java/lang/String") (by decide +kernel)), fun _ h => absurd h List.not_mem_nil⟩⟩⟩⟩⟩⟩⟩⟩⟩⟩⟩⟩⟩⟩⟩
theorem k_NC0 {b : Nat} {s : State} (hs : ∀ c ∈ flatC (Jvm.Cond.and given_1 narrow_1), c.before #[Value.ref b] s = true) : k_NC s := by
  intro x y h1 h2 h3 h4 h5
  rcases (show x = 1 ∨ x = 2 ∨ x = 3 ∨ x = 4 by omega) with rfl | rfl | rfl | rfl <;> rcases (show y = 1 ∨ y = 2 ∨ y = 3 ∨ y = 4 by omega) with rfl | rfl | rfl | rfl
  · exact absurd rfl h5
  · exact va_Nc.of (hs (.not (.castable "java/lang/IllegalArgumentException" "java/lang/IllegalStateException")) (by decide +kernel))
  · exact va_Nc.of (hs (.not (.castable "java/lang/IllegalArgumentException" "java/lang/IndexOutOfBoundsException")) (by decide +kernel))
  · exact va_Nc.of (hs (.not (.castable "java/lang/IllegalArgumentException" "java/util/NoSuchElementException")) (by decide +kernel))
  · exact va_Nc.of (hs (.not (.castable "java/lang/IllegalStateException" "java/lang/IllegalArgumentException")) (by decide +kernel))
  · exact absurd rfl h5
  · exact va_Nc.of (hs (.not (.castable "java/lang/IllegalStateException" "java/lang/IndexOutOfBoundsException")) (by decide +kernel))
  · exact va_Nc.of (hs (.not (.castable "java/lang/IllegalStateException" "java/util/NoSuchElementException")) (by decide +kernel))
  · exact va_Nc.of (hs (.not (.castable "java/lang/IndexOutOfBoundsException" "java/lang/IllegalArgumentException")) (by decide +kernel))
  · exact va_Nc.of (hs (.not (.castable "java/lang/IndexOutOfBoundsException" "java/lang/IllegalStateException")) (by decide +kernel))
  · exact absurd rfl h5
  · exact va_Nc.of (hs (.not (.castable "java/lang/IndexOutOfBoundsException" "java/util/NoSuchElementException")) (by decide +kernel))
  · exact va_Nc.of (hs (.not (.castable "java/util/NoSuchElementException" "java/lang/IllegalArgumentException")) (by decide +kernel))
  · exact va_Nc.of (hs (.not (.castable "java/util/NoSuchElementException" "java/lang/IllegalStateException")) (by decide +kernel))
  · exact va_Nc.of (hs (.not (.castable "java/util/NoSuchElementException" "java/lang/IndexOutOfBoundsException")) (by decide +kernel))
  · exact absurd rfl h5
set_option maxHeartbeats 4000000 in
theorem k_ST0 {b : Nat} {s : State} (hts : ∀ w ∈ lw_tbl, w.before #[Value.ref b] s = true) (hs : ∀ c ∈ flatC (Jvm.Cond.and given_1 narrow_1), c.before #[Value.ref b] s = true) : k_ST (fun q : Nat => s.heap.size ≤ q) s s.heap := by
  have hA' : ∀ a : Nat, a < s.heap.size → ¬ (fun q : Nat => s.heap.size ≤ q) a := fun a h => Nat.not_le.mpr h
  obtain ⟨adK, adV, hS, hev⟩ := vk_Sof (args := #[Value.ref b]) (s := s) (N := 2) (tm := fun i => if i = 0 then (.string "ViewMaintainer$FilterReader" 67) else (.string "ViewMaintainer$FilterReader" 75)) (len := [5, 3]) (byt := [[107, 103, 118, 102, 112], [60, 61, 62]]) (A := fun q : Nat => s.heap.size ≤ q)
    (fun i hi => by
      rcases (show i = 0 ∨ i = 1 by omega) with rfl | rfl
      · decide
      · decide)
    (fun i hi => by
      rcases (show i = 0 ∨ i = 1 by omega) with rfl | rfl
      · exact hs (.exactly (.string "ViewMaintainer$FilterReader" 67) "java/lang/String") (by decide +kernel)
      · exact hs (.exactly (.string "ViewMaintainer$FilterReader" 75) "java/lang/String") (by decide +kernel))
    (fun i hi => by
      rcases (show i = 0 ∨ i = 1 by omega) with rfl | rfl
      · exact hs (.eq (.field (.string "ViewMaintainer$FilterReader" 67) "java/lang/String" "coder" "B") (.int 0)) (by decide +kernel)
      · exact hs (.eq (.field (.string "ViewMaintainer$FilterReader" 75) "java/lang/String" "coder" "B") (.int 0)) (by decide +kernel))
    (fun i hi => by
      rcases (show i = 0 ∨ i = 1 by omega) with rfl | rfl
      · exact hs (.arrayOf (.field (.string "ViewMaintainer$FilterReader" 67) "java/lang/String" "value" "[B") .byte) (by decide +kernel)
      · exact hs (.arrayOf (.field (.string "ViewMaintainer$FilterReader" 75) "java/lang/String" "value" "[B") .byte) (by decide +kernel))
    (fun i hi => by
      rcases (show i = 0 ∨ i = 1 by omega) with rfl | rfl
      · exact hs (.eq (.length (.field (.string "ViewMaintainer$FilterReader" 67) "java/lang/String" "value" "[B")) (.int 5)) (by decide +kernel)
      · exact hs (.eq (.length (.field (.string "ViewMaintainer$FilterReader" 75) "java/lang/String" "value" "[B")) (.int 3)) (by decide +kernel))
    (fun i hi j hj => by
      rcases (show i = 0 ∨ i = 1 by omega) with rfl | rfl
      · rcases (show j = 0 ∨ j = 1 ∨ j = 2 ∨ j = 3 ∨ j = 4 from by have : j < 5 := hj; omega) with rfl | rfl | rfl | rfl | rfl
        · exact hs (.eq (.elem (.field (.string "ViewMaintainer$FilterReader" 67) "java/lang/String" "value" "[B") (.int 0)) (.int 107)) (by decide +kernel)
        · exact hs (.eq (.elem (.field (.string "ViewMaintainer$FilterReader" 67) "java/lang/String" "value" "[B") (.int 1)) (.int 103)) (by decide +kernel)
        · exact hs (.eq (.elem (.field (.string "ViewMaintainer$FilterReader" 67) "java/lang/String" "value" "[B") (.int 2)) (.int 118)) (by decide +kernel)
        · exact hs (.eq (.elem (.field (.string "ViewMaintainer$FilterReader" 67) "java/lang/String" "value" "[B") (.int 3)) (.int 102)) (by decide +kernel)
        · exact hs (.eq (.elem (.field (.string "ViewMaintainer$FilterReader" 67) "java/lang/String" "value" "[B") (.int 4)) (.int 112)) (by decide +kernel)
      · rcases (show j = 0 ∨ j = 1 ∨ j = 2 from by have : j < 3 := hj; omega) with rfl | rfl | rfl
        · exact hs (.eq (.elem (.field (.string "ViewMaintainer$FilterReader" 75) "java/lang/String" "value" "[B") (.int 0)) (.int 60)) (by decide +kernel)
        · exact hs (.eq (.elem (.field (.string "ViewMaintainer$FilterReader" 75) "java/lang/String" "value" "[B") (.int 1)) (.int 61)) (by decide +kernel)
        · exact hs (.eq (.elem (.field (.string "ViewMaintainer$FilterReader" 75) "java/lang/String" "value" "[B") (.int 2)) (.int 62)) (by decide +kernel))
    (fun i j hi hj hne => by
      rcases (show i = 0 ∨ i = 1 by omega) with rfl | rfl <;> rcases (show j = 0 ∨ j = 1 by omega) with rfl | rfl
      · exact absurd rfl hne
      · exact Or.inl (hs (.not (.eq (.string "ViewMaintainer$FilterReader" 67) (.string "ViewMaintainer$FilterReader" 75))) (by decide +kernel))
      · exact Or.inr (hs (.not (.eq (.string "ViewMaintainer$FilterReader" 67) (.string "ViewMaintainer$FilterReader" 75))) (by decide +kernel))
      · exact absurd rfl hne) hA'
  have hz : va_Z "java/lang/String" "COMPACT_STRINGS" "Z" (.int 1) (fun q : Nat => s.heap.size ≤ q) s s.heap := va_Zof (hts _ r_q4_236) (hts _ r_q1_21) (va_eqi (hs (.eq (.static "java/lang/String" "COMPACT_STRINGS" "Z") (.int 1)) (by decide +kernel))) hA'
  obtain ⟨a1, a2, a3, a4⟩ := hS.1 0 (by decide)
  obtain ⟨b1, b2, b3, b4⟩ := hS.1 1 (by decide)
  exact ⟨adK 0, adV 0, adK 1, adV 1, ⟨vk_R.of (hts _ r_q4_222) (hev 0 (by decide)), a1, a2, a3, a4, hz⟩, vk_R.of (hts _ r_q5_67) (hev 1 (by decide)), b1, b2, b3, b4, hz⟩
