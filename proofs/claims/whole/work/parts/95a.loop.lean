set_option maxHeartbeats 4000000 in
set_option maxRecDepth 100000 in
theorem law_loop {p : Program} {l : Launch} {e : Env} {s : State} {m : MethodId} {below : List Frame} {meth : Method} {c : Code} {b L : Nat} {xs : Nat → Int32} {D : va_G} {cA : Nat → ClassId} {A : Nat → Prop} (C : LCx p l s m c b L xs D cA A) (hL : L ≤ 2560) {fu : Nat} (hfu : 100000 ≤ fu) {Q : State → Prop} (kend : ∀ (H : Heap) (locs : List Loc) (ls : Array Slot), va_S A s.heap H locs → W p l e room_1 s m #[Value.ref b] below meth c H locs 600000 7200000 Q (F0 m 2005 ls [])) : ∀ (n i : Nat) (cells slots : Nat) (H : Heap) (locs : List Loc) (ls : Array Slot), L ≤ i + 5 * n → i ≤ 2565 → cells + 8 * n ≤ 600000 → slots + 48 * n ≤ 7200000 → LSt D cA A s.heap b i H locs ls → W p l e room_1 s m #[Value.ref b] below meth c H locs cells slots Q (F0 m 28 ls []) := by
  obtain ⟨hx, hb, hml, hown, hts, hlt, hB, hA, hZ, hSR, hNC, hX, hbl, hbA⟩ := id C
  have hsub : ∀ i : Nat, i ≤ 2565 → (nI L - 5 < nI i ↔ L < i + 5) := by
    intro i hi
    have e1 : (nI L - 5).toInt = (L : Int) - 5 := pk_sub_toInt (a := L) (b := 5) (by omega) (by decide)
    rw [fa_lt, e1, nI_toInt (by omega)]
    omega
  intro n
  induction n with
  | zero =>
    intro i cells slots H locs ls h1 h2 h3 h4 hS
    obtain ⟨ax, am, ao, aq, ad, bd, I, F, kept, out, outD, hI, hk, hW, hl⟩ := hS
    refine lv_iload hx hb dL_law_28 (lv_at hl 5 rfl) ?_
    refine lv_aload_n hx hb dL_law_30 rfl (lv_at hl 0 rfl) ?_
    refine va_slen hx hb hX hbl hbA hW.2.2 dL_law_31 ?_
    refine lv_iconst (v := 5) hx hb dL_law_32 (by decide) ?_
    refine lv_isub hx hb dL_law_33 ?_
    refine lv_icmp_gt (tgt := 2005) hx hb dL_law_34 (by decide) (fun _ => ?_) (fun c9 => absurd ((hsub i h2).mpr (by omega)) c9)
    refine W.widen (k := 600000) (n := 7200000) (by omega) (by omega) ?_
    exact kend H locs ls hW.2.2
  | succ n ih =>
    intro i cells slots H locs ls h1 h2 h3 h4 hS
    have hS0 := hS
    obtain ⟨ax, am, ao, aq, ad, bd, I, F, kept, out, outD, hI, hk, hW, hl⟩ := hS
    refine lv_iload hx hb dL_law_28 (lv_at hl 5 rfl) ?_
    refine lv_aload_n hx hb dL_law_30 rfl (lv_at hl 0 rfl) ?_
    refine va_slen hx hb hX hbl hbA hW.2.2 dL_law_31 ?_
    refine lv_iconst (v := 5) hx hb dL_law_32 (by decide) ?_
    refine lv_isub hx hb dL_law_33 ?_
    refine lv_icmp_gt (tgt := 2005) hx hb dL_law_34 (by decide) (fun _ => ?_) (fun c9 => ?_)
    · refine W.widen (k := 600000) (n := 7200000) (by omega) (by omega) ?_
      exact kend H locs ls hW.2.2
    have hi : i + 5 ≤ L := Nat.not_lt.mp (fun h => c9 ((hsub i h2).mpr h))
    refine lv_aload_n hx hb dL_law_37 rfl (lv_at hl 0 rfl) ?_
    refine lv_iload hx hb dL_law_38 (lv_at hl 5 rfl) ?_
    refine va_sld hx hb hX hbl hbA hW.2.2 (vp_in_nI (by omega) (by omega)) dL_law_40 ?_
    refine lv_bipush (v := 63) hx hb dL_law_41 (by decide) ?_
    refine lv_iand hx hb dL_law_43 ?_
    obtain ⟨j, hj, ej⟩ := pk_andE (xs (nI i).toNatClampNeg) (m := 63) 6 (by decide)
    rw [ej]
    have K : ∀ (H : Heap) (locs : List Loc) (ls : Array Slot), LSt D cA A s.heap b i H locs ls → W p l e room_1 s m #[Value.ref b] below meth c H locs (cells + 8) (slots + 48) Q (F0 m 1999 ls []) := by
      intro H locs ls hS
      obtain ⟨ax, am, ao, aq, ad, bd, I, F, kept, out, outD, hI, hk, hW, hl⟩ := hS
      refine lv_iinc (v := nI (i + 5)) (lv' := [(5, .int (nI (i + 5))), (0, .ref b), (1, .ref ax), (2, .ref am), (3, .ref ao), (4, .ref aq)]) hx hb dL_law_1999 hl (k := 5) rfl (nI_add i 5) (by decide) rfl (fun ls hl => ?_)
      refine lv_goto (tgt := 28) hx hb dL_law_2002 (by decide) ?_
      exact ih (i + 5) (cells + 8) (slots + 48) H locs ls (by omega) (by omega) (by omega) (by omega) ⟨ax, am, ao, aq, ad, bd, I, F, kept, out, outD, hI, hk, hW, lv_sub hl [1, 2, 3, 4, 5, 0] rfl⟩
    have hs1 : vp_in (nI i + 1) L := by
      have h := nI_add i 1
      show vp_in (nI i + nI 1) L
      rw [h]; exact vp_in_nI (by omega) (by omega)
    have hs2 : vp_in (nI i + 2) L := by
      have h := nI_add i 2
      show vp_in (nI i + nI 2) L
      rw [h]; exact vp_in_nI (by omega) (by omega)
    have hs3 : vp_in (nI i + 3) L := by
      have h := nI_add i 3
      show vp_in (nI i + nI 3) L
      rw [h]; exact vp_in_nI (by omega) (by omega)
    have hs4 : vp_in (nI i + 4) L := by
      have h := nI_add i 4
      show vp_in (nI i + nI 4) L
      rw [h]; exact vp_in_nI (by omega) (by omega)
    by_cases e0 : j = 0
    · rw [e0]; exact lv_tableIn (tgt := 220) hx hb dL_law_44 (by decide) (by decide) rfl (by decide) (lc_insertLeft C hfu (by omega) (by omega) hs1 hs2 hs3 hs4 hS0 K)
    by_cases e1 : j = 1
    · rw [e1]; exact lv_tableIn (tgt := 300) hx hb dL_law_44 (by decide) (by decide) rfl (by decide) (lc_deleteLeft C hfu (by omega) (by omega) hs1 hs2 hs3 hs4 hS0 K)
    by_cases e2 : j = 2
    · rw [e2]; exact lv_tableIn (tgt := 380) hx hb dL_law_44 (by decide) (by decide) rfl (by decide) (lc_insertRight C hfu (by omega) (by omega) hs1 hs2 hs3 hs4 hS0 K)
    by_cases e3 : j = 3
    · rw [e3]; exact lv_tableIn (tgt := 448) hx hb dL_law_44 (by decide) (by decide) rfl (by decide) (lc_deleteRight C hfu (by omega) (by omega) hs1 hs2 hs3 hs4 hS0 K)
    by_cases e4 : j = 4
    · rw [e4]; exact lv_tableIn (tgt := 516) hx hb dL_law_44 (by decide) (by decide) rfl (by decide) (lc_batchSize C hfu (by omega) (by omega) hs1 hs2 hs3 hs4 hS0 K)
    by_cases e5 : j = 5
    · rw [e5]; exact lv_tableIn (tgt := 529) hx hb dL_law_44 (by decide) (by decide) rfl (by decide) (lc_discard C hfu (by omega) (by omega) hs1 hs2 hs3 hs4 hS0 K)
    by_cases e6 : j = 6
    · rw [e6]; exact lv_tableIn (tgt := 542) hx hb dL_law_44 (by decide) (by decide) rfl (by decide) (lc_apply C hfu (by omega) (by omega) hs1 hs2 hs3 hs4 hS0 K)
    by_cases e7 : j = 7
    · rw [e7]; exact lv_tableIn (tgt := 555) hx hb dL_law_44 (by decide) (by decide) rfl (by decide) (lc_rollback C hfu (by omega) (by omega) hs1 hs2 hs3 hs4 hS0 K)
    by_cases e8 : j = 8
    · rw [e8]; exact lv_tableIn (tgt := 599) hx hb dL_law_44 (by decide) (by decide) rfl (by decide) (lc_leftCount C hfu (by omega) (by omega) hs1 hs2 hs3 hs4 hS0 K)
    by_cases e9 : j = 9
    · rw [e9]; exact lv_tableIn (tgt := 679) hx hb dL_law_44 (by decide) (by decide) rfl (by decide) (lc_rightCount C hfu (by omega) (by omega) hs1 hs2 hs3 hs4 hS0 K)
    by_cases e10 : j = 10
    · rw [e10]; exact lv_tableIn (tgt := 747) hx hb dL_law_44 (by decide) (by decide) rfl (by decide) (lc_leftSize C hfu (by omega) (by omega) hs1 hs2 hs3 hs4 hS0 K)
    by_cases e11 : j = 11
    · rw [e11]; exact lv_tableIn (tgt := 760) hx hb dL_law_44 (by decide) (by decide) rfl (by decide) (lc_rightSize C hfu (by omega) (by omega) hs1 hs2 hs3 hs4 hS0 K)
    by_cases e12 : j = 12
    · rw [e12]; exact lv_tableIn (tgt := 773) hx hb dL_law_44 (by decide) (by decide) rfl (by decide) (lc_joinSize C hfu (by omega) (by omega) hs1 hs2 hs3 hs4 hS0 K)
    by_cases e13 : j = 13
    · rw [e13]; exact lv_tableIn (tgt := 786) hx hb dL_law_44 (by decide) (by decide) rfl (by decide) (lc_joinDistinct C hfu (by omega) (by omega) hs1 hs2 hs3 hs4 hS0 K)
    by_cases e14 : j = 14
    · rw [e14]; exact lv_tableIn (tgt := 799) hx hb dL_law_44 (by decide) (by decide) rfl (by decide) (lc_joinCount C hfu (by omega) (by omega) hs1 hs2 hs3 hs4 hS0 K)
    by_cases e15 : j = 15
    · rw [e15]; exact lv_tableIn (tgt := 848) hx hb dL_law_44 (by decide) (by decide) rfl (by decide) (lc_joinRow C hfu (by omega) (by omega) hs1 hs2 hs3 hs4 hS0 K)
    by_cases e16 : j = 16
    · rw [e16]; exact lv_tableIn (tgt := 916) hx hb dL_law_44 (by decide) (by decide) rfl (by decide) (lc_danglingCount C hfu (by omega) (by omega) hs1 hs2 hs3 hs4 hS0 K)
    by_cases e17 : j = 17
    · rw [e17]; exact lv_tableIn (tgt := 929) hx hb dL_law_44 (by decide) (by decide) rfl (by decide) (lc_danglingRow C hfu (by omega) (by omega) hs1 hs2 hs3 hs4 hS0 K)
    by_cases e18 : j = 18
    · rw [e18]; exact lv_tableIn (tgt := 997) hx hb dL_law_44 (by decide) (by decide) rfl (by decide) (lc_groupSize C hfu (by omega) (by omega) hs1 hs2 hs3 hs4 hS0 K)
    by_cases e19 : j = 19
    · rw [e19]; exact lv_tableIn (tgt := 1053) hx hb dL_law_44 (by decide) (by decide) rfl (by decide) (lc_groupSum C hfu (by omega) (by omega) hs1 hs2 hs3 hs4 hS0 K)
    by_cases e20 : j = 20
    · rw [e20]; exact lv_tableIn (tgt := 1109) hx hb dL_law_44 (by decide) (by decide) rfl (by decide) (lc_groupMinimum C hfu (by omega) (by omega) hs1 hs2 hs3 hs4 hS0 K)
    by_cases e21 : j = 21
    · rw [e21]; exact lv_tableIn (tgt := 1165) hx hb dL_law_44 (by decide) (by decide) rfl (by decide) (lc_groupMaximum C hfu (by omega) (by omega) hs1 hs2 hs3 hs4 hS0 K)
    by_cases e22 : j = 22
    · rw [e22]; exact lv_tableIn (tgt := 1221) hx hb dL_law_44 (by decide) (by decide) rfl (by decide) (lc_groupDistinct C hfu (by omega) (by omega) hs1 hs2 hs3 hs4 hS0 K)
    by_cases e23 : j = 23
    · rw [e23]; exact lv_tableIn (tgt := 1277) hx hb dL_law_44 (by decide) (by decide) rfl (by decide) (lc_groupElement C hfu (by omega) (by omega) hs1 hs2 hs3 hs4 hS0 K)
    by_cases e24 : j = 24
    · rw [e24]; exact lv_tableIn (tgt := 1345) hx hb dL_law_44 (by decide) (by decide) rfl (by decide) (lc_groupAverage C hfu (by omega) (by omega) hs1 hs2 hs3 hs4 hS0 K)
    by_cases e25 : j = 25
    · rw [e25]; exact lv_tableIn (tgt := 1422) hx hb dL_law_44 (by decide) (by decide) rfl (by decide) (lc_qualifiedGroups C hfu (by omega) (by omega) hs1 hs2 hs3 hs4 hS0 K)
    by_cases e26 : j = 26
    · rw [e26]; exact lv_tableIn (tgt := 1447) hx hb dL_law_44 (by decide) (by decide) rfl (by decide) (lc_rankedGroup C hfu (by omega) (by omega) hs1 hs2 hs3 hs4 hS0 K)
    by_cases e27 : j = 27
    · rw [e27]; exact lv_tableIn (tgt := 1503) hx hb dL_law_44 (by decide) (by decide) rfl (by decide) (lc_changeCount C hfu (by omega) (by omega) hs1 hs2 hs3 hs4 hS0 K)
    by_cases e28 : j = 28
    · rw [e28]; exact lv_tableIn (tgt := 1516) hx hb dL_law_44 (by decide) (by decide) rfl (by decide) (lc_changeRow C hfu (by omega) (by omega) hs1 hs2 hs3 hs4 hS0 K)
    by_cases e29 : j = 29
    · rw [e29]; exact lv_tableIn (tgt := 1584) hx hb dL_law_44 (by decide) (by decide) rfl (by decide) (lc_watch C hfu (by omega) (by omega) hs1 hs2 hs3 hs4 hS0 K)
    by_cases e30 : j = 30
    · rw [e30]; exact lv_tableIn (tgt := 1652) hx hb dL_law_44 (by decide) (by decide) rfl (by decide) (lc_isRaised C hfu (by omega) (by omega) hs1 hs2 hs3 hs4 hS0 K)
    by_cases e31 : j = 31
    · rw [e31]; exact lv_tableIn (tgt := 1715) hx hb dL_law_44 (by decide) (by decide) rfl (by decide) (lc_changedWatches C hfu (by omega) (by omega) hs1 hs2 hs3 hs4 hS0 K)
    by_cases e32 : j = 32
    · rw [e32]; exact lv_tableIn (tgt := 1728) hx hb dL_law_44 (by decide) (by decide) rfl (by decide) (lc_clearWatches C hfu (by omega) (by omega) hs1 hs2 hs3 hs4 hS0 K)
    by_cases e33 : j = 33
    · rw [e33]; exact lv_tableIn (tgt := 1741) hx hb dL_law_44 (by decide) (by decide) rfl (by decide) (lc_appendCharacter C hfu (by omega) (by omega) hs1 hs2 hs3 hs4 hS0 K)
    by_cases e34 : j = 34
    · rw [e34]; exact lv_tableIn (tgt := 1797) hx hb dL_law_44 (by decide) (by decide) rfl (by decide) (lc_setFilter C hfu (by omega) (by omega) hs1 hs2 hs3 hs4 hS0 K)
    by_cases e35 : j = 35
    · rw [e35]; exact lv_tableIn (tgt := 1841) hx hb dL_law_44 (by decide) (by decide) rfl (by decide) (lc_faultPosition C hfu (by omega) (by omega) hs1 hs2 hs3 hs4 hS0 K)
    by_cases e36 : j = 36
    · rw [e36]; exact lv_tableIn (tgt := 1854) hx hb dL_law_44 (by decide) (by decide) rfl (by decide) (lc_clearFilter C hfu (by omega) (by omega) hs1 hs2 hs3 hs4 hS0 K)
    by_cases e37 : j = 37
    · rw [e37]; exact lv_tableIn (tgt := 1865) hx hb dL_law_44 (by decide) (by decide) rfl (by decide) (lc_accepts C hfu (by omega) (by omega) hs1 hs2 hs3 hs4 hS0 K)
    by_cases e38 : j = 38
    · rw [e38]; exact lv_tableIn (tgt := 1964) hx hb dL_law_44 (by decide) (by decide) rfl (by decide) (lc_save C hfu (by omega) (by omega) hs1 hs2 hs3 hs4 hS0 K)
    by_cases e39 : j = 39
    · rw [e39]; exact lv_tableIn (tgt := 1975) hx hb dL_law_44 (by decide) (by decide) rfl (by decide) (lc_restore C hfu (by omega) (by omega) hs1 hs2 hs3 hs4 hS0 K)
    refine lv_tableOut (tgt := 1999) hx hb dL_law_44 (by rw [nI_toInt (by omega)]; omega) (by decide) ?_
    refine W.widen (k := cells + 8) (n := slots + 48) (by omega) (by omega) ?_
    exact K H locs ls hS0
