
theorem P_insertLeft {fu : Nat} (hfu : 100000 ≤ fu) {I : Nat → Int32} {F : Nat → Nat → Int32} (hI : Inv I F) (out : Nat → Int64) (v1 : Int32) (v2 : Int32) (v3 : Int32) : ∃ (c9 : Int32 × Int32 × Int32 × Int32 × (Nat → Int32) × (Nat → Int32) × (Nat → Int64)) (u9 : Int32 × Int32 × Int32 × (Nat → Int32) × (Nat → Int32)), f_L_insertLeft fu 60 60 1 v1 v2 v3 (I 0) (I 7) (I 8) (F 4) (F 5) out = some c9 ∧ f_X9_insertLeft fu 960 16 v1 v2 v3 (I 50) (I 51) (F 53) (F 54) = some u9 ∧ u9.2.1 = c9.1 ∧ (c9.1 = 0 → c9.2.2.2.2.2.2 0 = u9.1.toInt64) ∧ Inv (gI [c9.2.1, I 1, I 2, I 3, I 4, I 5, I 6, c9.2.2.1, c9.2.2.2.1, I 9, I 10, I 11, I 12, I 13, I 14, I 15, I 16, I 17, I 18, I 19, I 20, I 21, I 22, I 23, I 24, I 25, I 26, I 27, I 28, I 29, I 30, I 31, I 32, I 33, I 34, I 35, I 36, I 37, I 38, I 39, I 40, I 41, I 42, I 43, I 44, I 45, I 46, I 47, I 48, I 49, u9.2.1, u9.2.2.1, I 52, I 53, I 54, I 55, I 56, I 57, I 58, I 59, I 60, I 61, I 62, I 63, I 64, I 65, I 66, I 67, I 68, I 69, I 70]) (gF [F 0, F 1, F 2, F 3, c9.2.2.2.2.1, c9.2.2.2.2.2.1, F 6, F 7, F 8, F 9, F 10, F 11, F 12, F 13, F 14, F 15, F 16, F 17, F 18, F 19, F 20, F 21, F 22, F 23, F 24, F 25, F 26, F 27, F 28, F 29, F 30, F 31, F 32, F 33, F 34, F 35, F 36, F 37, F 38, F 39, F 40, F 41, F 42, F 43, F 44, F 45, F 46, F 47, F 48, F 49, F 50, F 51, F 52, u9.2.2.2.1, u9.2.2.2.2, F 55, F 56, F 57, F 58, F 59, F 60, F 61, F 62, F 63, F 64, F 65, F 66, F 67]) := by
  obtain ⟨cur, plan, old, sav, hs, flt, sfl, wat, swa, tn, ch, dep, nx, tx, fa, sv, ha, c1, c2, c3, c4, c5, c6, m1, m2, m3, m4, m5⟩ := hI
  have hch : ch ≤ 40 := ha.2.2.2.2.2.2.1
  have tb : TB 11940 plan.1 := (R2.tb m1.2.1).1
  have fC : f_X8_leftCode v1 v2 v3 = some ((v1 * 6 + v2) * 199 + v3 + 99) := rfl
  have fM : f_X9_leftOf v1 v2 v3 = some ((v1 * 6 + v2) * 199 + v3 + 99) := rfl
  have eI0 : I 0 = nI ch := c6.1
  have eI51 : I 51 = nI ch := m5.1
  cases hv : LV v1 v2 v3 with
  | false =>
    have h1 : f_L_insertLeft fu 60 60 1 v1 v2 v3 (I 0) (I 7) (I 8) (F 4) (F 5) out = some (1, I 0, I 7, I 8, F 4, F 5, out) := by
      unfold f_L_insertLeft f_X8_insertLeft
      rw [f_reqL, hv, k_b1S]; rfl
    have h2 : f_X9_insertLeft fu 960 16 v1 v2 v3 (I 50) (I 51) (F 53) (F 54) = some (0, 1, I 51, F 53, F 54) := by
      unfold f_X9_insertLeft
      rw [f_isLeft9, hv, k_b1S]; rfl
    exact ⟨_, _, h1, h2, rfl, fun q => absurd (show (1 : Int32) = 0 from q) (by decide), cur, plan, old, sav, hs, flt, sfl, wat, swa, tn, ch, dep, nx, tx, fa, sv, ha, c1, c2, c3, c4, c5, c6, m1, m2, m3, m4, m5⟩
  | true =>
    obtain ⟨q, hq, eq, _⟩ := LV_code hv
    rw [eq] at fC fM
    rcases m_plans (t := 2) (thr := I 50) hfu (by decide) (by decide) hq hch m1.2.1.1 with ⟨e1, hw⟩ | ⟨h40, h60, rows', size', e1, p2, p3, p4⟩
    · have h1 : f_L_insertLeft fu 60 60 1 v1 v2 v3 (I 0) (I 7) (I 8) (F 4) (F 5) out = some (2, I 0, I 7, I 8, F 4, F 5, out) := by
        unfold f_L_insertLeft f_X8_insertLeft
        rw [f_reqL, hv, k_b1S, if_pos rfl, if_pos rfl, eI0, f_roomB hch, k_b1S, f_roomT c1.2.1.1 tb, k_b1S]
        by_cases z : ch = 40
        · rw [if_pos z]; rfl
        · rw [if_neg z, if_pos rfl, if_pos (hw.resolve_left z)]; rfl
      have h2 : f_X9_insertLeft fu 960 16 v1 v2 v3 (I 50) (I 51) (F 53) (F 54) = some (0, 2, I 51, F 53, F 54) := by
        unfold f_X9_insertLeft
        rw [f_isLeft9, hv, k_b1S, if_neg (by decide), fM, k_b1S, eI51]
        have e1' : f_X9_plans fu 960 16 2 (nI q) (I 50) (nI ch) (F 53) (F 54) = some (0, 2, nI ch, F 53, F 54) := e1
        rw [e1']; rfl
      exact ⟨_, _, h1, h2, rfl, fun q => absurd (show (2 : Int32) = 0 from q) (by decide), cur, plan, old, sav, hs, flt, sfl, wat, swa, tn, ch, dep, nx, tx, fa, sv, ha, c1, c2, c3, c4, c5, c6, m1, m2, m3, m4, m5⟩
    · obtain ⟨s', t', co', cn', k1, crn⟩ := c_plan (ch := ch) hfu (by decide) hq c1.2.1.1 tb (a := 1) (Or.inl ⟨rfl, h60⟩)
      have h1 : f_L_insertLeft fu 60 60 1 v1 v2 v3 (I 0) (I 7) (I 8) (F 4) (F 5) out = some (0, nI (ch + 1), s', t', co', cn', vp_updL out (0 : Int32).toNatClampNeg (nI (ch + 1)).toInt64) := by
        unfold f_L_insertLeft f_X8_insertLeft
        rw [f_reqL, hv, k_b1S, if_pos rfl, if_pos rfl, eI0, f_roomB hch, k_b1S, f_roomT c1.2.1.1 tb, k_b1S, if_neg (show ¬ ch = 40 by omega), if_pos rfl, if_neg (show ¬ fb_si plan.1 11940 = 60 by omega), if_pos rfl, fC, k_b1S]
        have k1' : f_X8_planChange fu 60 60 (nI q) 1 (nI ch) (I 7) (I 8) (F 4) (F 5) = _ := k1
        rw [k1']; rfl
      have h2 : f_X9_insertLeft fu 960 16 v1 v2 v3 (I 50) (I 51) (F 53) (F 54) = some (nI (ch + 1), 0, nI (ch + 1), rows', size') := by
        unfold f_X9_insertLeft
        rw [f_isLeft9, hv, k_b1S, if_neg (by decide), fM, k_b1S, eI51]
        have e1' : f_X9_plans fu 960 16 2 (nI q) (I 50) (nI ch) (F 53) (F 54) = _ := e1
        rw [e1']; rfl
      exact ⟨_, _, h1, h2, rfl, fun _ => rfl, cur, (mu plan.1 q 1, plan.2), old, sav, hs, flt, sfl, wat, swa, tn, ch + 1, dep, nx, tx, fa, sv, ⟨ha.1, ha.2.1, ha.2.2.1, ha.2.2.2.1, ha.2.2.2.2.1, ha.2.2.2.2.2.1, by omega, ha.2.2.2.2.2.2.2⟩, ⟨c1.1, ⟨crn, c1.2.1.2⟩, c1.2.2⟩, c2, c3, c4, c5, ⟨rfl, c6.2⟩, ⟨R2_keep m1.1 p3 p4 (by decide), ⟨p2, m1.2.1.2.cong (fun i hi => p3 _ (by omega)) (p4 _ (by decide))⟩, R2_keep m1.2.2.1 p3 p4 (by decide), R2_keep m1.2.2.2.1 p3 p4 (by decide), fun k hk => R2_keep (m1.2.2.2.2 k hk) p3 p4 (by omega)⟩, m2, m3, m4, ⟨rfl, m5.2⟩⟩


theorem P_deleteLeft {fu : Nat} (hfu : 100000 ≤ fu) {I : Nat → Int32} {F : Nat → Nat → Int32} (hI : Inv I F) (out : Nat → Int64) (v1 : Int32) (v2 : Int32) (v3 : Int32) : ∃ (c9 : Int32 × Int32 × Int32 × Int32 × (Nat → Int32) × (Nat → Int32) × (Nat → Int64)) (u9 : Int32 × Int32 × Int32 × (Nat → Int32) × (Nat → Int32)), f_L_deleteLeft fu 60 60 1 v1 v2 v3 (I 0) (I 7) (I 8) (F 4) (F 5) out = some c9 ∧ f_X9_deleteLeft fu 960 16 v1 v2 v3 (I 50) (I 51) (F 53) (F 54) = some u9 ∧ u9.2.1 = c9.1 ∧ (c9.1 = 0 → c9.2.2.2.2.2.2 0 = u9.1.toInt64) ∧ Inv (gI [c9.2.1, I 1, I 2, I 3, I 4, I 5, I 6, c9.2.2.1, c9.2.2.2.1, I 9, I 10, I 11, I 12, I 13, I 14, I 15, I 16, I 17, I 18, I 19, I 20, I 21, I 22, I 23, I 24, I 25, I 26, I 27, I 28, I 29, I 30, I 31, I 32, I 33, I 34, I 35, I 36, I 37, I 38, I 39, I 40, I 41, I 42, I 43, I 44, I 45, I 46, I 47, I 48, I 49, u9.2.1, u9.2.2.1, I 52, I 53, I 54, I 55, I 56, I 57, I 58, I 59, I 60, I 61, I 62, I 63, I 64, I 65, I 66, I 67, I 68, I 69, I 70]) (gF [F 0, F 1, F 2, F 3, c9.2.2.2.2.1, c9.2.2.2.2.2.1, F 6, F 7, F 8, F 9, F 10, F 11, F 12, F 13, F 14, F 15, F 16, F 17, F 18, F 19, F 20, F 21, F 22, F 23, F 24, F 25, F 26, F 27, F 28, F 29, F 30, F 31, F 32, F 33, F 34, F 35, F 36, F 37, F 38, F 39, F 40, F 41, F 42, F 43, F 44, F 45, F 46, F 47, F 48, F 49, F 50, F 51, F 52, u9.2.2.2.1, u9.2.2.2.2, F 55, F 56, F 57, F 58, F 59, F 60, F 61, F 62, F 63, F 64, F 65, F 66, F 67]) := by
  obtain ⟨cur, plan, old, sav, hs, flt, sfl, wat, swa, tn, ch, dep, nx, tx, fa, sv, ha, c1, c2, c3, c4, c5, c6, m1, m2, m3, m4, m5⟩ := hI
  have hch : ch ≤ 40 := ha.2.2.2.2.2.2.1
  have tb : TB 11940 plan.1 := (R2.tb m1.2.1).1
  have fC : f_X8_leftCode v1 v2 v3 = some ((v1 * 6 + v2) * 199 + v3 + 99) := rfl
  have fM : f_X9_leftOf v1 v2 v3 = some ((v1 * 6 + v2) * 199 + v3 + 99) := rfl
  have eI0 : I 0 = nI ch := c6.1
  have eI51 : I 51 = nI ch := m5.1
  cases hv : LV v1 v2 v3 with
  | false =>
    have h1 : f_L_deleteLeft fu 60 60 1 v1 v2 v3 (I 0) (I 7) (I 8) (F 4) (F 5) out = some (1, I 0, I 7, I 8, F 4, F 5, out) := by
      unfold f_L_deleteLeft f_X8_deleteLeft
      rw [f_reqL, hv, k_b1S]; rfl
    have h2 : f_X9_deleteLeft fu 960 16 v1 v2 v3 (I 50) (I 51) (F 53) (F 54) = some (0, 1, I 51, F 53, F 54) := by
      unfold f_X9_deleteLeft
      rw [f_isLeft9, hv, k_b1S]; rfl
    exact ⟨_, _, h1, h2, rfl, fun q => absurd (show (1 : Int32) = 0 from q) (by decide), cur, plan, old, sav, hs, flt, sfl, wat, swa, tn, ch, dep, nx, tx, fa, sv, ha, c1, c2, c3, c4, c5, c6, m1, m2, m3, m4, m5⟩
  | true =>
    obtain ⟨q, hq, eq, _⟩ := LV_code hv
    rw [eq] at fC fM
    rcases m_unplans (t := 2) (thr := I 50) hfu (by decide) (by decide) hq hch m1.2.1.1 with ⟨e1, hw⟩ | ⟨e1, h40, hw⟩ | ⟨h40, hne, rows', size', e1, p2, p3, p4⟩
    · have h1 : f_L_deleteLeft fu 60 60 1 v1 v2 v3 (I 0) (I 7) (I 8) (F 4) (F 5) out = some (2, I 0, I 7, I 8, F 4, F 5, out) := by
        unfold f_L_deleteLeft f_X8_deleteLeft
        rw [f_reqL, hv, k_b1S, if_pos rfl, if_pos rfl, eI0, f_roomB hch, k_b1S, if_pos hw]; rfl
      have h2 : f_X9_deleteLeft fu 960 16 v1 v2 v3 (I 50) (I 51) (F 53) (F 54) = some (0, 2, I 51, F 53, F 54) := by
        unfold f_X9_deleteLeft
        rw [f_isLeft9, hv, k_b1S, if_neg (by decide), fM, k_b1S, eI51]
        have e1' : f_X9_unplans fu 960 16 2 (nI q) (I 50) (nI ch) (F 53) (F 54) = _ := e1
        rw [e1']; rfl
      exact ⟨_, _, h1, h2, rfl, fun q => absurd (show (2 : Int32) = 0 from q) (by decide), cur, plan, old, sav, hs, flt, sfl, wat, swa, tn, ch, dep, nx, tx, fa, sv, ha, c1, c2, c3, c4, c5, c6, m1, m2, m3, m4, m5⟩
    · have h1 : f_L_deleteLeft fu 60 60 1 v1 v2 v3 (I 0) (I 7) (I 8) (F 4) (F 5) out = some (3, I 0, I 7, I 8, F 4, F 5, out) := by
        unfold f_L_deleteLeft f_X8_deleteLeft
        rw [f_reqL, hv, k_b1S, if_pos rfl, if_pos rfl, eI0, f_roomB hch, k_b1S, if_neg (show ¬ ch = 40 by omega), if_pos rfl, fC, k_b1S, f_rowT hfu (by decide) hq c1.2.1.1 tb, k_b1S, if_pos hw]; rfl
      have h2 : f_X9_deleteLeft fu 960 16 v1 v2 v3 (I 50) (I 51) (F 53) (F 54) = some (0, 3, I 51, F 53, F 54) := by
        unfold f_X9_deleteLeft
        rw [f_isLeft9, hv, k_b1S, if_neg (by decide), fM, k_b1S, eI51]
        have e1' : f_X9_unplans fu 960 16 2 (nI q) (I 50) (nI ch) (F 53) (F 54) = _ := e1
        rw [e1']; rfl
      exact ⟨_, _, h1, h2, rfl, fun q => absurd (show (3 : Int32) = 0 from q) (by decide), cur, plan, old, sav, hs, flt, sfl, wat, swa, tn, ch, dep, nx, tx, fa, sv, ha, c1, c2, c3, c4, c5, c6, m1, m2, m3, m4, m5⟩
    · obtain ⟨s', t', co', cn', k1, crn⟩ := c_plan (ch := ch) hfu (by decide) hq c1.2.1.1 tb (a := -1) (Or.inr ⟨rfl, hne⟩)
      have h1 : f_L_deleteLeft fu 60 60 1 v1 v2 v3 (I 0) (I 7) (I 8) (F 4) (F 5) out = some (0, nI (ch + 1), s', t', co', cn', vp_updL out (0 : Int32).toNatClampNeg (nI (ch + 1)).toInt64) := by
        unfold f_L_deleteLeft f_X8_deleteLeft
        rw [f_reqL, hv, k_b1S, if_pos rfl, if_pos rfl, eI0, f_roomB hch, k_b1S, if_neg (show ¬ ch = 40 by omega), if_pos rfl, fC, k_b1S, f_rowT hfu (by decide) hq c1.2.1.1 tb, k_b1S, if_neg hne, if_pos rfl]
        have k1' : f_X8_planChange fu 60 60 (nI q) (-1) (nI ch) (I 7) (I 8) (F 4) (F 5) = _ := k1
        rw [k1']; rfl
      have h2 : f_X9_deleteLeft fu 960 16 v1 v2 v3 (I 50) (I 51) (F 53) (F 54) = some (nI (ch + 1), 0, nI (ch + 1), rows', size') := by
        unfold f_X9_deleteLeft
        rw [f_isLeft9, hv, k_b1S, if_neg (by decide), fM, k_b1S, eI51]
        have e1' : f_X9_unplans fu 960 16 2 (nI q) (I 50) (nI ch) (F 53) (F 54) = _ := e1
        rw [e1']; rfl
      exact ⟨_, _, h1, h2, rfl, fun _ => rfl, cur, (mu plan.1 q (-1), plan.2), old, sav, hs, flt, sfl, wat, swa, tn, ch + 1, dep, nx, tx, fa, sv, ⟨ha.1, ha.2.1, ha.2.2.1, ha.2.2.2.1, ha.2.2.2.2.1, ha.2.2.2.2.2.1, by omega, ha.2.2.2.2.2.2.2⟩, ⟨c1.1, ⟨crn, c1.2.1.2⟩, c1.2.2⟩, c2, c3, c4, c5, ⟨rfl, c6.2⟩, ⟨R2_keep m1.1 p3 p4 (by decide), ⟨p2, m1.2.1.2.cong (fun i hi => p3 _ (by omega)) (p4 _ (by decide))⟩, R2_keep m1.2.2.1 p3 p4 (by decide), R2_keep m1.2.2.2.1 p3 p4 (by decide), fun k hk => R2_keep (m1.2.2.2.2 k hk) p3 p4 (by omega)⟩, m2, m3, m4, ⟨rfl, m5.2⟩⟩

theorem P_insertRight {fu : Nat} (hfu : 100000 ≤ fu) {I : Nat → Int32} {F : Nat → Nat → Int32} (hI : Inv I F) (out : Nat → Int64) (v1 : Int32) (v2 : Int32) : ∃ (c9 : Int32 × Int32 × Int32 × Int32 × (Nat → Int32) × (Nat → Int32) × (Nat → Int64)) (u9 : Int32 × Int32 × Int32 × (Nat → Int32) × (Nat → Int32)), f_L_insertRight fu 60 60 1 v1 v2 (I 0) (I 9) (I 10) (F 6) (F 7) out = some c9 ∧ f_X9_insertRight fu 960 16 v1 v2 (I 50) (I 51) (F 53) (F 54) = some u9 ∧ u9.2.1 = c9.1 ∧ (c9.1 = 0 → c9.2.2.2.2.2.2 0 = u9.1.toInt64) ∧ Inv (gI [c9.2.1, I 1, I 2, I 3, I 4, I 5, I 6, I 7, I 8, c9.2.2.1, c9.2.2.2.1, I 11, I 12, I 13, I 14, I 15, I 16, I 17, I 18, I 19, I 20, I 21, I 22, I 23, I 24, I 25, I 26, I 27, I 28, I 29, I 30, I 31, I 32, I 33, I 34, I 35, I 36, I 37, I 38, I 39, I 40, I 41, I 42, I 43, I 44, I 45, I 46, I 47, I 48, I 49, u9.2.1, u9.2.2.1, I 52, I 53, I 54, I 55, I 56, I 57, I 58, I 59, I 60, I 61, I 62, I 63, I 64, I 65, I 66, I 67, I 68, I 69, I 70]) (gF [F 0, F 1, F 2, F 3, F 4, F 5, c9.2.2.2.2.1, c9.2.2.2.2.2.1, F 8, F 9, F 10, F 11, F 12, F 13, F 14, F 15, F 16, F 17, F 18, F 19, F 20, F 21, F 22, F 23, F 24, F 25, F 26, F 27, F 28, F 29, F 30, F 31, F 32, F 33, F 34, F 35, F 36, F 37, F 38, F 39, F 40, F 41, F 42, F 43, F 44, F 45, F 46, F 47, F 48, F 49, F 50, F 51, F 52, u9.2.2.2.1, u9.2.2.2.2, F 55, F 56, F 57, F 58, F 59, F 60, F 61, F 62, F 63, F 64, F 65, F 66, F 67]) := by
  obtain ⟨cur, plan, old, sav, hs, flt, sfl, wat, swa, tn, ch, dep, nx, tx, fa, sv, ha, c1, c2, c3, c4, c5, c6, m1, m2, m3, m4, m5⟩ := hI
  have hch : ch ≤ 40 := ha.2.2.2.2.2.2.1
  have tb : TB 190 plan.2 := (R2.tb m1.2.1).2
  have fC : f_X8_rightCode v1 v2 = some (v1 * 19 + v2 + 9) := rfl
  have fM : f_X9_rightOf v1 v2 = some (v1 * 19 + v2 + 9) := rfl
  have eI0 : I 0 = nI ch := c6.1
  have eI51 : I 51 = nI ch := m5.1
  cases hv : RV v1 v2 with
  | false =>
    have h1 : f_L_insertRight fu 60 60 1 v1 v2 (I 0) (I 9) (I 10) (F 6) (F 7) out = some (1, I 0, I 9, I 10, F 6, F 7, out) := by
      unfold f_L_insertRight f_X8_insertRight
      rw [f_reqR, hv, k_b1S]; rfl
    have h2 : f_X9_insertRight fu 960 16 v1 v2 (I 50) (I 51) (F 53) (F 54) = some (0, 1, I 51, F 53, F 54) := by
      unfold f_X9_insertRight
      rw [f_isRight9, hv, k_b1S]; rfl
    exact ⟨_, _, h1, h2, rfl, fun q => absurd (show (1 : Int32) = 0 from q) (by decide), cur, plan, old, sav, hs, flt, sfl, wat, swa, tn, ch, dep, nx, tx, fa, sv, ha, c1, c2, c3, c4, c5, c6, m1, m2, m3, m4, m5⟩
  | true =>
    obtain ⟨q, hq, eq, _⟩ := RV_code hv
    rw [eq] at fC fM
    rcases m_plans (t := 3) (thr := I 50) hfu (by decide) (by decide) hq hch m1.2.1.2 with ⟨e1, hw⟩ | ⟨h40, h60, rows', size', e1, p2, p3, p4⟩
    · have h1 : f_L_insertRight fu 60 60 1 v1 v2 (I 0) (I 9) (I 10) (F 6) (F 7) out = some (2, I 0, I 9, I 10, F 6, F 7, out) := by
        unfold f_L_insertRight f_X8_insertRight
        rw [f_reqR, hv, k_b1S, if_pos rfl, if_pos rfl, eI0, f_roomB hch, k_b1S, f_roomT c1.2.1.2 tb, k_b1S]
        by_cases z : ch = 40
        · rw [if_pos z]; rfl
        · rw [if_neg z, if_pos rfl, if_pos (hw.resolve_left z)]; rfl
      have h2 : f_X9_insertRight fu 960 16 v1 v2 (I 50) (I 51) (F 53) (F 54) = some (0, 2, I 51, F 53, F 54) := by
        unfold f_X9_insertRight
        rw [f_isRight9, hv, k_b1S, if_neg (by decide), fM, k_b1S, eI51]
        have e1' : f_X9_plans fu 960 16 3 (nI q) (I 50) (nI ch) (F 53) (F 54) = some (0, 2, nI ch, F 53, F 54) := e1
        rw [e1']; rfl
      exact ⟨_, _, h1, h2, rfl, fun q => absurd (show (2 : Int32) = 0 from q) (by decide), cur, plan, old, sav, hs, flt, sfl, wat, swa, tn, ch, dep, nx, tx, fa, sv, ha, c1, c2, c3, c4, c5, c6, m1, m2, m3, m4, m5⟩
    · obtain ⟨s', t', co', cn', k1, crn⟩ := c_plan (ch := ch) hfu (by decide) hq c1.2.1.2 tb (a := 1) (Or.inl ⟨rfl, h60⟩)
      have h1 : f_L_insertRight fu 60 60 1 v1 v2 (I 0) (I 9) (I 10) (F 6) (F 7) out = some (0, nI (ch + 1), s', t', co', cn', vp_updL out (0 : Int32).toNatClampNeg (nI (ch + 1)).toInt64) := by
        unfold f_L_insertRight f_X8_insertRight
        rw [f_reqR, hv, k_b1S, if_pos rfl, if_pos rfl, eI0, f_roomB hch, k_b1S, f_roomT c1.2.1.2 tb, k_b1S, if_neg (show ¬ ch = 40 by omega), if_pos rfl, if_neg (show ¬ fb_si plan.2 190 = 60 by omega), if_pos rfl, fC, k_b1S]
        have k1' : f_X8_planChange fu 60 60 (nI q) 1 (nI ch) (I 9) (I 10) (F 6) (F 7) = _ := k1
        rw [k1']; rfl
      have h2 : f_X9_insertRight fu 960 16 v1 v2 (I 50) (I 51) (F 53) (F 54) = some (nI (ch + 1), 0, nI (ch + 1), rows', size') := by
        unfold f_X9_insertRight
        rw [f_isRight9, hv, k_b1S, if_neg (by decide), fM, k_b1S, eI51]
        have e1' : f_X9_plans fu 960 16 3 (nI q) (I 50) (nI ch) (F 53) (F 54) = _ := e1
        rw [e1']; rfl
      exact ⟨_, _, h1, h2, rfl, fun _ => rfl, cur, (plan.1, mu plan.2 q 1), old, sav, hs, flt, sfl, wat, swa, tn, ch + 1, dep, nx, tx, fa, sv, ⟨ha.1, ha.2.1, ha.2.2.1, ha.2.2.2.1, ha.2.2.2.2.1, ha.2.2.2.2.2.1, by omega, ha.2.2.2.2.2.2.2⟩, ⟨c1.1, ⟨c1.2.1.1, crn⟩, c1.2.2⟩, c2, c3, c4, c5, ⟨rfl, c6.2⟩, ⟨R2_keep m1.1 p3 p4 (by decide), ⟨m1.2.1.1.cong (fun i hi => p3 _ (by omega)) (p4 _ (by decide)), p2⟩, R2_keep m1.2.2.1 p3 p4 (by decide), R2_keep m1.2.2.2.1 p3 p4 (by decide), fun k hk => R2_keep (m1.2.2.2.2 k hk) p3 p4 (by omega)⟩, m2, m3, m4, ⟨rfl, m5.2⟩⟩


theorem P_deleteRight {fu : Nat} (hfu : 100000 ≤ fu) {I : Nat → Int32} {F : Nat → Nat → Int32} (hI : Inv I F) (out : Nat → Int64) (v1 : Int32) (v2 : Int32) : ∃ (c9 : Int32 × Int32 × Int32 × Int32 × (Nat → Int32) × (Nat → Int32) × (Nat → Int64)) (u9 : Int32 × Int32 × Int32 × (Nat → Int32) × (Nat → Int32)), f_L_deleteRight fu 60 60 1 v1 v2 (I 0) (I 9) (I 10) (F 6) (F 7) out = some c9 ∧ f_X9_deleteRight fu 960 16 v1 v2 (I 50) (I 51) (F 53) (F 54) = some u9 ∧ u9.2.1 = c9.1 ∧ (c9.1 = 0 → c9.2.2.2.2.2.2 0 = u9.1.toInt64) ∧ Inv (gI [c9.2.1, I 1, I 2, I 3, I 4, I 5, I 6, I 7, I 8, c9.2.2.1, c9.2.2.2.1, I 11, I 12, I 13, I 14, I 15, I 16, I 17, I 18, I 19, I 20, I 21, I 22, I 23, I 24, I 25, I 26, I 27, I 28, I 29, I 30, I 31, I 32, I 33, I 34, I 35, I 36, I 37, I 38, I 39, I 40, I 41, I 42, I 43, I 44, I 45, I 46, I 47, I 48, I 49, u9.2.1, u9.2.2.1, I 52, I 53, I 54, I 55, I 56, I 57, I 58, I 59, I 60, I 61, I 62, I 63, I 64, I 65, I 66, I 67, I 68, I 69, I 70]) (gF [F 0, F 1, F 2, F 3, F 4, F 5, c9.2.2.2.2.1, c9.2.2.2.2.2.1, F 8, F 9, F 10, F 11, F 12, F 13, F 14, F 15, F 16, F 17, F 18, F 19, F 20, F 21, F 22, F 23, F 24, F 25, F 26, F 27, F 28, F 29, F 30, F 31, F 32, F 33, F 34, F 35, F 36, F 37, F 38, F 39, F 40, F 41, F 42, F 43, F 44, F 45, F 46, F 47, F 48, F 49, F 50, F 51, F 52, u9.2.2.2.1, u9.2.2.2.2, F 55, F 56, F 57, F 58, F 59, F 60, F 61, F 62, F 63, F 64, F 65, F 66, F 67]) := by
  obtain ⟨cur, plan, old, sav, hs, flt, sfl, wat, swa, tn, ch, dep, nx, tx, fa, sv, ha, c1, c2, c3, c4, c5, c6, m1, m2, m3, m4, m5⟩ := hI
  have hch : ch ≤ 40 := ha.2.2.2.2.2.2.1
  have tb : TB 190 plan.2 := (R2.tb m1.2.1).2
  have fC : f_X8_rightCode v1 v2 = some (v1 * 19 + v2 + 9) := rfl
  have fM : f_X9_rightOf v1 v2 = some (v1 * 19 + v2 + 9) := rfl
  have eI0 : I 0 = nI ch := c6.1
  have eI51 : I 51 = nI ch := m5.1
  cases hv : RV v1 v2 with
  | false =>
    have h1 : f_L_deleteRight fu 60 60 1 v1 v2 (I 0) (I 9) (I 10) (F 6) (F 7) out = some (1, I 0, I 9, I 10, F 6, F 7, out) := by
      unfold f_L_deleteRight f_X8_deleteRight
      rw [f_reqR, hv, k_b1S]; rfl
    have h2 : f_X9_deleteRight fu 960 16 v1 v2 (I 50) (I 51) (F 53) (F 54) = some (0, 1, I 51, F 53, F 54) := by
      unfold f_X9_deleteRight
      rw [f_isRight9, hv, k_b1S]; rfl
    exact ⟨_, _, h1, h2, rfl, fun q => absurd (show (1 : Int32) = 0 from q) (by decide), cur, plan, old, sav, hs, flt, sfl, wat, swa, tn, ch, dep, nx, tx, fa, sv, ha, c1, c2, c3, c4, c5, c6, m1, m2, m3, m4, m5⟩
  | true =>
    obtain ⟨q, hq, eq, _⟩ := RV_code hv
    rw [eq] at fC fM
    rcases m_unplans (t := 3) (thr := I 50) hfu (by decide) (by decide) hq hch m1.2.1.2 with ⟨e1, hw⟩ | ⟨e1, h40, hw⟩ | ⟨h40, hne, rows', size', e1, p2, p3, p4⟩
    · have h1 : f_L_deleteRight fu 60 60 1 v1 v2 (I 0) (I 9) (I 10) (F 6) (F 7) out = some (2, I 0, I 9, I 10, F 6, F 7, out) := by
        unfold f_L_deleteRight f_X8_deleteRight
        rw [f_reqR, hv, k_b1S, if_pos rfl, if_pos rfl, eI0, f_roomB hch, k_b1S, if_pos hw]; rfl
      have h2 : f_X9_deleteRight fu 960 16 v1 v2 (I 50) (I 51) (F 53) (F 54) = some (0, 2, I 51, F 53, F 54) := by
        unfold f_X9_deleteRight
        rw [f_isRight9, hv, k_b1S, if_neg (by decide), fM, k_b1S, eI51]
        have e1' : f_X9_unplans fu 960 16 3 (nI q) (I 50) (nI ch) (F 53) (F 54) = _ := e1
        rw [e1']; rfl
      exact ⟨_, _, h1, h2, rfl, fun q => absurd (show (2 : Int32) = 0 from q) (by decide), cur, plan, old, sav, hs, flt, sfl, wat, swa, tn, ch, dep, nx, tx, fa, sv, ha, c1, c2, c3, c4, c5, c6, m1, m2, m3, m4, m5⟩
    · have h1 : f_L_deleteRight fu 60 60 1 v1 v2 (I 0) (I 9) (I 10) (F 6) (F 7) out = some (3, I 0, I 9, I 10, F 6, F 7, out) := by
        unfold f_L_deleteRight f_X8_deleteRight
        rw [f_reqR, hv, k_b1S, if_pos rfl, if_pos rfl, eI0, f_roomB hch, k_b1S, if_neg (show ¬ ch = 40 by omega), if_pos rfl, fC, k_b1S, f_rowT hfu (by decide) hq c1.2.1.2 tb, k_b1S, if_pos hw]; rfl
      have h2 : f_X9_deleteRight fu 960 16 v1 v2 (I 50) (I 51) (F 53) (F 54) = some (0, 3, I 51, F 53, F 54) := by
        unfold f_X9_deleteRight
        rw [f_isRight9, hv, k_b1S, if_neg (by decide), fM, k_b1S, eI51]
        have e1' : f_X9_unplans fu 960 16 3 (nI q) (I 50) (nI ch) (F 53) (F 54) = _ := e1
        rw [e1']; rfl
      exact ⟨_, _, h1, h2, rfl, fun q => absurd (show (3 : Int32) = 0 from q) (by decide), cur, plan, old, sav, hs, flt, sfl, wat, swa, tn, ch, dep, nx, tx, fa, sv, ha, c1, c2, c3, c4, c5, c6, m1, m2, m3, m4, m5⟩
    · obtain ⟨s', t', co', cn', k1, crn⟩ := c_plan (ch := ch) hfu (by decide) hq c1.2.1.2 tb (a := -1) (Or.inr ⟨rfl, hne⟩)
      have h1 : f_L_deleteRight fu 60 60 1 v1 v2 (I 0) (I 9) (I 10) (F 6) (F 7) out = some (0, nI (ch + 1), s', t', co', cn', vp_updL out (0 : Int32).toNatClampNeg (nI (ch + 1)).toInt64) := by
        unfold f_L_deleteRight f_X8_deleteRight
        rw [f_reqR, hv, k_b1S, if_pos rfl, if_pos rfl, eI0, f_roomB hch, k_b1S, if_neg (show ¬ ch = 40 by omega), if_pos rfl, fC, k_b1S, f_rowT hfu (by decide) hq c1.2.1.2 tb, k_b1S, if_neg hne, if_pos rfl]
        have k1' : f_X8_planChange fu 60 60 (nI q) (-1) (nI ch) (I 9) (I 10) (F 6) (F 7) = _ := k1
        rw [k1']; rfl
      have h2 : f_X9_deleteRight fu 960 16 v1 v2 (I 50) (I 51) (F 53) (F 54) = some (nI (ch + 1), 0, nI (ch + 1), rows', size') := by
        unfold f_X9_deleteRight
        rw [f_isRight9, hv, k_b1S, if_neg (by decide), fM, k_b1S, eI51]
        have e1' : f_X9_unplans fu 960 16 3 (nI q) (I 50) (nI ch) (F 53) (F 54) = _ := e1
        rw [e1']; rfl
      exact ⟨_, _, h1, h2, rfl, fun _ => rfl, cur, (plan.1, mu plan.2 q (-1)), old, sav, hs, flt, sfl, wat, swa, tn, ch + 1, dep, nx, tx, fa, sv, ⟨ha.1, ha.2.1, ha.2.2.1, ha.2.2.2.1, ha.2.2.2.2.1, ha.2.2.2.2.2.1, by omega, ha.2.2.2.2.2.2.2⟩, ⟨c1.1, ⟨c1.2.1.1, crn⟩, c1.2.2⟩, c2, c3, c4, c5, ⟨rfl, c6.2⟩, ⟨R2_keep m1.1 p3 p4 (by decide), ⟨m1.2.1.1.cong (fun i hi => p3 _ (by omega)) (p4 _ (by decide)), p2⟩, R2_keep m1.2.2.1 p3 p4 (by decide), R2_keep m1.2.2.2.1 p3 p4 (by decide), fun k hk => R2_keep (m1.2.2.2.2 k hk) p3 p4 (by omega)⟩, m2, m3, m4, ⟨rfl, m5.2⟩⟩
