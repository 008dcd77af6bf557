
theorem P_batchSize {fu : Nat} (hfu : 100000 ≤ fu) {I : Nat → Int32} {F : Nat → Nat → Int32} (hI : Inv I F) : ∃ (c9 : Int32) (u9 : Int32 × Int32), f_X8_batchSize (I 0) = some c9 ∧ f_X9_batchSize (I 51) (I 50) = some u9 ∧ c9 = u9.1 ∧ Inv (gI [I 0, I 1, I 2, I 3, I 4, I 5, I 6, I 7, I 8, I 9, I 10, I 11, I 12, I 13, I 14, I 15, I 16, I 17, I 18, I 19, I 20, I 21, I 22, I 23, I 24, I 25, I 26, I 27, I 28, I 29, I 30, I 31, I 32, I 33, I 34, I 35, I 36, I 37, I 38, I 39, I 40, I 41, I 42, I 43, I 44, I 45, I 46, I 47, I 48, I 49, u9.2, I 51, I 52, I 53, I 54, I 55, I 56, I 57, I 58, I 59, I 60, I 61, I 62, I 63, I 64, I 65, I 66, I 67, I 68, I 69, I 70]) F := by
  obtain ⟨cur, plan, old, sav, hs, flt, sfl, wat, swa, tn, ch, dep, nx, tx, fa, sv, ha, c1, c2, c3, c4, c5, c6, m1, m2, m3, m4, m5⟩ := hI
  exact ⟨_, _, rfl, rfl, c6.1.trans m5.1.symm, cur, plan, old, sav, hs, flt, sfl, wat, swa, tn, ch, dep, nx, tx, fa, sv, ha, c1, c2, c3, c4, c5, c6, m1, m2, m3, m4, m5⟩

theorem P_faultPosition {fu : Nat} (hfu : 100000 ≤ fu) {I : Nat → Int32} {F : Nat → Nat → Int32} (hI : Inv I F) : ∃ (c9 : Int32) (u9 : Int32 × Int32), f_X8_faultPosition (I 1) = some c9 ∧ f_X9_faultPosition (I 69) (I 50) = some u9 ∧ c9 = u9.1 ∧ Inv (gI [I 0, I 1, I 2, I 3, I 4, I 5, I 6, I 7, I 8, I 9, I 10, I 11, I 12, I 13, I 14, I 15, I 16, I 17, I 18, I 19, I 20, I 21, I 22, I 23, I 24, I 25, I 26, I 27, I 28, I 29, I 30, I 31, I 32, I 33, I 34, I 35, I 36, I 37, I 38, I 39, I 40, I 41, I 42, I 43, I 44, I 45, I 46, I 47, I 48, I 49, u9.2, I 51, I 52, I 53, I 54, I 55, I 56, I 57, I 58, I 59, I 60, I 61, I 62, I 63, I 64, I 65, I 66, I 67, I 68, I 69, I 70]) F := by
  obtain ⟨cur, plan, old, sav, hs, flt, sfl, wat, swa, tn, ch, dep, nx, tx, fa, sv, ha, c1, c2, c3, c4, c5, c6, m1, m2, m3, m4, m5⟩ := hI
  exact ⟨_, _, rfl, rfl, c6.2.2.2.1.trans m5.2.2.1.symm, cur, plan, old, sav, hs, flt, sfl, wat, swa, tn, ch, dep, nx, tx, fa, sv, ha, c1, c2, c3, c4, c5, c6, m1, m2, m3, m4, m5⟩

theorem P_leftSize {fu : Nat} (hfu : 100000 ≤ fu) {I : Nat → Int32} {F : Nat → Nat → Int32} (hI : Inv I F) : ∃ (c9 : Int32) (u9 : Int32 × Int32), f_X8_leftSize (I 4) = some c9 ∧ f_X9_leftSize 16 (F 54) (I 50) = some u9 ∧ c9 = u9.1 ∧ Inv (gI [I 0, I 1, I 2, I 3, I 4, I 5, I 6, I 7, I 8, I 9, I 10, I 11, I 12, I 13, I 14, I 15, I 16, I 17, I 18, I 19, I 20, I 21, I 22, I 23, I 24, I 25, I 26, I 27, I 28, I 29, I 30, I 31, I 32, I 33, I 34, I 35, I 36, I 37, I 38, I 39, I 40, I 41, I 42, I 43, I 44, I 45, I 46, I 47, I 48, I 49, u9.2, I 51, I 52, I 53, I 54, I 55, I 56, I 57, I 58, I 59, I 60, I 61, I 62, I 63, I 64, I 65, I 66, I 67, I 68, I 69, I 70]) F := by
  obtain ⟨cur, plan, old, sav, hs, flt, sfl, wat, swa, tn, ch, dep, nx, tx, fa, sv, ha, c1, c2, c3, c4, c5, c6, m1, m2, m3, m4, m5⟩ := hI
  obtain ⟨n, r, e1, h⟩ := m1.1.1
  obtain ⟨k, kk, e2, e3, h2⟩ := c1.1.1
  refine ⟨_, _, rfl, rfl, ?_, cur, plan, old, sav, hs, flt, sfl, wat, swa, tn, ch, dep, nx, tx, fa, sv, ha, c1, c2, c3, c4, c5, c6, m1, m2, m3, m4, m5⟩
  rw [h.tb.2, zI_nat] at e3
  exact e3.trans e1.symm

theorem P_rightSize {fu : Nat} (hfu : 100000 ≤ fu) {I : Nat → Int32} {F : Nat → Nat → Int32} (hI : Inv I F) : ∃ (c9 : Int32) (u9 : Int32 × Int32), f_X8_rightSize (I 6) = some c9 ∧ f_X9_rightSize 16 (F 54) (I 50) = some u9 ∧ c9 = u9.1 ∧ Inv (gI [I 0, I 1, I 2, I 3, I 4, I 5, I 6, I 7, I 8, I 9, I 10, I 11, I 12, I 13, I 14, I 15, I 16, I 17, I 18, I 19, I 20, I 21, I 22, I 23, I 24, I 25, I 26, I 27, I 28, I 29, I 30, I 31, I 32, I 33, I 34, I 35, I 36, I 37, I 38, I 39, I 40, I 41, I 42, I 43, I 44, I 45, I 46, I 47, I 48, I 49, u9.2, I 51, I 52, I 53, I 54, I 55, I 56, I 57, I 58, I 59, I 60, I 61, I 62, I 63, I 64, I 65, I 66, I 67, I 68, I 69, I 70]) F := by
  obtain ⟨cur, plan, old, sav, hs, flt, sfl, wat, swa, tn, ch, dep, nx, tx, fa, sv, ha, c1, c2, c3, c4, c5, c6, m1, m2, m3, m4, m5⟩ := hI
  obtain ⟨n, r, e1, h⟩ := m1.1.2
  obtain ⟨k, kk, e2, e3, h2⟩ := c1.1.2
  refine ⟨_, _, rfl, rfl, ?_, cur, plan, old, sav, hs, flt, sfl, wat, swa, tn, ch, dep, nx, tx, fa, sv, ha, c1, c2, c3, c4, c5, c6, m1, m2, m3, m4, m5⟩
  rw [h.tb.2, zI_nat] at e3
  exact e3.trans e1.symm

theorem P_leftCount {fu : Nat} (hfu : 100000 ≤ fu) {I : Nat → Int32} {F : Nat → Nat → Int32} (hI : Inv I F) (out : Nat → Int64) (v1 : Int32) (v2 : Int32) (v3 : Int32) : ∃ (c9 : Int32 × (Nat → Int64)) (u9 : Int32 × Int32), f_L_leftCount fu 60 60 1 (I 3) (F 0) (F 1) v1 v2 v3 out = some c9 ∧ f_X9_leftCount fu 960 16 (F 53) (F 54) v1 v2 v3 (I 50) = some u9 ∧ u9.2 = c9.1 ∧ (c9.1 = 0 → c9.2 0 = u9.1.toInt64) ∧ Inv (gI [I 0, I 1, I 2, I 3, I 4, I 5, I 6, I 7, I 8, I 9, I 10, I 11, I 12, I 13, I 14, I 15, I 16, I 17, I 18, I 19, I 20, I 21, I 22, I 23, I 24, I 25, I 26, I 27, I 28, I 29, I 30, I 31, I 32, I 33, I 34, I 35, I 36, I 37, I 38, I 39, I 40, I 41, I 42, I 43, I 44, I 45, I 46, I 47, I 48, I 49, u9.2, I 51, I 52, I 53, I 54, I 55, I 56, I 57, I 58, I 59, I 60, I 61, I 62, I 63, I 64, I 65, I 66, I 67, I 68, I 69, I 70]) F := by
  obtain ⟨cur, plan, old, sav, hs, flt, sfl, wat, swa, tn, ch, dep, nx, tx, fa, sv, ha, c1, c2, c3, c4, c5, c6, m1, m2, m3, m4, m5⟩ := hI
  have key : ∃ (c9 : Int32 × (Nat → Int64)) (u9 : Int32 × Int32), f_L_leftCount fu 60 60 1 (I 3) (F 0) (F 1) v1 v2 v3 out = some c9 ∧ f_X9_leftCount fu 960 16 (F 53) (F 54) v1 v2 v3 (I 50) = some u9 ∧ (u9.2 = c9.1 ∧ (c9.1 = 0 → c9.2 0 = u9.1.toInt64)) := by
   obtain ⟨n, r, e1, h⟩ := m1.1.1
   obtain ⟨k, kk, e2, e3, h2⟩ := c1.1.1
   have fC : ∀ x y z : Int32, f_X8_leftCode x y z = some ((x * 6 + y) * 199 + z + 99) := fun _ _ _ => rfl
   have fM : ∀ x y z : Int32, f_X9_leftOf x y z = some ((x * 6 + y) * 199 + z + 99) := fun _ _ _ => rfl
   unfold f_L_leftCount f_X8_leftCount f_X9_leftCount
   rw [f_reqL, f_isLeft9, k_b1S, k_b1S, fC, fM]
   cases hv : LV v1 v2 v3 with
   | false =>
     rw [if_neg (by decide), if_neg (by decide), k_b2S, if_neg (by decide), if_pos rfl, if_pos (by decide)]
     exact ⟨_, _, rfl, rfl, rfl, fun q => absurd (show (1 : Int32) = 0 from q) (by decide)⟩
   | true =>
     obtain ⟨q, hq, eq, _⟩ := LV_code hv
     rw [if_pos rfl, if_pos rfl, k_b1S, eq, e2, f_countOf hfu (by decide) (by decide) hq h2, k_b1S, k_b2S, if_pos rfl, if_pos (by decide), if_neg (by decide), k_b1S]
     have e9 : f_X9_countOf fu 960 16 (F 53) (F 54) 0 (nI q) = some (zI (cur.1 q)) := f_countOf9 (t := 0) hfu (by decide) e1 h (by decide) hq
     rw [e9, k_b1S]
     exact ⟨_, _, rfl, rfl, rfl, fun _ => rfl⟩
  obtain ⟨c9, u9, h1, h2, h3⟩ := key
  exact ⟨c9, u9, h1, h2, h3.1, h3.2, cur, plan, old, sav, hs, flt, sfl, wat, swa, tn, ch, dep, nx, tx, fa, sv, ha, c1, c2, c3, c4, c5, c6, m1, m2, m3, m4, m5⟩

theorem P_rightCount {fu : Nat} (hfu : 100000 ≤ fu) {I : Nat → Int32} {F : Nat → Nat → Int32} (hI : Inv I F) (out : Nat → Int64) (v1 : Int32) (v2 : Int32) : ∃ (c9 : Int32 × (Nat → Int64)) (u9 : Int32 × Int32), f_L_rightCount fu 60 60 1 (I 5) (F 2) (F 3) v1 v2 out = some c9 ∧ f_X9_rightCount fu 960 16 (F 53) (F 54) v1 v2 (I 50) = some u9 ∧ u9.2 = c9.1 ∧ (c9.1 = 0 → c9.2 0 = u9.1.toInt64) ∧ Inv (gI [I 0, I 1, I 2, I 3, I 4, I 5, I 6, I 7, I 8, I 9, I 10, I 11, I 12, I 13, I 14, I 15, I 16, I 17, I 18, I 19, I 20, I 21, I 22, I 23, I 24, I 25, I 26, I 27, I 28, I 29, I 30, I 31, I 32, I 33, I 34, I 35, I 36, I 37, I 38, I 39, I 40, I 41, I 42, I 43, I 44, I 45, I 46, I 47, I 48, I 49, u9.2, I 51, I 52, I 53, I 54, I 55, I 56, I 57, I 58, I 59, I 60, I 61, I 62, I 63, I 64, I 65, I 66, I 67, I 68, I 69, I 70]) F := by
  obtain ⟨cur, plan, old, sav, hs, flt, sfl, wat, swa, tn, ch, dep, nx, tx, fa, sv, ha, c1, c2, c3, c4, c5, c6, m1, m2, m3, m4, m5⟩ := hI
  have key : ∃ (c9 : Int32 × (Nat → Int64)) (u9 : Int32 × Int32), f_L_rightCount fu 60 60 1 (I 5) (F 2) (F 3) v1 v2 out = some c9 ∧ f_X9_rightCount fu 960 16 (F 53) (F 54) v1 v2 (I 50) = some u9 ∧ (u9.2 = c9.1 ∧ (c9.1 = 0 → c9.2 0 = u9.1.toInt64)) := by
   obtain ⟨n, r, e1, h⟩ := m1.1.2
   obtain ⟨k, kk, e2, e3, h2⟩ := c1.1.2
   have fC : ∀ x y : Int32, f_X8_rightCode x y = some (x * 19 + y + 9) := fun _ _ => rfl
   have fM : ∀ x y : Int32, f_X9_rightOf x y = some (x * 19 + y + 9) := fun _ _ => rfl
   unfold f_L_rightCount f_X8_rightCount f_X9_rightCount
   rw [f_reqR, f_isRight9, k_b1S, k_b1S, fC, fM]
   cases hv : RV v1 v2 with
   | false =>
     rw [if_neg (by decide), if_neg (by decide), k_b2S, if_neg (by decide), if_pos rfl, if_pos (by decide)]
     exact ⟨_, _, rfl, rfl, rfl, fun q => absurd (show (1 : Int32) = 0 from q) (by decide)⟩
   | true =>
     obtain ⟨q, hq, eq, _⟩ := RV_code hv
     rw [if_pos rfl, if_pos rfl, k_b1S, eq, e2, f_countOf hfu (by decide) (by decide) hq h2, k_b1S, k_b2S, if_pos rfl, if_pos (by decide), if_neg (by decide), k_b1S]
     have e9 : f_X9_countOf fu 960 16 (F 53) (F 54) 1 (nI q) = some (zI (cur.2 q)) := f_countOf9 (t := 1) hfu (by decide) e1 h (by decide) hq
     rw [e9, k_b1S]
     exact ⟨_, _, rfl, rfl, rfl, fun _ => rfl⟩
  obtain ⟨c9, u9, h1, h2, h3⟩ := key
  exact ⟨c9, u9, h1, h2, h3.1, h3.2, cur, plan, old, sav, hs, flt, sfl, wat, swa, tn, ch, dep, nx, tx, fa, sv, ha, c1, c2, c3, c4, c5, c6, m1, m2, m3, m4, m5⟩
