theorem DD_f (flt : F3) (cur old : T2) : DD false (MT flt.1 flt.2.1 flt.2.2) cur.1 cur.2 old.1 old.2 = JF flt cur := funext fun _ => if_neg (by decide)
theorem DD_t (flt : F3) (cur old : T2) : DD true (MT flt.1 flt.2.1 flt.2.2) cur.1 cur.2 old.1 old.2 = fun c => JF flt cur c - JF flt old c := funext fun _ => if_pos rfl

theorem P_joinSize {fu : Nat} (hfu : 100000 ≤ fu) {I : Nat → Int32} {F : Nat → Nat → Int32} (hI : Inv I F) : ∃ (c9 : Int32) (u9 : Int32 × Int32 × (Nat → Int32)), f_X8_joinSize (I 37) = some c9 ∧ f_X9_joinSize fu 960 16 40 40 (I 53) (F 53) (F 54) (F 55) (I 50) (F 59) = some u9 ∧ c9 = u9.1 ∧ Inv (gI [I 0, I 1, I 2, I 3, I 4, I 5, I 6, I 7, I 8, I 9, I 10, I 11, I 12, I 13, I 14, I 15, I 16, I 17, I 18, I 19, I 20, I 21, I 22, I 23, I 24, I 25, I 26, I 27, I 28, I 29, I 30, I 31, I 32, I 33, I 34, I 35, I 36, I 37, I 38, I 39, I 40, I 41, I 42, I 43, I 44, I 45, I 46, I 47, I 48, I 49, u9.2.1, I 51, I 52, I 53, I 54, I 55, I 56, I 57, I 58, I 59, I 60, I 61, I 62, I 63, I 64, I 65, I 66, I 67, I 68, I 69, I 70]) (gF [F 0, F 1, F 2, F 3, F 4, F 5, F 6, F 7, F 8, F 9, F 10, F 11, F 12, F 13, F 14, F 15, F 16, F 17, F 18, F 19, F 20, F 21, F 22, F 23, F 24, F 25, F 26, F 27, F 28, F 29, F 30, F 31, F 32, F 33, F 34, F 35, F 36, F 37, F 38, F 39, F 40, F 41, F 42, F 43, F 44, F 45, F 46, F 47, F 48, F 49, F 50, F 51, F 52, F 53, F 54, F 55, F 56, F 57, F 58, u9.2.2, F 60, F 61, F 62, F 63, F 64, F 65, F 66, F 67]) := by
  obtain ⟨cur, plan, old, sav, hs, flt, sfl, wat, swa, tn, ch, dep, nx, tx, fa, sv, ha, c1, c2, c3, c4, c5, c6, m1, m2, m3, m4, m5⟩ := hI
  obtain ⟨st', e⟩ := f_pairs hfu m1.1 (HM9.of hfu ha.1 m2.1) (F 59)
  obtain ⟨k, kk, e2, e3, h2⟩ := c5.1
  have h1 : f_X9_joinSize fu 960 16 40 40 (I 53) (F 53) (F 54) (F 55) (I 50) (F 59) = some (zI (fb_si (JF flt cur) 106980), 0, st') := by
    unfold f_X9_joinSize
    have e' : f_X9_pairs fu 960 16 40 40 (I 53) (F 53) (F 54) (F 55) (F 59) = some (zI (fb_si (JF flt cur) 106980), st') := e
    rw [e']; rfl
  exact ⟨_, _, rfl, h1, e3, cur, plan, old, sav, hs, flt, sfl, wat, swa, tn, ch, dep, nx, tx, fa, sv, ha, c1, c2, c3, c4, c5, c6, m1, m2, m3, m4, m5⟩

theorem P_joinDistinct {fu : Nat} (hfu : 100000 ≤ fu) {I : Nat → Int32} {F : Nat → Nat → Int32} (hI : Inv I F) : ∃ (c9 : Int32) (u9 : Int32 × Int32 × Int32 × Int32 × Int32 × Int32 × Int32 × (Nat → Int32) × (Nat → Int32)), f_X8_joinDistinct (I 36) = some c9 ∧ f_X9_joinDistinct fu 960 16 40 40 1783 (I 53) (F 53) (F 54) (F 55) (I 50) (I 57) (I 58) (I 59) (I 60) (I 61) (F 59) (F 60) = some u9 ∧ c9 = u9.1 ∧ Inv (gI [I 0, I 1, I 2, I 3, I 4, I 5, I 6, I 7, I 8, I 9, I 10, I 11, I 12, I 13, I 14, I 15, I 16, I 17, I 18, I 19, I 20, I 21, I 22, I 23, I 24, I 25, I 26, I 27, I 28, I 29, I 30, I 31, I 32, I 33, I 34, I 35, I 36, I 37, I 38, I 39, I 40, I 41, I 42, I 43, I 44, I 45, I 46, I 47, I 48, I 49, u9.2.1, I 51, I 52, I 53, I 54, I 55, I 56, u9.2.2.1, u9.2.2.2.1, u9.2.2.2.2.1, u9.2.2.2.2.2.1, u9.2.2.2.2.2.2.1, I 62, I 63, I 64, I 65, I 66, I 67, I 68, I 69, I 70]) (gF [F 0, F 1, F 2, F 3, F 4, F 5, F 6, F 7, F 8, F 9, F 10, F 11, F 12, F 13, F 14, F 15, F 16, F 17, F 18, F 19, F 20, F 21, F 22, F 23, F 24, F 25, F 26, F 27, F 28, F 29, F 30, F 31, F 32, F 33, F 34, F 35, F 36, F 37, F 38, F 39, F 40, F 41, F 42, F 43, F 44, F 45, F 46, F 47, F 48, F 49, F 50, F 51, F 52, F 53, F 54, F 55, F 56, F 57, F 58, u9.2.2.2.2.2.2.2.1, u9.2.2.2.2.2.2.2.2, F 61, F 62, F 63, F 64, F 65, F 66, F 67]) := by
  obtain ⟨cur, plan, old, sav, hs, flt, sfl, wat, swa, tn, ch, dep, nx, tx, fa, sv, ha, c1, c2, c3, c4, c5, c6, m1, m2, m3, m4, m5⟩ := hI
  obtain ⟨fk, fg, fp, fm, ic, st, cs, e, hcl⟩ := f_rowsOf (ch := false) (v2 := 0) hfu m1.1 m1.2.2.1 (HM9.of hfu ha.1 m2.1) rfl (I 57) (I 58) (I 59) (I 60) (I 61) (F 59) (F 60) m5.2.2.2.2
  obtain ⟨k, kk, e2, e3, h2⟩ := c5.1
  have h1 : f_X9_joinDistinct fu 960 16 40 40 1783 (I 53) (F 53) (F 54) (F 55) (I 50) (I 57) (I 58) (I 59) (I 60) (I 61) (F 59) (F 60) = some (nI k, 0, fk, fg, fp, fm, ic, st, cs) := by
    unfold f_X9_joinDistinct
    rw [DD_f, h2.cnt] at e
    rw [e]; rfl
  exact ⟨_, _, rfl, h1, e2, cur, plan, old, sav, hs, flt, sfl, wat, swa, tn, ch, dep, nx, tx, fa, sv, ha, c1, c2, c3, c4, c5, c6, m1, m2, m3, m4, ⟨m5.1, m5.2.1, m5.2.2.1, m5.2.2.2.1, hcl⟩⟩

theorem P_changeCount {fu : Nat} (hfu : 100000 ≤ fu) {I : Nat → Int32} {F : Nat → Nat → Int32} (hI : Inv I F) : ∃ (c9 : Int32) (u9 : Int32 × Int32 × Int32 × Int32 × Int32 × Int32 × Int32 × (Nat → Int32) × (Nat → Int32)), f_X8_changeCount (I 40) = some c9 ∧ f_X9_changeCount fu 960 16 40 40 1783 (I 53) (F 53) (F 54) (F 55) (I 50) (I 57) (I 58) (I 59) (I 60) (I 61) (F 59) (F 60) = some u9 ∧ c9 = u9.1 ∧ Inv (gI [I 0, I 1, I 2, I 3, I 4, I 5, I 6, I 7, I 8, I 9, I 10, I 11, I 12, I 13, I 14, I 15, I 16, I 17, I 18, I 19, I 20, I 21, I 22, I 23, I 24, I 25, I 26, I 27, I 28, I 29, I 30, I 31, I 32, I 33, I 34, I 35, I 36, I 37, I 38, I 39, I 40, I 41, I 42, I 43, I 44, I 45, I 46, I 47, I 48, I 49, u9.2.1, I 51, I 52, I 53, I 54, I 55, I 56, u9.2.2.1, u9.2.2.2.1, u9.2.2.2.2.1, u9.2.2.2.2.2.1, u9.2.2.2.2.2.2.1, I 62, I 63, I 64, I 65, I 66, I 67, I 68, I 69, I 70]) (gF [F 0, F 1, F 2, F 3, F 4, F 5, F 6, F 7, F 8, F 9, F 10, F 11, F 12, F 13, F 14, F 15, F 16, F 17, F 18, F 19, F 20, F 21, F 22, F 23, F 24, F 25, F 26, F 27, F 28, F 29, F 30, F 31, F 32, F 33, F 34, F 35, F 36, F 37, F 38, F 39, F 40, F 41, F 42, F 43, F 44, F 45, F 46, F 47, F 48, F 49, F 50, F 51, F 52, F 53, F 54, F 55, F 56, F 57, F 58, u9.2.2.2.2.2.2.2.1, u9.2.2.2.2.2.2.2.2, F 61, F 62, F 63, F 64, F 65, F 66, F 67]) := by
  obtain ⟨cur, plan, old, sav, hs, flt, sfl, wat, swa, tn, ch, dep, nx, tx, fa, sv, ha, c1, c2, c3, c4, c5, c6, m1, m2, m3, m4, m5⟩ := hI
  obtain ⟨fk, fg, fp, fm, ic, st, cs, e, hcl⟩ := f_rowsOf (ch := true) (v2 := 1) hfu m1.1 m1.2.2.1 (HM9.of hfu ha.1 m2.1) rfl (I 57) (I 58) (I 59) (I 60) (I 61) (F 59) (F 60) m5.2.2.2.2
  obtain ⟨k, kk, e2, e3, h2⟩ := c5.2.2.2.1
  have h1 : f_X9_changeCount fu 960 16 40 40 1783 (I 53) (F 53) (F 54) (F 55) (I 50) (I 57) (I 58) (I 59) (I 60) (I 61) (F 59) (F 60) = some (nI k, 0, fk, fg, fp, fm, ic, st, cs) := by
    unfold f_X9_changeCount
    rw [DD_t, h2.cnt] at e
    rw [e]; rfl
  exact ⟨_, _, rfl, h1, e2, cur, plan, old, sav, hs, flt, sfl, wat, swa, tn, ch, dep, nx, tx, fa, sv, ha, c1, c2, c3, c4, c5, c6, m1, m2, m3, m4, ⟨m5.1, m5.2.1, m5.2.2.1, m5.2.2.2.1, hcl⟩⟩

theorem P_joinRow {fu : Nat} (hfu : 100000 ≤ fu) {I : Nat → Int32} {F : Nat → Nat → Int32} (hI : Inv I F) (out : Nat → Int64) (v1 : Int32) (v2 : Int32) : ∃ (c9 : Int32 × (Nat → Int64)) (u9 : Int32 × Int32 × Int32 × Int32 × Int32 × Int32 × Int32 × (Nat → Int32) × (Nat → Int32)), f_L_joinRow 1140 1140 1 (I 36) (F 32) (F 33) v1 v2 out = some c9 ∧ f_X9_joinRow fu 960 16 40 40 1783 (I 53) (F 53) (F 54) (F 55) v1 v2 (I 50) (I 57) (I 58) (I 59) (I 60) (I 61) (F 59) (F 60) = some u9 ∧ u9.2.1 = c9.1 ∧ (c9.1 = 0 → c9.2 0 = u9.1.toInt64) ∧ Inv (gI [I 0, I 1, I 2, I 3, I 4, I 5, I 6, I 7, I 8, I 9, I 10, I 11, I 12, I 13, I 14, I 15, I 16, I 17, I 18, I 19, I 20, I 21, I 22, I 23, I 24, I 25, I 26, I 27, I 28, I 29, I 30, I 31, I 32, I 33, I 34, I 35, I 36, I 37, I 38, I 39, I 40, I 41, I 42, I 43, I 44, I 45, I 46, I 47, I 48, I 49, u9.2.1, I 51, I 52, I 53, I 54, I 55, I 56, u9.2.2.1, u9.2.2.2.1, u9.2.2.2.2.1, u9.2.2.2.2.2.1, u9.2.2.2.2.2.2.1, I 62, I 63, I 64, I 65, I 66, I 67, I 68, I 69, I 70]) (gF [F 0, F 1, F 2, F 3, F 4, F 5, F 6, F 7, F 8, F 9, F 10, F 11, F 12, F 13, F 14, F 15, F 16, F 17, F 18, F 19, F 20, F 21, F 22, F 23, F 24, F 25, F 26, F 27, F 28, F 29, F 30, F 31, F 32, F 33, F 34, F 35, F 36, F 37, F 38, F 39, F 40, F 41, F 42, F 43, F 44, F 45, F 46, F 47, F 48, F 49, F 50, F 51, F 52, F 53, F 54, F 55, F 56, F 57, F 58, u9.2.2.2.2.2.2.2.1, u9.2.2.2.2.2.2.2.2, F 61, F 62, F 63, F 64, F 65, F 66, F 67]) := by
  obtain ⟨cur, plan, old, sav, hs, flt, sfl, wat, swa, tn, ch, dep, nx, tx, fa, sv, ha, c1, c2, c3, c4, c5, c6, m1, m2, m3, m4, m5⟩ := hI
  obtain ⟨n, kk, e2, e3, h2⟩ := c5.1
  have hn := h2.1
  obtain ⟨res, thr, fk, fg, fp, fm, ic, st, cs, e, hcl, hr⟩ := f_columnOf (ch := false) (v2 := 0) hfu m1.1 m1.2.2.1 (HM9.of hfu ha.1 m2.1) rfl v1 v2 (I 50) (I 57) (I 58) (I 59) (I 60) (I 61) (F 59) (F 60) m5.2.2.2.2 (n := n) (by rw [DD_f]; exact h2.cnt)
  rw [DD_f] at hr
  have h1 : f_X9_joinRow fu 960 16 40 40 1783 (I 53) (F 53) (F 54) (F 55) v1 v2 (I 50) (I 57) (I 58) (I 59) (I 60) (I 61) (F 59) (F 60) = some (res, thr, fk, fg, fp, fm, ic, st, cs) := by
    unfold f_X9_joinRow
    rw [e]; rfl
  have key : ∃ c9 : Int32 × (Nat → Int64), f_L_joinRow 1140 1140 1 (I 36) (F 32) (F 33) v1 v2 out = some c9 ∧ thr = c9.1 ∧ (c9.1 = 0 → c9.2 0 = res.toInt64) := by
    unfold f_L_joinRow f_X8_joinRow f_X0_size
    rw [show f_X6_join = some () from rfl, k_b1S, k_b1S, e2]
    rcases f_reqI (n := n) (by omega) v1 with ⟨q1, i, hi, ei⟩ | ⟨q1, no⟩
    · rw [q1, k_b1S, if_pos rfl]
      rcases f_reqI (n := 4) (by decide) v2 with ⟨q2, col, hc, ec⟩ | ⟨q2, no⟩
      · rw [show f_X8_requireIndex v2 4 = some 0 from q2, k_b1S, if_pos rfl, k_b1S, ei, ec, f_joinColumn (by decide) h2 hi hc, k_b1S, k_b2S, if_pos rfl, if_pos (by decide)]
        rcases hr with ⟨t1, t2⟩ | ⟨t1, i', col', c, hi', ei', hc', ec', hcc, hh, hres⟩
        · exact absurd ⟨⟨i, hi, ei⟩, ⟨col, hc, ec⟩⟩ t2
        · refine ⟨_, rfl, t1, fun _ => ?_⟩
          have a1 : i' = i := (nI_eq (by omega) (by omega)).mp (ei'.symm.trans ei)
          have a2 : col' = col := (nI_eq (by omega) (by omega)).mp (ec'.symm.trans ec)
          have a3 : fb_ct (NZ (JF flt cur)) c = i := by
            have b1 : nI i' = nI (fb_ct (NZ (JF flt cur)) c) := hh.2
            have b2 := fb_ct_le (NZ (JF flt cur)) c
            rw [nI_eq (by omega) (by omega)] at b1; omega
          have a4 : kk i = c := fb_ct_kth_one (p := NZ (JF flt cur)) (decide_eq_true (h2.2.1 i hi).2.2.1) (decide_eq_true hh.1) (by rw [h2.rank hi, a3])
          show (colv (JF flt cur) col (kk i)).toInt64 = res.toInt64
          rw [hres, a2, a4]
      · rw [show f_X8_requireIndex v2 4 = some 3 from q2, k_b1S, if_neg (by decide), k_b2S, if_neg (by decide), if_pos rfl]
        rcases hr with ⟨t1, t2⟩ | ⟨t1, i', col', c, hi', ei', hc', ec', _⟩
        · exact ⟨_, rfl, t1, fun q => absurd (show (1 : Int32) = 0 from q) (by decide)⟩
        · exact absurd ⟨col', hc', ec'⟩ no
    · rw [q1, k_b1S, if_neg (by decide), k_b2S, if_neg (by decide), if_pos rfl]
      rcases hr with ⟨t1, t2⟩ | ⟨t1, i', col', c, hi', ei', hc', ec', _⟩
      · exact ⟨_, rfl, t1, fun q => absurd (show (1 : Int32) = 0 from q) (by decide)⟩
      · exact absurd ⟨i', hi', ei'⟩ no
  obtain ⟨c9, k1, k2, k3⟩ := key
  exact ⟨c9, _, k1, h1, k2, k3, cur, plan, old, sav, hs, flt, sfl, wat, swa, tn, ch, dep, nx, tx, fa, sv, ha, c1, c2, c3, c4, c5, c6, m1, m2, m3, m4, ⟨m5.1, m5.2.1, m5.2.2.1, m5.2.2.2.1, hcl⟩⟩

theorem P_changeRow {fu : Nat} (hfu : 100000 ≤ fu) {I : Nat → Int32} {F : Nat → Nat → Int32} (hI : Inv I F) (out : Nat → Int64) (v1 : Int32) (v2 : Int32) : ∃ (c9 : Int32 × (Nat → Int64)) (u9 : Int32 × Int32 × Int32 × Int32 × Int32 × Int32 × Int32 × (Nat → Int32) × (Nat → Int32)), f_L_changeRow 2280 2280 1 (I 40) (F 40) (F 41) v1 v2 out = some c9 ∧ f_X9_changeRow fu 960 16 40 40 1783 (I 53) (F 53) (F 54) (F 55) v1 v2 (I 50) (I 57) (I 58) (I 59) (I 60) (I 61) (F 59) (F 60) = some u9 ∧ u9.2.1 = c9.1 ∧ (c9.1 = 0 → c9.2 0 = u9.1.toInt64) ∧ Inv (gI [I 0, I 1, I 2, I 3, I 4, I 5, I 6, I 7, I 8, I 9, I 10, I 11, I 12, I 13, I 14, I 15, I 16, I 17, I 18, I 19, I 20, I 21, I 22, I 23, I 24, I 25, I 26, I 27, I 28, I 29, I 30, I 31, I 32, I 33, I 34, I 35, I 36, I 37, I 38, I 39, I 40, I 41, I 42, I 43, I 44, I 45, I 46, I 47, I 48, I 49, u9.2.1, I 51, I 52, I 53, I 54, I 55, I 56, u9.2.2.1, u9.2.2.2.1, u9.2.2.2.2.1, u9.2.2.2.2.2.1, u9.2.2.2.2.2.2.1, I 62, I 63, I 64, I 65, I 66, I 67, I 68, I 69, I 70]) (gF [F 0, F 1, F 2, F 3, F 4, F 5, F 6, F 7, F 8, F 9, F 10, F 11, F 12, F 13, F 14, F 15, F 16, F 17, F 18, F 19, F 20, F 21, F 22, F 23, F 24, F 25, F 26, F 27, F 28, F 29, F 30, F 31, F 32, F 33, F 34, F 35, F 36, F 37, F 38, F 39, F 40, F 41, F 42, F 43, F 44, F 45, F 46, F 47, F 48, F 49, F 50, F 51, F 52, F 53, F 54, F 55, F 56, F 57, F 58, u9.2.2.2.2.2.2.2.1, u9.2.2.2.2.2.2.2.2, F 61, F 62, F 63, F 64, F 65, F 66, F 67]) := by
  obtain ⟨cur, plan, old, sav, hs, flt, sfl, wat, swa, tn, ch, dep, nx, tx, fa, sv, ha, c1, c2, c3, c4, c5, c6, m1, m2, m3, m4, m5⟩ := hI
  obtain ⟨n, kk, e2, e3, h2⟩ := c5.2.2.2.1
  have hn := h2.1
  obtain ⟨res, thr, fk, fg, fp, fm, ic, st, cs, e, hcl, hr⟩ := f_columnOf (ch := true) (v2 := 1) hfu m1.1 m1.2.2.1 (HM9.of hfu ha.1 m2.1) rfl v1 v2 (I 50) (I 57) (I 58) (I 59) (I 60) (I 61) (F 59) (F 60) m5.2.2.2.2 (n := n) (by rw [DD_t]; exact h2.cnt)
  rw [DD_t] at hr
  have h1 : f_X9_changeRow fu 960 16 40 40 1783 (I 53) (F 53) (F 54) (F 55) v1 v2 (I 50) (I 57) (I 58) (I 59) (I 60) (I 61) (F 59) (F 60) = some (res, thr, fk, fg, fp, fm, ic, st, cs) := by
    unfold f_X9_changeRow
    rw [e]; rfl
  have key : ∃ c9 : Int32 × (Nat → Int64), f_L_changeRow 2280 2280 1 (I 40) (F 40) (F 41) v1 v2 out = some c9 ∧ thr = c9.1 ∧ (c9.1 = 0 → c9.2 0 = res.toInt64) := by
    unfold f_L_changeRow f_X8_changeRow f_X0_size
    rw [show f_X6_change = some () from rfl, k_b1S, k_b1S, e2]
    rcases f_reqI (n := n) (by omega) v1 with ⟨q1, i, hi, ei⟩ | ⟨q1, no⟩
    · rw [q1, k_b1S, if_pos rfl]
      rcases f_reqI (n := 4) (by decide) v2 with ⟨q2, col, hc, ec⟩ | ⟨q2, no⟩
      · rw [show f_X8_requireIndex v2 4 = some 0 from q2, k_b1S, if_pos rfl, k_b1S, ei, ec, f_joinColumn (by decide) h2 hi hc, k_b1S, k_b2S, if_pos rfl, if_pos (by decide)]
        rcases hr with ⟨t1, t2⟩ | ⟨t1, i', col', c, hi', ei', hc', ec', hcc, hh, hres⟩
        · exact absurd ⟨⟨i, hi, ei⟩, ⟨col, hc, ec⟩⟩ t2
        · refine ⟨_, rfl, t1, fun _ => ?_⟩
          have a1 : i' = i := (nI_eq (by omega) (by omega)).mp (ei'.symm.trans ei)
          have a2 : col' = col := (nI_eq (by omega) (by omega)).mp (ec'.symm.trans ec)
          have a3 : fb_ct (NZ (fun c => JF flt cur c - JF flt old c)) c = i := by
            have b1 : nI i' = nI (fb_ct (NZ (fun c => JF flt cur c - JF flt old c)) c) := hh.2
            have b2 := fb_ct_le (NZ (fun c => JF flt cur c - JF flt old c)) c
            rw [nI_eq (by omega) (by omega)] at b1; omega
          have a4 : kk i = c := fb_ct_kth_one (p := NZ (fun c => JF flt cur c - JF flt old c)) (decide_eq_true (h2.2.1 i hi).2.2.1) (decide_eq_true hh.1) (by rw [h2.rank hi, a3])
          show (colv (fun c => JF flt cur c - JF flt old c) col (kk i)).toInt64 = res.toInt64
          rw [hres, a2, a4]
      · rw [show f_X8_requireIndex v2 4 = some 3 from q2, k_b1S, if_neg (by decide), k_b2S, if_neg (by decide), if_pos rfl]
        rcases hr with ⟨t1, t2⟩ | ⟨t1, i', col', c, hi', ei', hc', ec', _⟩
        · exact ⟨_, rfl, t1, fun q => absurd (show (1 : Int32) = 0 from q) (by decide)⟩
        · exact absurd ⟨col', hc', ec'⟩ no
    · rw [q1, k_b1S, if_neg (by decide), k_b2S, if_neg (by decide), if_pos rfl]
      rcases hr with ⟨t1, t2⟩ | ⟨t1, i', col', c, hi', ei', hc', ec', _⟩
      · exact ⟨_, rfl, t1, fun q => absurd (show (1 : Int32) = 0 from q) (by decide)⟩
      · exact absurd ⟨i', hi', ei'⟩ no
  obtain ⟨c9, k1, k2, k3⟩ := key
  exact ⟨c9, _, k1, h1, k2, k3, cur, plan, old, sav, hs, flt, sfl, wat, swa, tn, ch, dep, nx, tx, fa, sv, ha, c1, c2, c3, c4, c5, c6, m1, m2, m3, m4, ⟨m5.1, m5.2.1, m5.2.2.1, m5.2.2.2.1, hcl⟩⟩
