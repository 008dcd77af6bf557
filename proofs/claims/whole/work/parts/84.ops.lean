theorem f_copy5 {fu : Nat} (hfu : 100000 ≤ fu) {t : T2} {ls lt rs rt : Int32} {lc ln rc rn : Nat → Int32} (h : C2 t ls lt lc ln rs rt rc rn) (a1 a2 : Int32) (a3 a4 : Nat → Int32) (b1 b2 : Int32) (b3 b4 : Nat → Int32) : ∃ s1 t1 k1 d1 s2 t2 k2 d2, f_X5_copyFrom fu 60 60 60 60 60 60 60 60 ls lc ln rs rc rn a1 a2 a3 a4 b1 b2 b3 b4 = some (s1, t1, k1, d1, s2, t2, k2, d2) ∧ C2 t s1 t1 k1 d1 s2 t2 k2 d2 := by
  obtain ⟨s1, t1, k1, d1, e1, h1⟩ := f_copy (fu := fu) (lim2 := 60) (size := a1) (total := a2) (codes := a3) (counts := a4) hfu (by decide) (by decide) h.1
  obtain ⟨s2, t2, k2, d2, e2, h2⟩ := f_copy (fu := fu) (lim2 := 60) (size := b1) (total := b2) (codes := b3) (counts := b4) hfu (by decide) (by decide) h.2
  refine ⟨s1, t1, k1, d1, s2, t2, k2, d2, ?_, h1, h2⟩
  unfold f_X5_copyFrom
  rw [e1, k_b4S, e2, k_b4S]
theorem WE_push {w : W3} {s : Int32} {gs bs : Nat → Int32} (h : WE w s gs bs) (g : Nat) (v : Int32) : WE (w.1 + 1, (fun i => if i = w.1 then g else w.2.1 i), fun i => if i = w.1 then v else w.2.2 i) (nI (w.1 + 1)) (upd gs w.1 (nI g)) (upd bs w.1 v) := by
  refine ⟨rfl, fun i hi => ?_⟩
  have hi' : i < w.1 + 1 := hi
  show upd gs w.1 (nI g) i = nI (if i = w.1 then g else w.2.1 i) ∧ upd bs w.1 v i = if i = w.1 then v else w.2.2 i
  rw [q_upd, q_upd]
  by_cases e : i = w.1
  · simp only [if_pos e, and_self]
  · simp only [if_neg e]; exact h.2 i (by omega)

theorem P_discard {fu : Nat} (hfu : 100000 ≤ fu) {I : Nat → Int32} {F : Nat → Nat → Int32} (hI : Inv I F) : ∃ (c9 : Int32 × Int32 × Int32 × Int32 × (Nat → Int32) × (Nat → Int32) × Int32 × Int32 × (Nat → Int32) × (Nat → Int32)) (u9 : Int32 × Int32 × Int32 × (Nat → Int32) × (Nat → Int32)), f_X8_discard fu 60 60 60 60 60 60 60 60 (I 3) (F 0) (F 1) (I 5) (F 2) (F 3) (I 0) (I 7) (I 8) (F 4) (F 5) (I 9) (I 10) (F 6) (F 7) = some c9 ∧ f_X9_discard fu 960 16 (I 50) (I 51) (F 53) (F 54) = some u9 ∧ c9.1 = u9.1 ∧ Inv (gI [c9.2.1, I 1, I 2, I 3, I 4, I 5, I 6, c9.2.2.1, c9.2.2.2.1, c9.2.2.2.2.2.2.1, c9.2.2.2.2.2.2.2.1, I 11, I 12, I 13, I 14, I 15, I 16, I 17, I 18, I 19, I 20, I 21, I 22, I 23, I 24, I 25, I 26, I 27, I 28, I 29, I 30, I 31, I 32, I 33, I 34, I 35, I 36, I 37, I 38, I 39, I 40, I 41, I 42, I 43, I 44, I 45, I 46, I 47, I 48, I 49, u9.2.1, u9.2.2.1, I 52, I 53, I 54, I 55, I 56, I 57, I 58, I 59, I 60, I 61, I 62, I 63, I 64, I 65, I 66, I 67, I 68, I 69, I 70]) (gF [F 0, F 1, F 2, F 3, c9.2.2.2.2.1, c9.2.2.2.2.2.1, c9.2.2.2.2.2.2.2.2.1, c9.2.2.2.2.2.2.2.2.2, F 8, F 9, F 10, F 11, F 12, F 13, F 14, F 15, F 16, F 17, F 18, F 19, F 20, F 21, F 22, F 23, F 24, F 25, F 26, F 27, F 28, F 29, F 30, F 31, F 32, F 33, F 34, F 35, F 36, F 37, F 38, F 39, F 40, F 41, F 42, F 43, F 44, F 45, F 46, F 47, F 48, F 49, F 50, F 51, F 52, u9.2.2.2.1, u9.2.2.2.2, F 55, F 56, F 57, F 58, F 59, F 60, F 61, F 62, F 63, F 64, F 65, F 66, F 67]) := by
  obtain ⟨cur, plan, old, sav, hs, flt, sfl, wat, swa, tn, ch, dep, nx, tx, fa, sv, ha, c1, c2, c3, c4, c5, c6, m1, m2, m3, m4, m5⟩ := hI
  obtain ⟨s1, t1, k1, d1, s2, t2, k2, d2, e1, hC⟩ := f_copy5 hfu c1.1 (I 7) (I 8) (F 4) (F 5) (I 9) (I 10) (F 6) (F 7)
  obtain ⟨rows', size', e2, hP⟩ := f_copies (rows := F 53) (size := F 54) (a := 0) (b := 2) hfu (by decide) (by decide) (by decide)
  have h1 : f_X8_discard fu 60 60 60 60 60 60 60 60 (I 3) (F 0) (F 1) (I 5) (F 2) (F 3) (I 0) (I 7) (I 8) (F 4) (F 5) (I 9) (I 10) (F 6) (F 7) = some (I 0, 0, s1, t1, k1, d1, s2, t2, k2, d2) := by
    unfold f_X8_discard f_X8_emptyBatch
    rw [e1, k_b8S, k_b9S]
  have h2 : f_X9_discard fu 960 16 (I 50) (I 51) (F 53) (F 54) = some (I 51, 0, 0, rows', size') := by
    unfold f_X9_discard f_X9_empties
    have e2' : f_X9_copies fu 960 16 0 2 (F 53) (F 54) = some (rows', size') := e2
    rw [e2', k_b2S, k_b3S]
  exact ⟨_, _, h1, h2, c6.1.trans m5.1.symm, cur, cur, old, sav, hs, flt, sfl, wat, swa, tn, 0, dep, nx, tx, fa, sv, ⟨ha.1, ha.2.1, ha.2.2.1, ha.2.2.2.1, ha.2.2.2.2.1, ha.2.2.2.2.2.1, Nat.zero_le _, ha.2.2.2.2.2.2.2⟩, ⟨c1.1, hC, c1.2.2⟩, c2, c3, c4, c5, ⟨rfl, c6.2⟩, ⟨R2.other m1.1 hP (by decide), R2.copied m1.1 hP, R2.other m1.2.2.1 hP (by decide), R2.other m1.2.2.2.1 hP (by decide), fun k hk => R2.other (m1.2.2.2.2 k hk) hP (by omega)⟩, m2, m3, m4, ⟨rfl, m5.2⟩⟩

theorem P_clearWatches {fu : Nat} (hfu : 100000 ≤ fu) {I : Nat → Int32} {F : Nat → Nat → Int32} (hI : Inv I F) : ∃ (c9 : Int32 × Int32) (u9 : Int32 × Int32 × Int32), f_X8_clearWatches (I 35) = some c9 ∧ f_X9_clearWatches (I 50) (I 64) = some u9 ∧ c9.1 = u9.1 ∧ Inv (gI [I 0, I 1, I 2, I 3, I 4, I 5, I 6, I 7, I 8, I 9, I 10, I 11, I 12, I 13, I 14, I 15, I 16, I 17, I 18, I 19, I 20, I 21, I 22, I 23, I 24, I 25, I 26, I 27, I 28, I 29, I 30, I 31, I 32, I 33, I 34, c9.2, I 36, I 37, I 38, I 39, I 40, I 41, I 42, I 43, I 44, I 45, I 46, I 47, I 48, I 49, u9.2.1, I 51, I 52, I 53, I 54, I 55, I 56, I 57, I 58, I 59, I 60, I 61, I 62, I 63, u9.2.2, I 65, I 66, I 67, I 68, I 69, I 70]) F := by
  obtain ⟨cur, plan, old, sav, hs, flt, sfl, wat, swa, tn, ch, dep, nx, tx, fa, sv, ha, c1, c2, c3, c4, c5, c6, m1, m2, m3, m4, m5⟩ := hI
  exact ⟨_, _, rfl, rfl, c3.1.1.trans m3.1.1.symm, cur, plan, old, sav, hs, flt, sfl, (0, wat.2), swa, tn, ch, dep, nx, tx, fa, sv, ⟨ha.1, ha.2.1, ⟨Nat.zero_le _, fun i hi => absurd hi (Nat.not_lt_zero i)⟩, ha.2.2.2⟩, c1, c2, ⟨⟨rfl, fun i hi => absurd hi (Nat.not_lt_zero i)⟩, c3.2⟩, c4, c5, c6, m1, m2, ⟨⟨rfl, fun i hi => absurd hi (Nat.not_lt_zero i)⟩, m3.2⟩, m4, m5⟩

theorem P_watch {fu : Nat} (hfu : 100000 ≤ fu) {I : Nat → Int32} {F : Nat → Nat → Int32} (hI : Inv I F) (out : Nat → Int64) (v1 : Int32) (v2 : Int32) : ∃ (c9 : Int32 × Int32 × (Nat → Int32) × (Nat → Int32) × (Nat → Int64)) (u9 : Int32 × Int32 × Int32 × (Nat → Int32) × (Nat → Int32)), f_L_watch 6 6 1 v1 v2 (I 35) (F 30) (F 31) out = some c9 ∧ f_X9_watch 6 6 v1 v2 (I 50) (I 64) (F 63) (F 64) = some u9 ∧ u9.2.1 = c9.1 ∧ (c9.1 = 0 → c9.2.2.2.2 0 = u9.1.toInt64) ∧ Inv (gI [I 0, I 1, I 2, I 3, I 4, I 5, I 6, I 7, I 8, I 9, I 10, I 11, I 12, I 13, I 14, I 15, I 16, I 17, I 18, I 19, I 20, I 21, I 22, I 23, I 24, I 25, I 26, I 27, I 28, I 29, I 30, I 31, I 32, I 33, I 34, c9.2.1, I 36, I 37, I 38, I 39, I 40, I 41, I 42, I 43, I 44, I 45, I 46, I 47, I 48, I 49, u9.2.1, I 51, I 52, I 53, I 54, I 55, I 56, I 57, I 58, I 59, I 60, I 61, I 62, I 63, u9.2.2.1, I 65, I 66, I 67, I 68, I 69, I 70]) (gF [F 0, F 1, F 2, F 3, F 4, F 5, F 6, F 7, F 8, F 9, F 10, F 11, F 12, F 13, F 14, F 15, F 16, F 17, F 18, F 19, F 20, F 21, F 22, F 23, F 24, F 25, F 26, F 27, F 28, F 29, c9.2.2.1, c9.2.2.2.1, F 32, F 33, F 34, F 35, F 36, F 37, F 38, F 39, F 40, F 41, F 42, F 43, F 44, F 45, F 46, F 47, F 48, F 49, F 50, F 51, F 52, F 53, F 54, F 55, F 56, F 57, F 58, F 59, F 60, F 61, F 62, u9.2.2.2.1, u9.2.2.2.2, F 65, F 66, F 67]) := by
  obtain ⟨cur, plan, old, sav, hs, flt, sfl, wat, swa, tn, ch, dep, nx, tx, fa, sv, ha, c1, c2, c3, c4, c5, c6, m1, m2, m3, m4, m5⟩ := hI
  have hw := ha.2.2.1
  have hw1 := hw.1
  have e35 : I 35 = nI wat.1 := c3.1.1
  have e64 : I 64 = nI wat.1 := m3.1.1
  rcases f_reqI (n := 6) (by decide) v1 with ⟨q1, g, hg, eg⟩ | ⟨q1, no⟩
  · have q1' : f_X8_requireIndex v1 6 = some 0 := q1
    have b1 : bw v1 0 5 = true := (bw_ix (n := 5) (by decide) v1).elim (fun z => z.1) (fun z => absurd ⟨g, hg, eg⟩ z.2)
    by_cases h6 : wat.1 = 6
    · have h1 : f_L_watch 6 6 1 v1 v2 (I 35) (F 30) (F 31) out = some (2, I 35, F 30, F 31, out) := by
        unfold f_L_watch f_X8_watch f_X7_size
        rw [q1', k_b1S, if_pos rfl, k_b1S, if_neg (show ¬ I 35 < 6 by rw [e35, h6]; decide), k_b5S, if_neg (by decide), if_neg (by decide), if_pos rfl]
      have h2 : f_X9_watch 6 6 v1 v2 (I 50) (I 64) (F 63) (F 64) = some (0, 2, I 64, F 63, F 64) := by
        unfold f_X9_watch f_X9_fails
        rw [f_between, b1, k_b1S, if_neg (by decide), if_pos (show I 64 = 6 by rw [e64, h6]; rfl), k_b2S]
      exact ⟨_, _, h1, h2, rfl, fun q => absurd (show (2 : Int32) = 0 from q) (by decide), cur, plan, old, sav, hs, flt, sfl, wat, swa, tn, ch, dep, nx, tx, fa, sv, ha, c1, c2, c3, c4, c5, c6, m1, m2, m3, m4, m5⟩
    · have hl : wat.1 < 6 := by omega
      have g1 : ¬ nI 6 ≤ nI wat.1 := by rw [q_le (by omega) (by omega)]; omega
      have h1 : f_L_watch 6 6 1 v1 v2 (I 35) (F 30) (F 31) out = some (0, nI (wat.1 + 1), upd (F 30) wat.1 v1, upd (F 31) wat.1 v2, vp_updL out (0 : Int32).toNatClampNeg (nI wat.1).toInt64) := by
        unfold f_L_watch f_X8_watch f_X7_size f_X7_append
        rw [q1', k_b1S, if_pos rfl, k_b1S, e35, if_pos (show nI wat.1 < 6 from nI_lt (b := 6) hl (by decide)), if_neg (nI_pos (by omega)), if_neg g1, if_neg g1, if_pos (nI_in (N := 6) hl (by decide)), if_pos (nI_in (N := 6) hl (by decide)), k_b3S, k_b1S, q_cl (by omega), k_b5S, if_pos rfl, if_pos (by decide), q_1, q_add, q_sub (by omega), Nat.add_sub_cancel]
      have h2 : f_X9_watch 6 6 v1 v2 (I 50) (I 64) (F 63) (F 64) = some (nI wat.1, 0, nI (wat.1 + 1), upd (F 63) wat.1 v1, upd (F 64) wat.1 v2) := by
        unfold f_X9_watch
        rw [f_between, b1, k_b1S, if_neg (by decide), e64, if_neg (show ¬ nI wat.1 = 6 by rw [show (6 : Int32) = nI 6 from rfl, q_eq (by omega) (by omega)]; exact h6), if_pos (nI_in (N := 6) hl (by decide)), if_pos (nI_in (N := 6) hl (by decide)), q_cl (by omega), q_1, q_add, q_sub (by omega), Nat.add_sub_cancel]
      have w1 := WE_push c3.1 g v2
      have w2 := WE_push m3.1 g v2
      rw [← eg] at w1 w2
      exact ⟨_, _, h1, h2, rfl, fun _ => rfl, cur, plan, old, sav, hs, flt, sfl, (wat.1 + 1, (fun i => if i = wat.1 then g else wat.2.1 i), fun i => if i = wat.1 then v2 else wat.2.2 i), swa, tn, ch, dep, nx, tx, fa, sv, ⟨ha.1, ha.2.1, ⟨hl, fun i hi => by
        have hi' : i < wat.1 + 1 := hi
        show (if i = wat.1 then g else wat.2.1 i) < 6
        by_cases e : i = wat.1
        · rw [if_pos e]; exact hg
        · rw [if_neg e]; exact hw.2 i (by omega)⟩, ha.2.2.2⟩, c1, c2, ⟨w1, c3.2⟩, c4, c5, c6, m1, m2, ⟨w2, m3.2⟩, m4, m5⟩
  · have q1' : f_X8_requireIndex v1 6 = some 3 := q1
    have b1 : bw v1 0 5 = false := (bw_ix (n := 5) (by decide) v1).elim (fun z => absurd z.2 no) (fun z => z.1)
    have h1 : f_L_watch 6 6 1 v1 v2 (I 35) (F 30) (F 31) out = some (1, I 35, F 30, F 31, out) := by
      unfold f_L_watch f_X8_watch
      rw [q1', k_b1S, if_neg (by decide), k_b5S, if_neg (by decide), if_pos rfl]
    have h2 : f_X9_watch 6 6 v1 v2 (I 50) (I 64) (F 63) (F 64) = some (0, 1, I 64, F 63, F 64) := by
      unfold f_X9_watch f_X9_fails
      rw [f_between, b1, k_b1S, if_pos (by decide), k_b2S]
    exact ⟨_, _, h1, h2, rfl, fun q => absurd (show (1 : Int32) = 0 from q) (by decide), cur, plan, old, sav, hs, flt, sfl, wat, swa, tn, ch, dep, nx, tx, fa, sv, ha, c1, c2, c3, c4, c5, c6, m1, m2, m3, m4, m5⟩
