theorem f_sizeOf {g : Nat} (hg : g < 6) {m : Nat → Int} {sizes sums : Nat → Int32} (h : TT m sizes sums) : f_X3_sizeOf 6 sizes (nI g) = some (zI (GS m g)) := by
  unfold f_X3_sizeOf
  rw [if_neg (nI_pos (by omega)), if_neg (show ¬ nI 6 ≤ nI g by rw [q_le (by omega) (by omega)]; omega), if_pos (nI_in (N := 6) hg (by decide)), q_cl (by omega), k_letS, (h g hg).1]
theorem f_sumOf {g : Nat} (hg : g < 6) {m : Nat → Int} {sizes sums : Nat → Int32} (h : TT m sizes sums) : f_X3_sumOf 6 sums (nI g) = some (zI (GT m g)) := by
  unfold f_X3_sumOf
  rw [if_neg (nI_pos (by omega)), if_neg (show ¬ nI 6 ≤ nI g by rw [q_le (by omega) (by omega)]; omega), if_pos (nI_in (N := 6) hg (by decide)), q_cl (by omega), k_letS, (h g hg).2]
def RCH (m : Nat → Int) (g : Nat) (v : Int32) : Int32 := if zI (GS m g) ≤ 0 then 0 else if zI (GT m g) < v then 0 else 1
theorem f_reach {g : Nat} (hg : g < 6) {m : Nat → Int} {sizes sums : Nat → Int32} (h : TT m sizes sums) (v : Int32) : f_X3_reaches 6 6 sizes sums (nI g) v = some (RCH m g v) := by
  unfold f_X3_reaches RCH
  rw [f_sizeOf hg h, k_b1S, f_sumOf hg h, k_b1S, if_pos nar0, if_pos nar1]
  by_cases a : zI (GS m g) ≤ 0
  · rw [if_pos a, if_pos a]
  · rw [if_neg a, if_neg a]
    by_cases b : zI (GT m g) < v
    · rw [if_pos b, if_pos b]
    · rw [if_neg b, if_neg b]
theorem RCH_01 (m : Nat → Int) (g : Nat) (v : Int32) : RCH m g v = 0 ∨ RCH m g v = 1 := by
  unfold RCH
  by_cases a : zI (GS m g) ≤ 0
  · exact Or.inl (if_pos a)
  · rw [if_neg a]
    by_cases b : zI (GT m g) < v
    · exact Or.inl (if_pos b)
    · exact Or.inr (if_neg b)
theorem f_isUp7 {w : W3} {s : Int32} {gs bs : Nat → Int32} {m : Nat → Int} {sizes sums : Nat → Int32} (hw : WW w) (h : WE w s gs bs) (ht : TT m sizes sums) {i : Nat} (hi : i < w.1) : f_X7_isUp 6 6 6 6 s gs bs sizes sums (nI i) = some (RCH m (w.2.1 i) (w.2.2 i)) := by
  have h6 := hw.1
  have g1 : ¬ nI 6 ≤ nI i := by rw [q_le (by omega) (by omega)]; omega
  unfold f_X7_isUp f_X7_isFilled
  rw [h.1, if_neg (nI_pos (by omega)), if_neg (show ¬ nI w.1 ≤ nI i by rw [q_le (by omega) (by omega)]; omega), if_neg g1, if_neg g1, if_pos nar1, k_b1S, if_neg (by decide), if_pos (nI_in (c := i) (N := 6) (by omega) (by decide)), k_letS, if_pos (nI_in (c := i) (N := 6) (by omega) (by decide)), k_letS, q_cl (by omega), (h.2 i hi).1, (h.2 i hi).2, f_reach (hw.2 i hi) ht, k_b1S, if_pos nar0]
  rcases RCH_01 m (w.2.1 i) (w.2.2 i) with e | e
  · rw [e, if_pos rfl]
  · rw [e, if_neg (by decide)]
theorem f_isUp9 {fu t : Nat} {mL mR : Nat → Int} {rows size filter : Nat → Int32} {fsize : Int32} {mt : Nat → Nat → Bool} {w : W3} {s : Int32} {gs bs : Nat → Int32} (hfu : 100000 ≤ fu) (ht : t + 1 < 16) (h2 : R2 t mL mR rows size) (hM : HM9 fu mt fsize filter) (hw : WW w) (h : WE w s gs bs) {i : Nat} (hi : i < w.1) {ic : Int32} {cs : Nat → Int32} (hcl : CL ic cs) (gr gt : Int32) (stack : Nat → Int32) :
    ∃ ic' gr' gt' st' cs', f_X9_isUp fu 960 16 40 40 1783 6 6 fsize rows size filter gs bs (nI t) (nI i) ic gr gt stack cs = some (RCH (JJ mt mL mR) (w.2.1 i) (w.2.2 i), ic', gr', gt', st', cs') ∧ CL ic' cs' := by
  have h6 := hw.1
  obtain ⟨ic', st', cs', f1, cl, _⟩ := f_findGroup hfu ht h2 hM (hw.2 i hi) hcl gr gt stack
  refine ⟨ic', zI (GS (JJ mt mL mR) (w.2.1 i)), zI (GT (JJ mt mL mR) (w.2.1 i)), st', cs', ?_, cl⟩
  unfold f_X9_isUp RCH
  rw [if_pos (nI_in (c := i) (N := 6) (by omega) (by decide)), k_letS, show (nI i).toNatClampNeg = i from q_cl (by omega), (h.2 i hi).1, f1, k_b5S, if_pos (show ¬ (nI i < 0 ∨ 6 ≤ i) from fun z => z.elim (nI_pos (by omega)) (by omega)), k_letS, (h.2 i hi).2, if_pos nar0, if_pos nar1]
  by_cases a : zI (GS (JJ mt mL mR) (w.2.1 i)) ≤ 0
  · rw [if_pos a, if_pos a]
  · rw [if_neg a, if_neg a]
    by_cases b : zI (GT (JJ mt mL mR) (w.2.1 i)) < w.2.2 i
    · rw [if_pos b, if_pos b]
    · rw [if_neg b, if_neg b]
theorem bw_ix1 {n : Nat} (hn : n < 1000000) (x : Int32) : (bw x 0 (nI n - 1) = true ∧ ∃ i, i < n ∧ x = nI i) ∨ (bw x 0 (nI n - 1) = false ∧ ¬ ∃ i, i < n ∧ x = nI i) := by
  by_cases h0 : n = 0
  · refine Or.inr ⟨decide_eq_false (fun z => ?_), fun ⟨i, hi, _⟩ => by omega⟩
    have a := (fa_le _ _).mp z.1
    have b := (fa_le _ _).mp z.2
    rw [h0] at b
    have e1 : (nI 0 - 1 : Int32).toInt = -1 := by decide
    have e2 : (0 : Int32).toInt = 0 := by decide
    omega
  · have h := bw_ix (n := n - 1) (by omega) x
    rw [show n - 1 + 1 = n by omega] at h
    rw [q_1, q_sub (by omega)]
    exact h

theorem P_groupSize {fu : Nat} (hfu : 100000 ≤ fu) {I : Nat → Int32} {F : Nat → Nat → Int32} (hI : Inv I F) (out : Nat → Int64) (v1 : Int32) : ∃ (c9 : Int32 × (Nat → Int64)) (u9 : Int32 × Int32 × Int32 × Int32 × Int32 × (Nat → Int32) × (Nat → Int32)), f_L_groupSize 6 1 (F 36) v1 out = some c9 ∧ f_X9_groupSize fu 960 16 40 40 1783 (I 53) (F 53) (F 54) (F 55) v1 (I 50) (I 61) (I 62) (I 63) (F 59) (F 60) = some u9 ∧ u9.2.1 = c9.1 ∧ (c9.1 = 0 → c9.2 0 = u9.1.toInt64) ∧ Inv (gI [I 0, I 1, I 2, I 3, I 4, I 5, I 6, I 7, I 8, I 9, I 10, I 11, I 12, I 13, I 14, I 15, I 16, I 17, I 18, I 19, I 20, I 21, I 22, I 23, I 24, I 25, I 26, I 27, I 28, I 29, I 30, I 31, I 32, I 33, I 34, I 35, I 36, I 37, I 38, I 39, I 40, I 41, I 42, I 43, I 44, I 45, I 46, I 47, I 48, I 49, u9.2.1, I 51, I 52, I 53, I 54, I 55, I 56, I 57, I 58, I 59, I 60, u9.2.2.1, u9.2.2.2.1, u9.2.2.2.2.1, I 64, I 65, I 66, I 67, I 68, I 69, I 70]) (gF [F 0, F 1, F 2, F 3, F 4, F 5, F 6, F 7, F 8, F 9, F 10, F 11, F 12, F 13, F 14, F 15, F 16, F 17, F 18, F 19, F 20, F 21, F 22, F 23, F 24, F 25, F 26, F 27, F 28, F 29, F 30, F 31, F 32, F 33, F 34, F 35, F 36, F 37, F 38, F 39, F 40, F 41, F 42, F 43, F 44, F 45, F 46, F 47, F 48, F 49, F 50, F 51, F 52, F 53, F 54, F 55, F 56, F 57, F 58, u9.2.2.2.2.2.1, u9.2.2.2.2.2.2, F 61, F 62, F 63, F 64, F 65, F 66, F 67]) := by
  obtain ⟨cur, plan, old, sav, hs, flt, sfl, wat, swa, tn, ch, dep, nx, tx, fa, sv, ha, c1, c2, c3, c4, c5, c6, m1, m2, m3, m4, m5⟩ := hI
  rcases f_finds hfu m1.1 (HM9.of hfu ha.1 m2.1) v1 (I 50) m5.2.2.2.2 (I 62) (I 63) (F 59) with ⟨g, ic', st', cs', hg, ev, f1, cl, _⟩ | ⟨no, f1⟩
  · have h1 : f_L_groupSize 6 1 (F 36) v1 out = some (0, vp_updL out (0 : Int32).toNatClampNeg (zI (GS (JF flt cur) g)).toInt64) := by
      unfold f_L_groupSize f_X8_groupSize
      rcases f_reqI (n := 6) (by decide) v1 with ⟨q1, _⟩ | ⟨q1, no⟩
      · have q1' : f_X8_requireIndex v1 6 = some 0 := q1
        rw [q1', k_b1S, if_pos rfl, show f_X6_totals = some () from rfl, k_b1S, ev, f_sizeOf hg c5.2.1, k_b1S, k_b2S, if_pos rfl, if_pos (by decide)]
      · exact absurd ⟨g, hg, ev⟩ no
    have h2 : f_X9_groupSize fu 960 16 40 40 1783 (I 53) (F 53) (F 54) (F 55) v1 (I 50) (I 61) (I 62) (I 63) (F 59) (F 60) = some (zI (GS (JF flt cur) g), 0, ic', zI (GS (JF flt cur) g), zI (GT (JF flt cur) g), st', cs') := by
      unfold f_X9_groupSize
      have f1' : f_X9_finds fu 960 16 40 40 1783 (I 53) (F 53) (F 54) (F 55) v1 (I 50) (I 61) (I 62) (I 63) (F 59) (F 60) = some (1, 0, ic', zI (GS (JF flt cur) g), zI (GT (JF flt cur) g), st', cs') := f1
      rw [f1', k_b7S, if_neg (by decide)]
    exact ⟨_, _, h1, h2, rfl, fun _ => rfl, cur, plan, old, sav, hs, flt, sfl, wat, swa, tn, ch, dep, nx, tx, fa, sv, ha, c1, c2, c3, c4, c5, c6, m1, m2, m3, m4, ⟨m5.1, m5.2.1, m5.2.2.1, m5.2.2.2.1, cl⟩⟩
  · have h1 : f_L_groupSize 6 1 (F 36) v1 out = some (1, out) := by
      unfold f_L_groupSize f_X8_groupSize
      rcases f_reqI (n := 6) (by decide) v1 with ⟨q1, g, hg, ev⟩ | ⟨q1, _⟩
      · exact absurd ⟨g, hg, ev⟩ no
      · have q1' : f_X8_requireIndex v1 6 = some 3 := q1
        rw [q1', k_b1S, if_neg (by decide), k_b2S, if_neg (by decide), if_pos rfl]
    have h2 : f_X9_groupSize fu 960 16 40 40 1783 (I 53) (F 53) (F 54) (F 55) v1 (I 50) (I 61) (I 62) (I 63) (F 59) (F 60) = some (0, 1, I 61, I 62, I 63, F 59, F 60) := by
      unfold f_X9_groupSize
      rw [f1, k_b7S, if_pos rfl]
    exact ⟨_, _, h1, h2, rfl, fun q => absurd (show (1 : Int32) = 0 from q) (by decide), cur, plan, old, sav, hs, flt, sfl, wat, swa, tn, ch, dep, nx, tx, fa, sv, ha, c1, c2, c3, c4, c5, c6, m1, m2, m3, m4, m5⟩

theorem P_groupSum {fu : Nat} (hfu : 100000 ≤ fu) {I : Nat → Int32} {F : Nat → Nat → Int32} (hI : Inv I F) (out : Nat → Int64) (v1 : Int32) : ∃ (c9 : Int32 × (Nat → Int64)) (u9 : Int32 × Int32 × Int32 × Int32 × Int32 × (Nat → Int32) × (Nat → Int32)), f_L_groupSum 6 1 (F 37) v1 out = some c9 ∧ f_X9_groupSum fu 960 16 40 40 1783 (I 53) (F 53) (F 54) (F 55) v1 (I 50) (I 61) (I 62) (I 63) (F 59) (F 60) = some u9 ∧ u9.2.1 = c9.1 ∧ (c9.1 = 0 → c9.2 0 = u9.1.toInt64) ∧ Inv (gI [I 0, I 1, I 2, I 3, I 4, I 5, I 6, I 7, I 8, I 9, I 10, I 11, I 12, I 13, I 14, I 15, I 16, I 17, I 18, I 19, I 20, I 21, I 22, I 23, I 24, I 25, I 26, I 27, I 28, I 29, I 30, I 31, I 32, I 33, I 34, I 35, I 36, I 37, I 38, I 39, I 40, I 41, I 42, I 43, I 44, I 45, I 46, I 47, I 48, I 49, u9.2.1, I 51, I 52, I 53, I 54, I 55, I 56, I 57, I 58, I 59, I 60, u9.2.2.1, u9.2.2.2.1, u9.2.2.2.2.1, I 64, I 65, I 66, I 67, I 68, I 69, I 70]) (gF [F 0, F 1, F 2, F 3, F 4, F 5, F 6, F 7, F 8, F 9, F 10, F 11, F 12, F 13, F 14, F 15, F 16, F 17, F 18, F 19, F 20, F 21, F 22, F 23, F 24, F 25, F 26, F 27, F 28, F 29, F 30, F 31, F 32, F 33, F 34, F 35, F 36, F 37, F 38, F 39, F 40, F 41, F 42, F 43, F 44, F 45, F 46, F 47, F 48, F 49, F 50, F 51, F 52, F 53, F 54, F 55, F 56, F 57, F 58, u9.2.2.2.2.2.1, u9.2.2.2.2.2.2, F 61, F 62, F 63, F 64, F 65, F 66, F 67]) := by
  obtain ⟨cur, plan, old, sav, hs, flt, sfl, wat, swa, tn, ch, dep, nx, tx, fa, sv, ha, c1, c2, c3, c4, c5, c6, m1, m2, m3, m4, m5⟩ := hI
  rcases f_finds hfu m1.1 (HM9.of hfu ha.1 m2.1) v1 (I 50) m5.2.2.2.2 (I 62) (I 63) (F 59) with ⟨g, ic', st', cs', hg, ev, f1, cl, _⟩ | ⟨no, f1⟩
  · have h1 : f_L_groupSum 6 1 (F 37) v1 out = some (0, vp_updL out (0 : Int32).toNatClampNeg (zI (GT (JF flt cur) g)).toInt64) := by
      unfold f_L_groupSum f_X8_groupSum
      rcases f_reqI (n := 6) (by decide) v1 with ⟨q1, _⟩ | ⟨q1, no⟩
      · have q1' : f_X8_requireIndex v1 6 = some 0 := q1
        rw [q1', k_b1S, if_pos rfl, show f_X6_totals = some () from rfl, k_b1S, ev, f_sumOf hg c5.2.1, k_b1S, k_b2S, if_pos rfl, if_pos (by decide)]
      · exact absurd ⟨g, hg, ev⟩ no
    have h2 : f_X9_groupSum fu 960 16 40 40 1783 (I 53) (F 53) (F 54) (F 55) v1 (I 50) (I 61) (I 62) (I 63) (F 59) (F 60) = some (zI (GT (JF flt cur) g), 0, ic', zI (GS (JF flt cur) g), zI (GT (JF flt cur) g), st', cs') := by
      unfold f_X9_groupSum
      have f1' : f_X9_finds fu 960 16 40 40 1783 (I 53) (F 53) (F 54) (F 55) v1 (I 50) (I 61) (I 62) (I 63) (F 59) (F 60) = some (1, 0, ic', zI (GS (JF flt cur) g), zI (GT (JF flt cur) g), st', cs') := f1
      rw [f1', k_b7S, if_neg (by decide)]
    exact ⟨_, _, h1, h2, rfl, fun _ => rfl, cur, plan, old, sav, hs, flt, sfl, wat, swa, tn, ch, dep, nx, tx, fa, sv, ha, c1, c2, c3, c4, c5, c6, m1, m2, m3, m4, ⟨m5.1, m5.2.1, m5.2.2.1, m5.2.2.2.1, cl⟩⟩
  · have h1 : f_L_groupSum 6 1 (F 37) v1 out = some (1, out) := by
      unfold f_L_groupSum f_X8_groupSum
      rcases f_reqI (n := 6) (by decide) v1 with ⟨q1, g, hg, ev⟩ | ⟨q1, _⟩
      · exact absurd ⟨g, hg, ev⟩ no
      · have q1' : f_X8_requireIndex v1 6 = some 3 := q1
        rw [q1', k_b1S, if_neg (by decide), k_b2S, if_neg (by decide), if_pos rfl]
    have h2 : f_X9_groupSum fu 960 16 40 40 1783 (I 53) (F 53) (F 54) (F 55) v1 (I 50) (I 61) (I 62) (I 63) (F 59) (F 60) = some (0, 1, I 61, I 62, I 63, F 59, F 60) := by
      unfold f_X9_groupSum
      rw [f1, k_b7S, if_pos rfl]
    exact ⟨_, _, h1, h2, rfl, fun q => absurd (show (1 : Int32) = 0 from q) (by decide), cur, plan, old, sav, hs, flt, sfl, wat, swa, tn, ch, dep, nx, tx, fa, sv, ha, c1, c2, c3, c4, c5, c6, m1, m2, m3, m4, m5⟩

theorem P_isRaised {fu : Nat} (hfu : 100000 ≤ fu) {I : Nat → Int32} {F : Nat → Nat → Int32} (hI : Inv I F) (out : Nat → Int64) (v1 : Int32) : ∃ (c9 : Int32 × (Nat → Int64)) (u9 : Int32 × Int32 × Int32 × Int32 × Int32 × (Nat → Int32) × (Nat → Int32)), f_L_isRaised 6 6 6 6 1 (I 35) (F 30) (F 31) (F 36) (F 37) v1 out = some c9 ∧ f_X9_isRaised fu 960 16 40 40 1783 6 6 (I 53) (I 64) (F 53) (F 54) (F 55) (F 63) (F 64) v1 (I 50) (I 61) (I 62) (I 63) (F 59) (F 60) = some u9 ∧ u9.2.1 = c9.1 ∧ (c9.1 = 0 → c9.2 0 = if u9.1 = 0 then 0 else 1) ∧ Inv (gI [I 0, I 1, I 2, I 3, I 4, I 5, I 6, I 7, I 8, I 9, I 10, I 11, I 12, I 13, I 14, I 15, I 16, I 17, I 18, I 19, I 20, I 21, I 22, I 23, I 24, I 25, I 26, I 27, I 28, I 29, I 30, I 31, I 32, I 33, I 34, I 35, I 36, I 37, I 38, I 39, I 40, I 41, I 42, I 43, I 44, I 45, I 46, I 47, I 48, I 49, u9.2.1, I 51, I 52, I 53, I 54, I 55, I 56, I 57, I 58, I 59, I 60, u9.2.2.1, u9.2.2.2.1, u9.2.2.2.2.1, I 64, I 65, I 66, I 67, I 68, I 69, I 70]) (gF [F 0, F 1, F 2, F 3, F 4, F 5, F 6, F 7, F 8, F 9, F 10, F 11, F 12, F 13, F 14, F 15, F 16, F 17, F 18, F 19, F 20, F 21, F 22, F 23, F 24, F 25, F 26, F 27, F 28, F 29, F 30, F 31, F 32, F 33, F 34, F 35, F 36, F 37, F 38, F 39, F 40, F 41, F 42, F 43, F 44, F 45, F 46, F 47, F 48, F 49, F 50, F 51, F 52, F 53, F 54, F 55, F 56, F 57, F 58, u9.2.2.2.2.2.1, u9.2.2.2.2.2.2, F 61, F 62, F 63, F 64, F 65, F 66, F 67]) := by
  obtain ⟨cur, plan, old, sav, hs, flt, sfl, wat, swa, tn, ch, dep, nx, tx, fa, sv, ha, c1, c2, c3, c4, c5, c6, m1, m2, m3, m4, m5⟩ := hI
  have hw := ha.2.2.1
  have hw1 := hw.1
  have e35 : I 35 = nI wat.1 := c3.1.1
  have e64 : I 64 = nI wat.1 := m3.1.1
  rcases bw_ix1 (n := wat.1) (by omega) v1 with ⟨b1, i, hi, ei⟩ | ⟨b1, no⟩
  · obtain ⟨ic', gr', gt', st', cs', f1, cl⟩ := f_isUp9 (t := 0) hfu (by decide) m1.1 (HM9.of hfu ha.1 m2.1) hw m3.1 hi m5.2.2.2.2 (I 62) (I 63) (F 59)
    have f1' : f_X9_isUp fu 960 16 40 40 1783 6 6 (I 53) (F 53) (F 54) (F 55) (F 63) (F 64) 0 (nI i) (I 61) (I 62) (I 63) (F 59) (F 60) = some (RCH (JF flt cur) (wat.2.1 i) (wat.2.2 i), ic', gr', gt', st', cs') := f1
    have k1 := f_isUp7 hw c3.1 c5.2.1 hi
    have q1' : f_X8_requireIndex v1 (nI wat.1) = some 0 := by
      rcases f_reqI (n := wat.1) (by omega) v1 with ⟨q1, _⟩ | ⟨q1, no⟩
      · exact q1
      · exact absurd ⟨i, hi, ei⟩ no
    have h2 : f_X9_isRaised fu 960 16 40 40 1783 6 6 (I 53) (I 64) (F 53) (F 54) (F 55) (F 63) (F 64) v1 (I 50) (I 61) (I 62) (I 63) (F 59) (F 60) = some (RCH (JF flt cur) (wat.2.1 i) (wat.2.2 i), 0, ic', gr', gt', st', cs') := by
      unfold f_X9_isRaised
      rw [e64, f_between, b1, k_b1S, if_neg (by decide), ei, f1', k_b6S]
      rcases RCH_01 (JF flt cur) (wat.2.1 i) (wat.2.2 i) with e | e
      · rw [e, if_pos nar0]
      · rw [e, if_pos nar1]
    rcases RCH_01 (JF flt cur) (wat.2.1 i) (wat.2.2 i) with e | e
    · rw [e] at k1 h2
      have h1 : f_L_isRaised 6 6 6 6 1 (I 35) (F 30) (F 31) (F 36) (F 37) v1 out = some (0, vp_updL out (0 : Int32).toNatClampNeg 0) := by
        unfold f_L_isRaised f_X8_isRaised f_X7_size
        rw [k_b1S, (by rw [e35]; exact q1' : f_X8_requireIndex v1 (I 35) = some 0), k_b1S, if_pos rfl, show f_X6_totals = some () from rfl, k_b1S, ei, k1, k_b1S, if_pos nar0, k_b2S, if_pos rfl, if_pos rfl, if_pos (by decide)]
      exact ⟨_, _, h1, h2, rfl, fun _ => rfl, cur, plan, old, sav, hs, flt, sfl, wat, swa, tn, ch, dep, nx, tx, fa, sv, ha, c1, c2, c3, c4, c5, c6, m1, m2, m3, m4, ⟨m5.1, m5.2.1, m5.2.2.1, m5.2.2.2.1, cl⟩⟩
    · rw [e] at k1 h2
      have h1 : f_L_isRaised 6 6 6 6 1 (I 35) (F 30) (F 31) (F 36) (F 37) v1 out = some (0, vp_updL out (0 : Int32).toNatClampNeg 1) := by
        unfold f_L_isRaised f_X8_isRaised f_X7_size
        rw [k_b1S, (by rw [e35]; exact q1' : f_X8_requireIndex v1 (I 35) = some 0), k_b1S, if_pos rfl, show f_X6_totals = some () from rfl, k_b1S, ei, k1, k_b1S, if_pos nar1, k_b2S, if_pos rfl, if_neg (by decide), if_pos (by decide)]
      exact ⟨_, _, h1, h2, rfl, fun _ => rfl, cur, plan, old, sav, hs, flt, sfl, wat, swa, tn, ch, dep, nx, tx, fa, sv, ha, c1, c2, c3, c4, c5, c6, m1, m2, m3, m4, ⟨m5.1, m5.2.1, m5.2.2.1, m5.2.2.2.1, cl⟩⟩
  · have q1' : f_X8_requireIndex v1 (nI wat.1) = some 3 := by
      rcases f_reqI (n := wat.1) (by omega) v1 with ⟨q1, z⟩ | ⟨q1, _⟩
      · exact absurd z no
      · exact q1
    have h1 : f_L_isRaised 6 6 6 6 1 (I 35) (F 30) (F 31) (F 36) (F 37) v1 out = some (1, out) := by
      unfold f_L_isRaised f_X8_isRaised f_X7_size
      rw [k_b1S, (by rw [e35]; exact q1' : f_X8_requireIndex v1 (I 35) = some 3), k_b1S, if_neg (by decide), k_b2S, if_neg (by decide), if_pos rfl]
    have h2 : f_X9_isRaised fu 960 16 40 40 1783 6 6 (I 53) (I 64) (F 53) (F 54) (F 55) (F 63) (F 64) v1 (I 50) (I 61) (I 62) (I 63) (F 59) (F 60) = some (0, 1, I 61, I 62, I 63, F 59, F 60) := by
      unfold f_X9_isRaised f_X9_refuses
      rw [e64, f_between, b1, k_b1S, if_pos (by decide), if_pos nar0, k_b2S, if_pos nar0]
    exact ⟨_, _, h1, h2, rfl, fun q => absurd (show (1 : Int32) = 0 from q) (by decide), cur, plan, old, sav, hs, flt, sfl, wat, swa, tn, ch, dep, nx, tx, fa, sv, ha, c1, c2, c3, c4, c5, c6, m1, m2, m3, m4, m5⟩
