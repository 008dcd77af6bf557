theorem bw_z {x : Int32} (h : bw x (-891) 891 = true) : ∃ p : Nat, p < 1783 ∧ x = zI ((p : Int) - 891) := by
  have h' := of_decide_eq_true h
  have a := (fa_le _ _).mp h'.1
  have b := (fa_le _ _).mp h'.2
  have e1 : (-891 : Int32).toInt = -891 := by decide
  have e2 : (891 : Int32).toInt = 891 := by decide
  refine ⟨(x.toInt + 891).toNat, by omega, ?_⟩
  rw [show (((x.toInt + 891).toNat : Nat) : Int) - 891 = x.toInt by omega, zI_self]
theorem f_qual {fu : Nat} {mL mR : Nat → Int} {rows size filter sizes sums : Nat → Int32} {fsize v1 thr : Int32} {mt : Nat → Nat → Bool} (hfu : 100000 ≤ fu) (h2 : R2 0 mL mR rows size) (hM : HM9 fu mt fsize filter) (ht : TT (JJ mt mL mR) sizes sums) : ∀ (d G g : Nat) (x ic gr gt : Int32) (st cs : Nat → Int32), d + g = 6 → d < G → CL ic cs →
    ∃ r ic' gr' gt' st' cs', f_X8_qualifiedGroups_4 fu 6 6 sizes sums v1 G x (nI g) = some r ∧ f_X9_qualifiedGroups_9 fu 960 16 40 40 1783 fsize rows size filter v1 G x (nI g) thr ic gr gt st cs = some (r, thr, ic', gr', gt', st', cs') ∧ CL ic' cs' := by
  intro d
  induction d with
  | zero =>
    intro G g x ic gr gt st cs h3 h4 h5
    obtain ⟨G', rfl⟩ : ∃ G', G = G' + 1 := ⟨G - 1, by omega⟩
    have : g = 6 := by omega
    subst this
    refine ⟨x, ic, gr, gt, st, cs, ?_, ?_, h5⟩
    · rw [fs_X8_qualifiedGroups_4, if_pos (show (6 : Int32) ≤ nI 6 by decide)]
    · rw [fs_X9_qualifiedGroups_9, if_pos (show (6 : Int32) ≤ nI 6 by decide)]
  | succ d ih =>
    intro G g x ic gr gt st cs h3 h4 h5
    obtain ⟨G', rfl⟩ : ∃ G', G = G' + 1 := ⟨G - 1, by omega⟩
    have hg : g < 6 := by omega
    have n6 : ¬ (6 : Int32) ≤ nI g := by rw [show (6 : Int32) = nI 6 from rfl, q_le (by omega) (by omega)]; omega
    obtain ⟨ic1, st1, cs1, f1, cl, _⟩ := f_findGroup (t := 0) hfu (by decide) h2 hM hg h5 gr gt st
    have f1' : f_X9_findGroup fu 960 16 40 40 1783 fsize rows size filter 0 (nI g) ic gr gt st cs = some (ic1, zI (GS (JJ mt mL mR) g), zI (GT (JJ mt mL mR) g), st1, cs1) := f1
    rw [fs_X8_qualifiedGroups_4, fs_X9_qualifiedGroups_9, if_neg n6, if_neg n6, show f_X6_totals = some () from rfl, k_b1S, f_reach hg ht, k_b1S, f1', k_b5S]
    unfold RCH f_X8_qualifiedGroups_31 f_X9_qualifiedGroups_42
    by_cases a : zI (GS (JJ mt mL mR) g) ≤ 0
    · simp only [if_pos a, if_true, k_letS]
      have := ih G' (g + 1) x ic1 (zI (GS (JJ mt mL mR) g)) (zI (GT (JJ mt mL mR) g)) st1 cs1 (by omega) (by omega) cl
      rw [q_1, q_add]; exact this
    · by_cases b : zI (GT (JJ mt mL mR) g) < v1
      · simp only [if_neg a, if_pos b, if_true, k_letS]
        have := ih G' (g + 1) x ic1 (zI (GS (JJ mt mL mR) g)) (zI (GT (JJ mt mL mR) g)) st1 cs1 (by omega) (by omega) cl
        rw [q_1, q_add]; exact this
      · simp only [if_neg a, if_neg b, if_neg (show ¬ (1 : Int32) = 0 by decide), k_letS]
        have := ih G' (g + 1) (x ||| (1 <<< (nI g &&& 31))) ic1 (zI (GS (JJ mt mL mR) g)) (zI (GT (JJ mt mL mR) g)) st1 cs1 (by omega) (by omega) cl
        rw [show nI g + 1 = nI (g + 1) from by rw [q_1, q_add]]; exact this
theorem f_chw {fu : Nat} {mL mR oL oR : Nat → Int} {rows size filter sizes sums sizes2 sums2 gc bc gm bm : Nat → Int32} {fsize thr sc sm : Int32} {mt : Nat → Nat → Bool} {w : W3} (hfu : 100000 ≤ fu) (h0 : R2 0 mL mR rows size) (h4 : R2 4 oL oR rows size) (hM : HM9 fu mt fsize filter) (ht : TT (JJ mt mL mR) sizes sums) (ho : TT (JJ mt oL oR) sizes2 sums2) (hw : WW w) (hc : WE w sc gc bc) (hm : WE w sm gm bm) : ∀ (d G i : Nat) (x ic gr gt : Int32) (st cs : Nat → Int32), d + i = w.1 → d < G → CL ic cs →
    ∃ r ic' gr' gt' st' cs', f_X8_changedWatches_4 fu 6 6 6 6 6 6 sc gc bc sizes sums sizes2 sums2 G x (nI i) = some r ∧ f_X9_changedWatches_9 fu 960 16 40 40 1783 6 6 fsize sm rows size filter gm bm G x (nI i) thr ic gr gt st cs = some (r, thr, ic', gr', gt', st', cs') ∧ CL ic' cs' := by
  have h6 := hw.1
  intro d
  induction d with
  | zero =>
    intro G i x ic gr gt st cs h1 h2 h5
    obtain ⟨G', rfl⟩ : ∃ G', G = G' + 1 := ⟨G - 1, by omega⟩
    have le : nI w.1 ≤ nI i := by rw [q_le (by omega) (by omega)]; omega
    refine ⟨x, ic, gr, gt, st, cs, ?_, ?_, h5⟩
    · rw [fs_X8_changedWatches_4]
      unfold f_X7_size
      rw [k_b1S, hc.1, if_pos le]
    · rw [fs_X9_changedWatches_9, hm.1, if_pos le]
  | succ d ih =>
    intro G i x ic gr gt st cs h1 h2 h5
    obtain ⟨G', rfl⟩ : ∃ G', G = G' + 1 := ⟨G - 1, by omega⟩
    have hi : i < w.1 := by omega
    have le : ¬ nI w.1 ≤ nI i := by rw [q_le (by omega) (by omega)]; omega
    obtain ⟨ic1, gr1, gt1, st1, cs1, f1, cl1⟩ := f_isUp9 (t := 0) hfu (by decide) h0 hM hw hm hi h5 gr gt st
    obtain ⟨ic2, gr2, gt2, st2, cs2, f2, cl2⟩ := f_isUp9 (t := 4) hfu (by decide) h4 hM hw hm hi cl1 gr1 gt1 st1
    have f1' : f_X9_isUp fu 960 16 40 40 1783 6 6 fsize rows size filter gm bm 0 (nI i) ic gr gt st cs = some (RCH (JJ mt mL mR) (w.2.1 i) (w.2.2 i), ic1, gr1, gt1, st1, cs1) := f1
    have f2' : f_X9_isUp fu 960 16 40 40 1783 6 6 fsize rows size filter gm bm 4 (nI i) ic1 gr1 gt1 st1 cs1 = some (RCH (JJ mt oL oR) (w.2.1 i) (w.2.2 i), ic2, gr2, gt2, st2, cs2) := f2
    have k1 := f_isUp7 hw hc ht hi
    have k2 := f_isUp7 hw hc ho hi
    have sc1 : sc = nI w.1 := hc.1
    have sm1 : sm = nI w.1 := hm.1
    have n1 : ¬ sc ≤ nI i := by rw [sc1]; exact le
    have n2 : ¬ sm ≤ nI i := by rw [sm1]; exact le
    rw [fs_X8_changedWatches_4, fs_X9_changedWatches_9]
    unfold f_X7_size
    rw [k_b1S, if_neg n1, if_neg n2, show f_X6_totals = some () from rfl, show f_X6_oldTotals = some () from rfl, k_b1S, k1, k_b1S, k_b1S, k2, k_b1S, f1', k_b6S, f2', k_b6S]
    unfold f_X8_changedWatches_60 f_X9_changedWatches_40
    have e1 : nI i + 1 = nI (i + 1) := by rw [q_1, q_add]
    by_cases a : RCH (JJ mt mL mR) (w.2.1 i) (w.2.2 i) = RCH (JJ mt oL oR) (w.2.1 i) (w.2.2 i)
    · simp only [if_pos a, k_letS, Int32.or_zero, e1]
      exact ih G' (i + 1) x ic2 gr2 gt2 st2 cs2 (by omega) (by omega) cl2
    · simp only [if_neg a, k_letS, e1]
      exact ih G' (i + 1) _ ic2 gr2 gt2 st2 cs2 (by omega) (by omega) cl2

theorem P_qualifiedGroups {fu : Nat} (hfu : 100000 ≤ fu) {I : Nat → Int32} {F : Nat → Nat → Int32} (hI : Inv I F) (v1 : Int32) : ∃ (c9 : Int32) (u9 : Int32 × Int32 × Int32 × Int32 × Int32 × (Nat → Int32) × (Nat → Int32)), f_X8_qualifiedGroups fu 6 6 (F 36) (F 37) v1 = some c9 ∧ f_X9_qualifiedGroups fu 960 16 40 40 1783 (I 53) (F 53) (F 54) (F 55) v1 (I 50) (I 61) (I 62) (I 63) (F 59) (F 60) = some u9 ∧ c9 = u9.1 ∧ Inv (gI [I 0, I 1, I 2, I 3, I 4, I 5, I 6, I 7, I 8, I 9, I 10, I 11, I 12, I 13, I 14, I 15, I 16, I 17, I 18, I 19, I 20, I 21, I 22, I 23, I 24, I 25, I 26, I 27, I 28, I 29, I 30, I 31, I 32, I 33, I 34, I 35, I 36, I 37, I 38, I 39, I 40, I 41, I 42, I 43, I 44, I 45, I 46, I 47, I 48, I 49, u9.2.1, I 51, I 52, I 53, I 54, I 55, I 56, I 57, I 58, I 59, I 60, u9.2.2.1, u9.2.2.2.1, u9.2.2.2.2.1, I 64, I 65, I 66, I 67, I 68, I 69, I 70]) (gF [F 0, F 1, F 2, F 3, F 4, F 5, F 6, F 7, F 8, F 9, F 10, F 11, F 12, F 13, F 14, F 15, F 16, F 17, F 18, F 19, F 20, F 21, F 22, F 23, F 24, F 25, F 26, F 27, F 28, F 29, F 30, F 31, F 32, F 33, F 34, F 35, F 36, F 37, F 38, F 39, F 40, F 41, F 42, F 43, F 44, F 45, F 46, F 47, F 48, F 49, F 50, F 51, F 52, F 53, F 54, F 55, F 56, F 57, F 58, u9.2.2.2.2.2.1, u9.2.2.2.2.2.2, F 61, F 62, F 63, F 64, F 65, F 66, F 67]) := by
  obtain ⟨cur, plan, old, sav, hs, flt, sfl, wat, swa, tn, ch, dep, nx, tx, fa, sv, ha, c1, c2, c3, c4, c5, c6, m1, m2, m3, m4, m5⟩ := hI
  obtain ⟨r, ic', gr', gt', st', cs', e1, e2, cl⟩ := f_qual (v1 := v1) (thr := 0) hfu m1.1 (HM9.of hfu ha.1 m2.1) c5.2.1 6 fu 0 0 (I 61) (I 62) (I 63) (F 59) (F 60) (by omega) (by omega) m5.2.2.2.2
  exact ⟨_, _, e1, e2, rfl, cur, plan, old, sav, hs, flt, sfl, wat, swa, tn, ch, dep, nx, tx, fa, sv, ha, c1, c2, c3, c4, c5, c6, m1, m2, m3, m4, ⟨m5.1, m5.2.1, m5.2.2.1, m5.2.2.2.1, cl⟩⟩

theorem P_changedWatches {fu : Nat} (hfu : 100000 ≤ fu) {I : Nat → Int32} {F : Nat → Nat → Int32} (hI : Inv I F) : ∃ (c9 : Int32) (u9 : Int32 × Int32 × Int32 × Int32 × Int32 × (Nat → Int32) × (Nat → Int32)), f_X8_changedWatches fu 6 6 6 6 6 6 (I 35) (F 30) (F 31) (F 36) (F 37) (F 38) (F 39) = some c9 ∧ f_X9_changedWatches fu 960 16 40 40 1783 6 6 (I 53) (I 64) (F 53) (F 54) (F 55) (F 63) (F 64) (I 50) (I 61) (I 62) (I 63) (F 59) (F 60) = some u9 ∧ c9 = u9.1 ∧ Inv (gI [I 0, I 1, I 2, I 3, I 4, I 5, I 6, I 7, I 8, I 9, I 10, I 11, I 12, I 13, I 14, I 15, I 16, I 17, I 18, I 19, I 20, I 21, I 22, I 23, I 24, I 25, I 26, I 27, I 28, I 29, I 30, I 31, I 32, I 33, I 34, I 35, I 36, I 37, I 38, I 39, I 40, I 41, I 42, I 43, I 44, I 45, I 46, I 47, I 48, I 49, u9.2.1, I 51, I 52, I 53, I 54, I 55, I 56, I 57, I 58, I 59, I 60, u9.2.2.1, u9.2.2.2.1, u9.2.2.2.2.1, I 64, I 65, I 66, I 67, I 68, I 69, I 70]) (gF [F 0, F 1, F 2, F 3, F 4, F 5, F 6, F 7, F 8, F 9, F 10, F 11, F 12, F 13, F 14, F 15, F 16, F 17, F 18, F 19, F 20, F 21, F 22, F 23, F 24, F 25, F 26, F 27, F 28, F 29, F 30, F 31, F 32, F 33, F 34, F 35, F 36, F 37, F 38, F 39, F 40, F 41, F 42, F 43, F 44, F 45, F 46, F 47, F 48, F 49, F 50, F 51, F 52, F 53, F 54, F 55, F 56, F 57, F 58, u9.2.2.2.2.2.1, u9.2.2.2.2.2.2, F 61, F 62, F 63, F 64, F 65, F 66, F 67]) := by
  obtain ⟨cur, plan, old, sav, hs, flt, sfl, wat, swa, tn, ch, dep, nx, tx, fa, sv, ha, c1, c2, c3, c4, c5, c6, m1, m2, m3, m4, m5⟩ := hI
  obtain ⟨r, ic', gr', gt', st', cs', e1, e2, cl⟩ := f_chw (thr := 0) hfu m1.1 m1.2.2.1 (HM9.of hfu ha.1 m2.1) c5.2.1 c5.2.2.1 ha.2.2.1 c3.1 m3.1 wat.1 fu 0 0 (I 61) (I 62) (I 63) (F 59) (F 60) (by omega) (by have := ha.2.2.1.1; omega) m5.2.2.2.2
  exact ⟨_, _, e1, e2, rfl, cur, plan, old, sav, hs, flt, sfl, wat, swa, tn, ch, dep, nx, tx, fa, sv, ha, c1, c2, c3, c4, c5, c6, m1, m2, m3, m4, ⟨m5.1, m5.2.1, m5.2.2.1, m5.2.2.2.1, cl⟩⟩

theorem P_joinCount {fu : Nat} (hfu : 100000 ≤ fu) {I : Nat → Int32} {F : Nat → Nat → Int32} (hI : Inv I F) (v1 : Int32) (v2 : Int32) (v3 : Int32) : ∃ (c9 : Int32) (u9 : Int32 × Int32 × Int32 × (Nat → Int32) × (Nat → Int32)), f_X8_joinCount fu 1140 1140 (I 36) (F 32) (F 33) v1 v2 v3 = some c9 ∧ f_X9_joinCount fu 960 16 40 40 1783 (I 53) (F 53) (F 54) (F 55) v1 v2 v3 (I 50) (I 61) (F 59) (F 60) = some u9 ∧ c9 = u9.1 ∧ Inv (gI [I 0, I 1, I 2, I 3, I 4, I 5, I 6, I 7, I 8, I 9, I 10, I 11, I 12, I 13, I 14, I 15, I 16, I 17, I 18, I 19, I 20, I 21, I 22, I 23, I 24, I 25, I 26, I 27, I 28, I 29, I 30, I 31, I 32, I 33, I 34, I 35, I 36, I 37, I 38, I 39, I 40, I 41, I 42, I 43, I 44, I 45, I 46, I 47, I 48, I 49, u9.2.1, I 51, I 52, I 53, I 54, I 55, I 56, I 57, I 58, I 59, I 60, u9.2.2.1, I 62, I 63, I 64, I 65, I 66, I 67, I 68, I 69, I 70]) (gF [F 0, F 1, F 2, F 3, F 4, F 5, F 6, F 7, F 8, F 9, F 10, F 11, F 12, F 13, F 14, F 15, F 16, F 17, F 18, F 19, F 20, F 21, F 22, F 23, F 24, F 25, F 26, F 27, F 28, F 29, F 30, F 31, F 32, F 33, F 34, F 35, F 36, F 37, F 38, F 39, F 40, F 41, F 42, F 43, F 44, F 45, F 46, F 47, F 48, F 49, F 50, F 51, F 52, F 53, F 54, F 55, F 56, F 57, F 58, u9.2.2.2.1, u9.2.2.2.2, F 61, F 62, F 63, F 64, F 65, F 66, F 67]) := by
  obtain ⟨cur, plan, old, sav, hs, flt, sfl, wat, swa, tn, ch, dep, nx, tx, fa, sv, ha, c1, c2, c3, c4, c5, c6, m1, m2, m3, m4, m5⟩ := hI
  obtain ⟨n, kk, e36, e3, h2⟩ := c5.1
  have no : (bw v1 0 9 = false ∨ bw v2 0 5 = false ∨ bw v3 (-891) 891 = false) → f_X8_joinCount fu 1140 1140 (I 36) (F 32) (F 33) v1 v2 v3 = some 0 ∧ f_X9_joinCount fu 960 16 40 40 1783 (I 53) (F 53) (F 54) (F 55) v1 v2 v3 (I 50) (I 61) (F 59) (F 60) = some (0, 0, I 61, F 59, F 60) := by
    intro h
    unfold f_X8_joinCount f_X8_joinCount_31 f_X8_joinCount_32 f_X9_joinCount
    rw [f_isKey, f_isGroup, f_within, f_between, f_between, f_between, k_b1S, k_b1S, k_b1S, k_b1S, k_b1S, k_b1S, if_pos (rfl : (0 : Int32) = 0)]
    have n1 : ¬ nI (bv true) = 0 := by decide
    have y0 : nI (bv false) = 0 := by decide
    cases b1 : bw v1 0 9 with
    | false => exact ⟨if_pos y0, if_pos y0⟩
    | true =>
      rw [if_neg n1, if_neg n1]
      cases b2 : bw v2 0 5 with
      | false => exact ⟨if_pos y0, if_pos y0⟩
      | true =>
        rw [if_neg n1, if_neg n1]
        cases b3 : bw v3 (-891) 891 with
        | false => exact ⟨if_pos y0, if_pos y0⟩
        | true => rw [b1, b2, b3] at h; simp at h
  by_cases b : bw v1 0 9 = true ∧ bw v2 0 5 = true ∧ bw v3 (-891) 891 = true
  · obtain ⟨b1, b2, b3⟩ := b
    obtain ⟨k, hk, ek⟩ := (bw_ix (n := 9) (by decide) v1).elim (fun z => z.2) (fun z => absurd (z.1.symm.trans b1) (by decide))
    obtain ⟨g, hg, eg⟩ := (bw_ix (n := 5) (by decide) v2).elim (fun z => z.2) (fun z => absurd (z.1.symm.trans b2) (by decide))
    obtain ⟨p, hp, ep⟩ := bw_z b3
    have ec : (v1 * 6 + v2) * 1783 + v3 + 891 = nI ((k * 6 + g) * 1783 + p) := by
      rw [ek, eg, ep, show (6 : Int32) = nI 6 from rfl, q_mul, q_add, show (1783 : Int32) = nI 1783 from rfl, q_mul, ← zI_nat, ← zI_nat, zI_add, show (891 : Int32) = zI 891 from rfl, zI_add]
      refine congrArg zI ?_
      omega
    have ep2 : v3 + 891 = nI p := by
      rw [ep, show (891 : Int32) = zI 891 from rfl, zI_add, ← zI_nat]
      refine congrArg zI ?_
      omega
    have h1 : f_X8_joinCount fu 1140 1140 (I 36) (F 32) (F 33) v1 v2 v3 = some (zI (JF flt cur ((k * 6 + g) * 1783 + p))) := by
      unfold f_X8_joinCount f_X8_joinCount_32 f_X8_joinCode
      rw [f_isKey, f_isGroup, f_within, b1, b2, b3, k_b1S, k_b1S, k_b1S, if_neg (by decide), if_neg (by decide), if_neg (by decide), if_neg (by decide), show f_X6_join = some () from rfl, k_b1S, k_b1S, ec, e36, f_countOf hfu (by decide) (by decide) (by omega) h2, k_b1S]
    obtain ⟨cs0, f1, z0⟩ := f_clears (fu := fu) hfu m5.2.2.2.2
    have sel := selK_ok (k * 6 + g) (by omega)
    rw [show (k * 6 + g) / 6 = k by omega, show (k * 6 + g) % 6 = g by omega] at sel
    obtain ⟨xa, ica, sta, csa, f2, g2⟩ := f_counts (fu := fu) (by_ := 1) (v2 := nI k) (v3 := nI g) (t := 0) hfu (by decide) m1.1 (HM9.of hfu ha.1 m2.1) (selK (k * 6 + g)) sel 1 (F 59) cs0
    have f2' : f_X9_counts fu 960 16 40 40 1783 (I 53) (F 53) (F 54) (F 55) 0 v1 v2 1 1 (F 59) cs0 = some (xa, ica, sta, csa) := by rw [ek, eg]; exact f2
    have hv : csa p = zI (JF flt cur ((k * 6 + g) * 1783 + p)) := by
      rw [g2.1 p hp, z0 p hp, CW_K _ _ _ _ _ hp, Int.one_mul]
      exact Int32.zero_add _
    have h3 : f_X9_joinCount fu 960 16 40 40 1783 (I 53) (F 53) (F 54) (F 55) v1 v2 v3 (I 50) (I 61) (F 59) (F 60) = some (zI (JF flt cur ((k * 6 + g) * 1783 + p)), 0, ica, sta, csa) := by
      unfold f_X9_joinCount
      rw [f_between, f_between, f_between, b1, b2, b3, k_b1S, k_b1S, k_b1S, if_neg (by decide), if_neg (by decide), if_neg (by decide), f1, k_b2S, f2', k_b4S, ep2, k_letS, if_pos (nI_in (N := 1783) hp (by decide)), q_cl (by omega), k_letS, hv]
    exact ⟨_, _, h1, h3, rfl, cur, plan, old, sav, hs, flt, sfl, wat, swa, tn, ch, dep, nx, tx, fa, sv, ha, c1, c2, c3, c4, c5, c6, m1, m2, m3, m4, ⟨m5.1, m5.2.1, m5.2.2.1, m5.2.2.2.1, g2.cl (Or.inr ⟨rfl, z0⟩)⟩⟩
  · have hno : bw v1 0 9 = false ∨ bw v2 0 5 = false ∨ bw v3 (-891) 891 = false := by
      cases b1 : bw v1 0 9 <;> cases b2 : bw v2 0 5 <;> cases b3 : bw v3 (-891) 891 <;> simp_all
    obtain ⟨h1, h3⟩ := no hno
    exact ⟨_, _, h1, h3, rfl, cur, plan, old, sav, hs, flt, sfl, wat, swa, tn, ch, dep, nx, tx, fa, sv, ha, c1, c2, c3, c4, c5, c6, m1, m2, m3, m4, m5⟩
