theorem si_ge {f : Nat → Int} (h : ∀ i, 0 ≤ f i) : ∀ {n j : Nat}, j < n → f j ≤ fb_si f n := by
  intro n
  induction n with
  | zero => intro j hj; omega
  | succ n ih =>
    intro j hj
    rw [fb_si_succ]
    have h1 := h n
    by_cases e : j = n
    · subst e
      have := si_nonneg (f := f) j (fun i _ => h i)
      omega
    · have := ih (show j < n by omega)
      omega
theorem ib_v (mt : Nat → Nat → Bool) (l r : Nat) : ib mt l r = if mt l r = true then 1 else 0 := rfl
theorem f_isD_loop {fu nr l : Nat} {mR : Nat → Int} {rr : Nat → Nat} {rows size filter : Nat → Int32} {fsize : Int32} {mt : Nat → Nat → Bool} (hR : RTk 1 190 mR nr rr rows) (hs : size 1 = nI nr) (hM : HM9 fu mt fsize filter) (hl : l < 11940) : ∀ (d G j : Nat) (stack : Nat → Int32), d + j = nr → d < G → (∀ i, i < j → mt l (rr i) = false) →
    ∃ st', f_X9_isDangling_2 fu 960 16 40 40 fsize rows size filter (nI l) G (nI j) stack = some ((if PW mt mR l = 0 then 1 else 0), st') := by
  have hn := hR.1
  have hP : PW mt mR l = fb_si (fun i => ib mt l (rr i)) nr := (hR.sum (ib mt l)).symm
  have i1 : (1 : Int32).toNatClampNeg = 1 := rfl
  intro d
  induction d with
  | zero =>
    intro G j stack h1 h2 h3
    obtain ⟨G', rfl⟩ : ∃ G', G = G' + 1 := ⟨G - 1, by omega⟩
    have z : PW mt mR l = 0 := by
      rw [hP]
      exact si_0 (fun i hi => by rw [ib_v, h3 i (by omega)]; rfl)
    refine ⟨stack, ?_⟩
    rw [fs_X9_isDangling_2, if_pos (by decide), i1, hs, k_letS, if_pos (show nI nr ≤ nI j by rw [q_le (by omega) (by omega)]; omega), if_pos nar1, if_pos z]
  | succ d ih =>
    intro G j stack h1 h2 h3
    obtain ⟨G', rfl⟩ : ∃ G', G = G' + 1 := ⟨G - 1, by omega⟩
    have hj := hR.2.1 j (by omega)
    obtain ⟨st1, e1⟩ := hM l (rr j) stack hl hj.2
    have e60 : (60 : Int32) + nI j = nI (60 * 1 + j) := q_add 60 j
    rw [fs_X9_isDangling_2, if_pos (by decide), i1, hs, k_letS, if_neg (show ¬ nI nr ≤ nI j by rw [q_le (by omega) (by omega)]; omega), e60, k_letS, if_pos (nI_in (c := 60 * 1 + j) (N := 960) (by omega) (by decide)), q_cl (by omega), hj.1, k_letS, e1, k_b2S]
    cases hm : mt l (rr j) with
    | false =>
      rw [if_pos (by decide), k_letS, q_1, q_add]
      exact ih G' (j + 1) st1 (by omega) (by omega) (fun i hi => by
        by_cases e : i = j
        · rw [e]; exact hm
        · exact h3 i (by omega))
    | true =>
      have z : ¬ PW mt mR l = 0 := by
        have a := si_ge (f := fun i => ib mt l (rr i)) (fun i => by rw [ib_v]; by_cases x : mt l (rr i) = true <;> simp [x]) (show j < nr by omega)
        have b : ib mt l (rr j) = 1 := by rw [ib_v, hm]; rfl
        have a' : ib mt l (rr j) ≤ fb_si (fun i => ib mt l (rr i)) nr := a
        rw [hP]; omega
      exact ⟨st1, by rw [if_neg (by decide), if_pos nar0, if_neg z]⟩
def gD (mt : Nat → Nat → Bool) (mR : Nat → Int) (l : Nat) : Int := if PW mt mR l = 0 then 1 else 0
theorem f_dc_loop {fu nl nr : Nat} {mL mR : Nat → Int} {rl rr : Nat → Nat} {rows size filter : Nat → Int32} {fsize : Int32} {mt : Nat → Nat → Bool} (hfu : 100000 ≤ fu) (hL : RTk 0 11940 mL nl rl rows) (hsl : size 0 = nI nl) (hR : RTk 1 190 mR nr rr rows) (hs : size 1 = nI nr) (hM : HM9 fu mt fsize filter) : ∀ (d G j : Nat) (x thr : Int32) (stack : Nat → Int32), d + j = nl → d < G → x = zI (fb_si (fun i => gD mt mR (rl i)) j) →
    ∃ st', f_X9_danglingCount_9 fu 960 16 40 40 fsize rows size filter G x (nI j) thr stack = some (zI (fb_si (fun i => gD mt mR (rl i)) nl), thr, st') := by
  have hn := hL.1
  have hnr := hR.1
  have i0 : (0 : Int32).toNatClampNeg = 0 := rfl
  intro d
  induction d with
  | zero =>
    intro G j x thr stack h1 h2 h3
    obtain ⟨G', rfl⟩ : ∃ G', G = G' + 1 := ⟨G - 1, by omega⟩
    have : j = nl := by omega
    subst this
    exact ⟨stack, by rw [fs_X9_danglingCount_9, if_pos (by decide), i0, hsl, k_letS, if_pos (show nI j ≤ nI j by rw [q_le (by omega) (by omega)]; omega), h3]⟩
  | succ d ih =>
    intro G j x thr stack h1 h2 h3
    obtain ⟨G', rfl⟩ : ∃ G', G = G' + 1 := ⟨G - 1, by omega⟩
    have hj := hL.2.1 j (by omega)
    have hr : rows j = nI (rl j) := by
      have := hj.1
      rw [show 60 * 0 + j = j by omega] at this
      exact this
    obtain ⟨st1, e1⟩ := f_isD_loop hR hs hM hj.2 nr fu 0 stack (by omega) (by omega) (fun i hi => by omega)
    have e1' : f_X9_isDangling fu 960 16 40 40 fsize rows size filter (nI (rl j)) stack = some ((if PW mt mR (rl j) = 0 then 1 else 0), st1) := e1
    rw [fs_X9_danglingCount_9, if_pos (by decide), i0, hsl, k_letS, if_neg (show ¬ nI nl ≤ nI j by rw [q_le (by omega) (by omega)]; omega), if_pos (nI_in (c := j) (N := 960) (by omega) (by decide)), q_cl (by omega), hr, k_letS, e1', k_b2S]
    unfold f_X9_danglingCount_38
    have e3 : nI j + 1 = nI (j + 1) := by rw [q_1, q_add]
    by_cases z : PW mt mR (rl j) = 0
    · simp only [if_pos z, if_neg (show ¬ (1 : Int32) = 0 by decide), k_letS, e3]
      exact ih G' (j + 1) _ thr st1 (by omega) (by omega) (by
        rw [h3, fb_si_succ, show gD mt mR (rl j) = 1 from if_pos z, show (1 : Int32) = zI 1 from rfl, zI_add])
    · simp only [if_neg z, if_pos (show (0 : Int32) = 0 from rfl), k_letS, e3]
      exact ih G' (j + 1) _ thr st1 (by omega) (by omega) (by
        rw [h3, fb_si_succ, show gD mt mR (rl j) = 0 from if_neg z, show (0 : Int32) = zI 0 from rfl, zI_add])
theorem f_dc {fu : Nat} {mL mR : Nat → Int} {rows size filter : Nat → Int32} {fsize : Int32} {mt : Nat → Nat → Bool} (hfu : 100000 ≤ fu) (h2 : R2 0 mL mR rows size) (hM : HM9 fu mt fsize filter) (thr : Int32) (stack : Nat → Int32) : ∃ st', f_X9_danglingCount fu 960 16 40 40 fsize rows size filter thr stack = some (zI (fb_si (DG mt mL mR) 11940), 0, st') := by
  obtain ⟨⟨nl, rl, hsl, hL⟩, ⟨nr, rr, hsr, hR⟩⟩ := h2
  have hn := hL.1
  obtain ⟨st', e⟩ := f_dc_loop hfu hL hsl hR hsr hM nl fu 0 0 0 stack (by omega) (by omega) zI_0.symm
  refine ⟨st', ?_⟩
  have e2 : fb_si (fun i => gD mt mR (rl i)) nl = fb_si (DG mt mL mR) 11940 := (hL.sum (gD mt mR)).trans (fb_si_cong (fun c _ => by
    unfold gD DG
    by_cases z : PW mt mR c = 0
    · rw [if_pos z, if_pos z, Int.mul_one]
    · rw [if_neg z, if_neg z, Int.mul_zero]))
  rw [e2] at e
  exact e

theorem P_danglingCount {fu : Nat} (hfu : 100000 ≤ fu) {I : Nat → Int32} {F : Nat → Nat → Int32} (hI : Inv I F) : ∃ (c9 : Int32) (u9 : Int32 × Int32 × (Nat → Int32)), f_X8_danglingCount (I 43) = some c9 ∧ f_X9_danglingCount fu 960 16 40 40 (I 53) (F 53) (F 54) (F 55) (I 50) (F 59) = some u9 ∧ c9 = u9.1 ∧ Inv (gI [I 0, I 1, I 2, I 3, I 4, I 5, I 6, I 7, I 8, I 9, I 10, I 11, I 12, I 13, I 14, I 15, I 16, I 17, I 18, I 19, I 20, I 21, I 22, I 23, I 24, I 25, I 26, I 27, I 28, I 29, I 30, I 31, I 32, I 33, I 34, I 35, I 36, I 37, I 38, I 39, I 40, I 41, I 42, I 43, I 44, I 45, I 46, I 47, I 48, I 49, u9.2.1, I 51, I 52, I 53, I 54, I 55, I 56, I 57, I 58, I 59, I 60, I 61, I 62, I 63, I 64, I 65, I 66, I 67, I 68, I 69, I 70]) (gF [F 0, F 1, F 2, F 3, F 4, F 5, F 6, F 7, F 8, F 9, F 10, F 11, F 12, F 13, F 14, F 15, F 16, F 17, F 18, F 19, F 20, F 21, F 22, F 23, F 24, F 25, F 26, F 27, F 28, F 29, F 30, F 31, F 32, F 33, F 34, F 35, F 36, F 37, F 38, F 39, F 40, F 41, F 42, F 43, F 44, F 45, F 46, F 47, F 48, F 49, F 50, F 51, F 52, F 53, F 54, F 55, F 56, F 57, F 58, u9.2.2, F 60, F 61, F 62, F 63, F 64, F 65, F 66, F 67]) := by
  obtain ⟨cur, plan, old, sav, hs, flt, sfl, wat, swa, tn, ch, dep, nx, tx, fa, sv, ha, c1, c2, c3, c4, c5, c6, m1, m2, m3, m4, m5⟩ := hI
  obtain ⟨st', e⟩ := f_dc hfu m1.1 (HM9.of hfu ha.1 m2.1) (I 50) (F 59)
  obtain ⟨n, k, e2, e3, _⟩ := c5.2.2.2.2
  exact ⟨_, _, rfl, e, e3, cur, plan, old, sav, hs, flt, sfl, wat, swa, tn, ch, dep, nx, tx, fa, sv, ha, c1, c2, c3, c4, c5, c6, m1, m2, m3, m4, m5⟩
