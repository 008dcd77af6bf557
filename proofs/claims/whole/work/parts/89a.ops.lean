theorem k_b15S {t0 t1 t2 t3 t4 t5 t6 t7 t8 t9 t10 t11 t12 t13 t14 γ : Type} (x0 : t0) (x1 : t1) (x2 : t2) (x3 : t3) (x4 : t4) (x5 : t5) (x6 : t6) (x7 : t7) (x8 : t8) (x9 : t9) (x10 : t10) (x11 : t11) (x12 : t12) (x13 : t13) (x14 : t14) (f : t0 → t1 → t2 → t3 → t4 → t5 → t6 → t7 → t8 → t9 → t10 → t11 → t12 → t13 → t14 → Option γ) : k_b15 (some (x0, x1, x2, x3, x4, x5, x6, x7, x8, x9, x10, x11, x12, x13, x14)) f = f x0 x1 x2 x3 x4 x5 x6 x7 x8 x9 x10 x11 x12 x13 x14 := rfl
theorem f_app1 {lim n : Nat} {v1 v2 : Int32} {steps nums : Nat → Int32} (hl : lim < 100000) (hn : n < lim) : f_X1_append lim lim v1 v2 (nI n) steps nums = some (nI (n + 1), upd steps n v1, upd nums n v2) := by
  unfold f_X1_append
  simp (disch := omega) only [q_0, q_1, q_add, q_lt, q_le, q_cl, if_pos, if_neg]
theorem f_app7 {lim n : Nat} {v1 v2 : Int32} {steps nums : Nat → Int32} (hl : lim < 100000) (hn : n < lim) : f_X7_append lim lim v1 v2 (nI n) steps nums = some (nI (n + 1), upd steps n v1, upd nums n v2) := by
  unfold f_X7_append
  simp (disch := omega) only [q_0, q_1, q_add, q_lt, q_le, q_cl, if_pos, if_neg]
theorem f_isFilled7 {N i : Nat} (hN : N ≤ 6) (hi : i < N) : f_X7_isFilled 6 6 (nI N) (nI i) = some 1 := by
  unfold f_X7_isFilled
  rw [if_neg (nI_pos (by omega)), if_neg (by rw [q_le (by omega) (by omega)]; omega), if_neg (by rw [q_le (by omega) (by omega)]; omega), if_neg (by rw [q_le (by omega) (by omega)]; omega), if_pos nar1]
theorem f_copy1_loop {fu N : Nat} {steps1 nums1 : Nat → Int32} (hN : N ≤ 40) : ∀ (d G j : Nat) (steps nums : Nat → Int32), d + j = N → d < G → (∀ i, i < j → steps i = steps1 i ∧ nums i = nums1 i) →
    ∃ s' u', f_X1_copyFrom_6 fu 40 40 40 40 (nI N) steps1 nums1 G (nI j) (nI j) steps nums = some (nI N, s', u') ∧ ∀ i, i < N → s' i = steps1 i ∧ u' i = nums1 i := by
  intro d
  induction d with
  | zero =>
    intro G j steps nums h1 h2 h3
    obtain ⟨G', rfl⟩ : ∃ G', G = G' + 1 := ⟨G - 1, by omega⟩
    have : j = N := by omega
    subst this
    exact ⟨steps, nums, by rw [fs_X1_copyFrom_6, if_pos (by rw [q_le (by omega) (by omega)]; omega)], h3⟩
  | succ d ih =>
    intro G j steps nums h1 h2 h3
    obtain ⟨G', rfl⟩ : ∃ G', G = G' + 1 := ⟨G - 1, by omega⟩
    have hj : j < N := by omega
    rw [fs_X1_copyFrom_6, if_neg (by rw [q_le (by omega) (by omega)]; omega), f_isFilled1 hN hj, k_b1S, if_neg (by decide), if_pos (nI_in (c := j) (N := 40) (by omega) (by decide)), k_letS, if_pos (nI_in (c := j) (N := 40) (by omega) (by decide)), k_letS, q_cl (by omega), f_app1 (by decide) (by omega), k_b3S]
    unfold f_X1_copyFrom_38
    rw [k_letS, q_1, q_add]
    refine ih G' (j + 1) _ _ (by omega) (by omega) (fun i hi => ?_)
    rw [q_upd, q_upd]
    by_cases e : i = j
    · rw [if_pos e, if_pos e, e]; exact ⟨rfl, rfl⟩
    · rw [if_neg e, if_neg e]; exact h3 i (by omega)
theorem f_copy1 {fu N : Nat} {st : Nat → Nat} {nu : Nat → Int} {s1 : Int32} {steps1 nums1 : Nat → Int32} (hfu : 100000 ≤ fu) (hN : N ≤ 40) (h : FC N st nu s1 steps1 nums1) (s : Int32) (steps nums : Nat → Int32) : ∃ s' t' u', f_X1_copyFrom fu 40 40 40 40 s1 steps1 nums1 s steps nums = some (s', t', u') ∧ FC N st nu s' t' u' := by
  obtain ⟨t', u', e, q⟩ := f_copy1_loop (fu := fu) (steps1 := steps1) (nums1 := nums1) hN N fu 0 steps nums (by omega) (by omega) (fun i hi => by omega)
  refine ⟨nI N, t', u', ?_, rfl, fun i hi => ?_⟩
  · unfold f_X1_copyFrom f_X1_clear
    rw [k_b1S, h.1]; exact e
  · rw [(q i hi).1, (q i hi).2]; exact h.2 i hi
theorem f_copy7_loop {fu N : Nat} {steps1 nums1 : Nat → Int32} (hN : N ≤ 6) : ∀ (d G j : Nat) (steps nums : Nat → Int32), d + j = N → d < G → (∀ i, i < j → steps i = steps1 i ∧ nums i = nums1 i) →
    ∃ s' u', f_X7_copyFrom_6 fu 6 6 6 6 (nI N) steps1 nums1 G (nI j) (nI j) steps nums = some (nI N, s', u') ∧ ∀ i, i < N → s' i = steps1 i ∧ u' i = nums1 i := by
  intro d
  induction d with
  | zero =>
    intro G j steps nums h1 h2 h3
    obtain ⟨G', rfl⟩ : ∃ G', G = G' + 1 := ⟨G - 1, by omega⟩
    have : j = N := by omega
    subst this
    exact ⟨steps, nums, by rw [fs_X7_copyFrom_6, if_pos (by rw [q_le (by omega) (by omega)]; omega)], h3⟩
  | succ d ih =>
    intro G j steps nums h1 h2 h3
    obtain ⟨G', rfl⟩ : ∃ G', G = G' + 1 := ⟨G - 1, by omega⟩
    have hj : j < N := by omega
    rw [fs_X7_copyFrom_6, if_neg (by rw [q_le (by omega) (by omega)]; omega), f_isFilled7 hN hj, k_b1S, if_neg (by decide), if_pos (nI_in (c := j) (N := 6) (by omega) (by decide)), k_letS, if_pos (nI_in (c := j) (N := 6) (by omega) (by decide)), k_letS, q_cl (by omega), f_app7 (by decide) (by omega), k_b3S]
    unfold f_X7_copyFrom_38
    rw [k_letS, q_1, q_add]
    refine ih G' (j + 1) _ _ (by omega) (by omega) (fun i hi => ?_)
    rw [q_upd, q_upd]
    by_cases e : i = j
    · rw [if_pos e, if_pos e, e]; exact ⟨rfl, rfl⟩
    · rw [if_neg e, if_neg e]; exact h3 i (by omega)
theorem f_copy7 {fu : Nat} {w : W3} {s1 : Int32} {steps1 nums1 : Nat → Int32} (hfu : 100000 ≤ fu) (hN : WW w) (h : WE w s1 steps1 nums1) (s : Int32) (steps nums : Nat → Int32) : ∃ s' t' u', f_X7_copyFrom fu 6 6 6 6 s1 steps1 nums1 s steps nums = some (s', t', u') ∧ WE w s' t' u' := by
  have h6 := hN.1
  obtain ⟨t', u', e, q⟩ := f_copy7_loop (fu := fu) (steps1 := steps1) (nums1 := nums1) hN.1 w.1 fu 0 steps nums (by omega) (by omega) (fun i hi => by omega)
  refine ⟨nI w.1, t', u', ?_, rfl, fun i hi => ?_⟩
  · unfold f_X7_copyFrom f_X7_clear
    rw [k_b1S, h.1]; exact e
  · rw [(q i hi).1, (q i hi).2]; exact h.2 i hi
theorem f_save63 {fu W : Nat} {fsz : Int32} {filter wg wb : Nat → Int32} {x2 x3 x4 x5 : Int32} {rows size sf : Nat → Int32} (hN : W ≤ 6) : ∀ (d G j : Nat) (sg sb : Nat → Int32), d + j = W → d < G → (∀ i, i < j → sg i = wg i ∧ sb i = wb i) →
    ∃ s' u', f_X9_save_63 fu 960 16 40 40 6 6 6 6 fsz (nI W) filter wg wb G (nI j) x2 x3 x4 x5 rows size sf sg sb = some (x2, x3, x4, x5, rows, size, sf, s', u') ∧ ∀ i, i < W → s' i = wg i ∧ u' i = wb i := by
  intro d
  induction d with
  | zero =>
    intro G j sg sb h1 h2 h3
    obtain ⟨G', rfl⟩ : ∃ G', G = G' + 1 := ⟨G - 1, by omega⟩
    have : j = W := by omega
    subst this
    exact ⟨sg, sb, by rw [fs_X9_save_63, if_pos (by rw [q_le (by omega) (by omega)]; omega)], h3⟩
  | succ d ih =>
    intro G j sg sb h1 h2 h3
    obtain ⟨G', rfl⟩ : ∃ G', G = G' + 1 := ⟨G - 1, by omega⟩
    have i6 := nI_in (c := j) (N := 6) (by omega) (by decide)
    rw [fs_X9_save_63, if_neg (by rw [q_le (by omega) (by omega)]; omega), if_pos i6, k_letS, if_pos i6, if_pos i6, k_letS, if_pos i6, q_cl (by omega), q_1, q_add, k_letS]
    refine ih G' (j + 1) _ _ (by omega) (by omega) (fun i hi => ?_)
    rw [q_upd, q_upd]
    by_cases e : i = j
    · rw [if_pos e, if_pos e, e]; exact ⟨rfl, rfl⟩
    · rw [if_neg e, if_neg e]; exact h3 i (by omega)
theorem f_save35 {fu N W : Nat} {filter wg wb : Nat → Int32} {x2 x3 x4 x5 : Int32} {rows size sg sb : Nat → Int32} (hfu : 100000 ≤ fu) (hN : N ≤ 40) (hW : W ≤ 6) : ∀ (d G j : Nat) (sf : Nat → Int32), d + j = N → d < G → (∀ i, i < j → sf i = filter i) →
    ∃ f' s' u', f_X9_save_35 fu 960 16 40 40 6 6 6 6 (nI N) (nI W) filter wg wb G (nI j) x2 x3 x4 x5 rows size sf sg sb = some (x2, x3, x4, x5, rows, size, f', s', u') ∧ (∀ i, i < N → f' i = filter i) ∧ ∀ i, i < W → s' i = wg i ∧ u' i = wb i := by
  intro d
  induction d with
  | zero =>
    intro G j sf h1 h2 h3
    obtain ⟨G', rfl⟩ : ∃ G', G = G' + 1 := ⟨G - 1, by omega⟩
    have : j = N := by omega
    subst this
    obtain ⟨s', u', e, q⟩ := f_save63 (fu := fu) (fsz := nI j) (filter := filter) (wg := wg) (wb := wb) (x2 := x2) (x3 := x3) (x4 := x4) (x5 := x5) (rows := rows) (size := size) (sf := sf) hW W fu 0 sg sb (by omega) (by omega) (fun i hi => by omega)
    refine ⟨sf, s', u', ?_, h3, q⟩
    rw [fs_X9_save_35, if_pos (by rw [q_le (by omega) (by omega)]; omega)]
    exact e
  | succ d ih =>
    intro G j sf h1 h2 h3
    obtain ⟨G', rfl⟩ : ∃ G', G = G' + 1 := ⟨G - 1, by omega⟩
    have i6 := nI_in (c := j) (N := 40) (by omega) (by decide)
    rw [fs_X9_save_35, if_neg (by rw [q_le (by omega) (by omega)]; omega), if_pos i6, k_letS, if_pos i6, q_cl (by omega), q_1, q_add, k_letS]
    refine ih G' (j + 1) _ (by omega) (by omega) (fun i hi => ?_)
    rw [q_upd]
    by_cases e : i = j
    · rw [if_pos e, e]
    · rw [if_neg e]; exact h3 i (by omega)
theorem f_rest92 {fu W : Nat} {sfs sws isv : Int32} {sf sg sb : Nat → Int32} {x2 x3 x4 x5 : Int32} {rows size fi : Nat → Int32} (hN : W ≤ 6) : ∀ (d G j : Nat) (wg wb : Nat → Int32), d + j = W → d < G → (∀ i, i < j → wg i = sg i ∧ wb i = sb i) →
    ∃ s' u', f_X9_restore_92 fu 960 16 40 40 6 6 6 6 sfs sws isv sf sg sb G (nI j) x2 x3 x4 x5 (nI W) rows size fi wg wb = some (x2, x3, x4, x5, nI W, rows, size, fi, s', u') ∧ ∀ i, i < W → s' i = sg i ∧ u' i = sb i := by
  intro d
  induction d with
  | zero =>
    intro G j wg wb h1 h2 h3
    obtain ⟨G', rfl⟩ : ∃ G', G = G' + 1 := ⟨G - 1, by omega⟩
    have : j = W := by omega
    subst this
    exact ⟨wg, wb, by rw [fs_X9_restore_92, if_pos (by rw [q_le (by omega) (by omega)]; omega)], h3⟩
  | succ d ih =>
    intro G j wg wb h1 h2 h3
    obtain ⟨G', rfl⟩ : ∃ G', G = G' + 1 := ⟨G - 1, by omega⟩
    have i6 := nI_in (c := j) (N := 6) (by omega) (by decide)
    rw [fs_X9_restore_92, if_neg (by rw [q_le (by omega) (by omega)]; omega), if_pos i6, k_letS, if_pos i6, if_pos i6, k_letS, if_pos i6, q_cl (by omega), q_1, q_add, k_letS]
    refine ih G' (j + 1) _ _ (by omega) (by omega) (fun i hi => ?_)
    rw [q_upd, q_upd]
    by_cases e : i = j
    · rw [if_pos e, if_pos e, e]; exact ⟨rfl, rfl⟩
    · rw [if_neg e, if_neg e]; exact h3 i (by omega)
theorem f_rest64 {fu N W : Nat} {sfs sws isv : Int32} {sf sg sb : Nat → Int32} {x2 x3 x4 : Int32} {rows size wg wb : Nat → Int32} (hfu : 100000 ≤ fu) (hN : N ≤ 40) (hW : W ≤ 6) : ∀ (d G j : Nat) (fi : Nat → Int32), d + j = N → d < G → (∀ i, i < j → fi i = sf i) →
    ∃ f' s' u', f_X9_restore_64 fu 960 16 40 40 6 6 6 6 sfs sws isv sf sg sb G (nI j) x2 x3 x4 (nI N) (nI W) rows size fi wg wb = some (x2, x3, x4, nI N, nI W, rows, size, f', s', u') ∧ (∀ i, i < N → f' i = sf i) ∧ ∀ i, i < W → s' i = sg i ∧ u' i = sb i := by
  intro d
  induction d with
  | zero =>
    intro G j fi h1 h2 h3
    obtain ⟨G', rfl⟩ : ∃ G', G = G' + 1 := ⟨G - 1, by omega⟩
    have : j = N := by omega
    subst this
    obtain ⟨s', u', e, q⟩ := f_rest92 (fu := fu) (sfs := sfs) (sws := sws) (isv := isv) (sf := sf) (sg := sg) (sb := sb) (x2 := x2) (x3 := x3) (x4 := x4) (x5 := nI j) (rows := rows) (size := size) (fi := fi) hW W fu 0 wg wb (by omega) (by omega) (fun i hi => by omega)
    refine ⟨fi, s', u', ?_, h3, q⟩
    rw [fs_X9_restore_64, if_pos (by rw [q_le (by omega) (by omega)]; omega)]
    exact e
  | succ d ih =>
    intro G j fi h1 h2 h3
    obtain ⟨G', rfl⟩ : ∃ G', G = G' + 1 := ⟨G - 1, by omega⟩
    have i6 := nI_in (c := j) (N := 40) (by omega) (by decide)
    rw [fs_X9_restore_64, if_neg (by rw [q_le (by omega) (by omega)]; omega), if_pos i6, k_letS, if_pos i6, q_cl (by omega), q_1, q_add, k_letS]
    refine ih G' (j + 1) _ (by omega) (by omega) (fun i hi => ?_)
    rw [q_upd]
    by_cases e : i = j
    · rw [if_pos e, e]
    · rw [if_neg e]; exact h3 i (by omega)

theorem P_save {fu : Nat} (hfu : 100000 ≤ fu) {I : Nat → Int32} {F : Nat → Nat → Int32} (hI : Inv I F) : ∃ (c9 : Int32 × Int32 × Int32 × (Nat → Int32) × (Nat → Int32) × Int32 × Int32 × (Nat → Int32) × (Nat → Int32) × Int32 × (Nat → Int32) × (Nat → Int32) × Int32 × (Nat → Int32) × (Nat → Int32)) (u9 : Int32 × Int32 × Int32 × Int32 × (Nat → Int32) × (Nat → Int32) × (Nat → Int32) × (Nat → Int32) × (Nat → Int32)), f_X8_save fu 60 60 60 60 40 40 6 6 60 60 60 60 40 40 6 6 (I 3) (F 0) (F 1) (I 5) (F 2) (F 3) (I 29) (F 24) (F 25) (I 35) (F 30) (F 31) (I 2) (I 44) (I 45) (F 45) (F 46) (I 46) (I 47) (F 47) (F 48) (I 48) (F 49) (F 50) (I 49) (F 51) (F 52) = some c9 ∧ f_X9_save fu 960 16 40 40 6 6 6 6 (I 53) (I 64) (F 55) (F 63) (F 64) (I 50) (I 56) (I 65) (I 70) (F 53) (F 54) (F 58) (F 65) (F 66) = some u9 ∧ Inv (gI [I 0, I 1, c9.1, I 3, I 4, I 5, I 6, I 7, I 8, I 9, I 10, I 11, I 12, I 13, I 14, I 15, I 16, I 17, I 18, I 19, I 20, I 21, I 22, I 23, I 24, I 25, I 26, I 27, I 28, I 29, I 30, I 31, I 32, I 33, I 34, I 35, I 36, I 37, I 38, I 39, I 40, I 41, I 42, I 43, c9.2.1, c9.2.2.1, c9.2.2.2.2.2.1, c9.2.2.2.2.2.2.1, c9.2.2.2.2.2.2.2.2.2.1, c9.2.2.2.2.2.2.2.2.2.2.2.2.1, u9.1, I 51, I 52, I 53, I 54, I 55, u9.2.1, I 57, I 58, I 59, I 60, I 61, I 62, I 63, I 64, u9.2.2.1, I 66, I 67, I 68, I 69, u9.2.2.2.1]) (gF [F 0, F 1, F 2, F 3, F 4, F 5, F 6, F 7, F 8, F 9, F 10, F 11, F 12, F 13, F 14, F 15, F 16, F 17, F 18, F 19, F 20, F 21, F 22, F 23, F 24, F 25, F 26, F 27, F 28, F 29, F 30, F 31, F 32, F 33, F 34, F 35, F 36, F 37, F 38, F 39, F 40, F 41, F 42, F 43, F 44, c9.2.2.2.1, c9.2.2.2.2.1, c9.2.2.2.2.2.2.2.1, c9.2.2.2.2.2.2.2.2.1, c9.2.2.2.2.2.2.2.2.2.2.1, c9.2.2.2.2.2.2.2.2.2.2.2.1, c9.2.2.2.2.2.2.2.2.2.2.2.2.2.1, c9.2.2.2.2.2.2.2.2.2.2.2.2.2.2, u9.2.2.2.2.1, u9.2.2.2.2.2.1, F 55, F 56, F 57, u9.2.2.2.2.2.2.1, F 59, F 60, F 61, F 62, F 63, F 64, u9.2.2.2.2.2.2.2.1, u9.2.2.2.2.2.2.2.2, F 67]) := by
  obtain ⟨cur, plan, old, sav, hs, flt, sfl, wat, swa, tn, ch, dep, nx, tx, fa, sv, ha, c1, c2, c3, c4, c5, c6, m1, m2, m3, m4, m5⟩ := hI
  obtain ⟨s1, t1, k1, d1, s2, t2, k2, d2, e1, hC⟩ := f_copy5 hfu c1.1 (I 44) (I 45) (F 45) (F 46) (I 46) (I 47) (F 47) (F 48)
  obtain ⟨fs', ft', fu', e2, hF⟩ := f_copy1 hfu ha.1.1 c2.1 (I 48) (F 49) (F 50)
  obtain ⟨ws', wt', wu', e3, hW⟩ := f_copy7 hfu ha.2.2.1 c3.1 (I 49) (F 51) (F 52)
  obtain ⟨rows', size', e4, hP⟩ := f_copies (rows := F 53) (size := F 54) (a := 0) (b := 14) hfu (by decide) (by decide) (by decide)
  obtain ⟨f9, s9, u9, e5, q1, q2⟩ := f_save35 (fu := fu) (filter := F 55) (wg := F 63) (wb := F 64) (x2 := 0) (x3 := nI flt.1) (x4 := nI wat.1) (x5 := 1) (rows := rows') (size := size') (sg := F 65) (sb := F 66) hfu ha.1.1 ha.2.2.1.1 flt.1 fu 0 (F 58) (by omega) (by have := ha.1.1; omega) (fun i hi => by omega)
  have h1 : f_X8_save fu 60 60 60 60 40 40 6 6 60 60 60 60 40 40 6 6 (I 3) (F 0) (F 1) (I 5) (F 2) (F 3) (I 29) (F 24) (F 25) (I 35) (F 30) (F 31) (I 2) (I 44) (I 45) (F 45) (F 46) (I 46) (I 47) (F 47) (F 48) (I 48) (F 49) (F 50) (I 49) (F 51) (F 52) = some (1, s1, t1, k1, d1, s2, t2, k2, d2, fs', ft', fu', ws', wt', wu') := by
    unfold f_X8_save
    rw [e1, k_b8S, e2, k_b3S, e3, k_b3S]
  have h2 : f_X9_save fu 960 16 40 40 6 6 6 6 (I 53) (I 64) (F 55) (F 63) (F 64) (I 50) (I 56) (I 65) (I 70) (F 53) (F 54) (F 58) (F 65) (F 66) = some (0, nI flt.1, nI wat.1, 1, rows', size', f9, s9, u9) := by
    unfold f_X9_save
    have e4' : f_X9_copies fu 960 16 0 14 (F 53) (F 54) = some (rows', size') := e4
    rw [e4', k_b2S, m2.1.1, m3.1.1]
    exact e5
  exact ⟨_, _, h1, h2, cur, plan, old, cur, hs, flt, flt, wat, wat, tn, ch, dep, nx, tx, fa, 1, ⟨ha.1, ha.1, ha.2.2.1, ha.2.2.1, ha.2.2.2.2.1, ha.2.2.2.2.2.1, ha.2.2.2.2.2.2.1, ha.2.2.2.2.2.2.2.1, ha.2.2.2.2.2.2.2.2.1, Or.inr rfl⟩, ⟨c1.1, c1.2.1, hC, c1.2.2.2⟩, ⟨c2.1, hF⟩, ⟨c3.1, hW⟩, c4, c5, ⟨c6.1, c6.2.1, c6.2.2.1, c6.2.2.2.1, rfl⟩, ⟨R2.other m1.1 hP (by decide), R2.other m1.2.1 hP (by decide), R2.other m1.2.2.1 hP (by decide), R2.copied m1.1 hP, fun k hk => R2.other (m1.2.2.2.2 k hk) hP (by have := ha.2.2.2.2.2.2.2.1; omega)⟩, ⟨m2.1, rfl, fun i hi => (q1 i hi).trans (m2.1.2 i hi)⟩, ⟨m3.1, rfl, fun i hi => ⟨(q2 i hi).1.trans (m3.1.2 i hi).1, (q2 i hi).2.trans (m3.1.2 i hi).2⟩⟩, m4, ⟨m5.1, m5.2.1, m5.2.2.1, rfl, m5.2.2.2.2⟩⟩

theorem P_restore {fu : Nat} (hfu : 100000 ≤ fu) {I : Nat → Int32} {F : Nat → Nat → Int32} (hI : Inv I F) : ∃ (c9 : Int32 × Int32 × Int32 × Int32 × (Nat → Int32) × (Nat → Int32) × Int32 × Int32 × (Nat → Int32) × (Nat → Int32) × Int32 × Int32 × (Nat → Int32) × (Nat → Int32) × Int32 × Int32 × (Nat → Int32) × (Nat → Int32) × Int32 × Int32 × (Nat → Int32) × (Nat → Int32) × Int32 × (Nat → Int32) × (Nat → Int32) × Int32 × Int32 × (Nat → Int32) × (Nat → Int32) × (Nat → Int32) × (Nat → Int32) × (Nat → Int32) × (Nat → Int32) × Int32 × Int32 × Int32 × Int32 × (Nat → Int32) × (Nat → Int32)) (u9 : Int32 × Int32 × Int32 × Int32 × Int32 × (Nat → Int32) × (Nat → Int32) × (Nat → Int32) × (Nat → Int32) × (Nat → Int32)), f_L_restore fu 60 60 60 60 60 60 60 60 40 40 6 6 1140 1140 6 6 6 6 60 60 60 60 60 60 40 40 6 6 (I 2) (I 44) (F 45) (F 46) (I 46) (F 47) (F 48) (I 48) (F 49) (F 50) (I 49) (F 51) (F 52) (I 0) (I 3) (I 4) (F 0) (F 1) (I 5) (I 6) (F 2) (F 3) (I 7) (I 8) (F 4) (F 5) (I 9) (I 10) (F 6) (F 7) (I 12) (I 29) (F 24) (F 25) (I 35) (F 30) (F 31) (I 36) (I 37) (F 32) (F 33) (F 36) (F 37) (F 38) (F 39) (I 40) (I 41) (I 42) (I 43) (F 42) (F 43) = some c9 ∧ f_X9_restore fu 960 16 40 40 6 6 6 6 (I 56) (I 65) (I 70) (F 58) (F 65) (F 66) (I 50) (I 51) (I 52) (I 53) (I 64) (F 53) (F 54) (F 55) (F 63) (F 64) = some u9 ∧ u9.1 = c9.1 ∧ Inv (gI [c9.2.1, I 1, I 2, c9.2.2.1, c9.2.2.2.1, c9.2.2.2.2.2.2.1, c9.2.2.2.2.2.2.2.1, c9.2.2.2.2.2.2.2.2.2.2.1, c9.2.2.2.2.2.2.2.2.2.2.2.1, c9.2.2.2.2.2.2.2.2.2.2.2.2.2.2.1, c9.2.2.2.2.2.2.2.2.2.2.2.2.2.2.2.1, I 11, c9.2.2.2.2.2.2.2.2.2.2.2.2.2.2.2.2.2.2.1, I 13, I 14, I 15, I 16, I 17, I 18, I 19, I 20, I 21, I 22, I 23, I 24, I 25, I 26, I 27, I 28, c9.2.2.2.2.2.2.2.2.2.2.2.2.2.2.2.2.2.2.2.1, I 30, I 31, I 32, I 33, I 34, c9.2.2.2.2.2.2.2.2.2.2.2.2.2.2.2.2.2.2.2.2.2.2.1, c9.2.2.2.2.2.2.2.2.2.2.2.2.2.2.2.2.2.2.2.2.2.2.2.2.2.1, c9.2.2.2.2.2.2.2.2.2.2.2.2.2.2.2.2.2.2.2.2.2.2.2.2.2.2.1, I 38, I 39, c9.2.2.2.2.2.2.2.2.2.2.2.2.2.2.2.2.2.2.2.2.2.2.2.2.2.2.2.2.2.2.2.2.2.1, c9.2.2.2.2.2.2.2.2.2.2.2.2.2.2.2.2.2.2.2.2.2.2.2.2.2.2.2.2.2.2.2.2.2.2.1, c9.2.2.2.2.2.2.2.2.2.2.2.2.2.2.2.2.2.2.2.2.2.2.2.2.2.2.2.2.2.2.2.2.2.2.2.1, c9.2.2.2.2.2.2.2.2.2.2.2.2.2.2.2.2.2.2.2.2.2.2.2.2.2.2.2.2.2.2.2.2.2.2.2.2.1, I 44, I 45, I 46, I 47, I 48, I 49, u9.1, u9.2.1, u9.2.2.1, u9.2.2.2.1, I 54, I 55, I 56, I 57, I 58, I 59, I 60, I 61, I 62, I 63, u9.2.2.2.2.1, I 65, I 66, I 67, I 68, I 69, I 70]) (gF [c9.2.2.2.2.1, c9.2.2.2.2.2.1, c9.2.2.2.2.2.2.2.2.1, c9.2.2.2.2.2.2.2.2.2.1, c9.2.2.2.2.2.2.2.2.2.2.2.2.1, c9.2.2.2.2.2.2.2.2.2.2.2.2.2.1, c9.2.2.2.2.2.2.2.2.2.2.2.2.2.2.2.2.1, c9.2.2.2.2.2.2.2.2.2.2.2.2.2.2.2.2.2.1, F 8, F 9, F 10, F 11, F 12, F 13, F 14, F 15, F 16, F 17, F 18, F 19, F 20, F 21, F 22, F 23, c9.2.2.2.2.2.2.2.2.2.2.2.2.2.2.2.2.2.2.2.2.1, c9.2.2.2.2.2.2.2.2.2.2.2.2.2.2.2.2.2.2.2.2.2.1, F 26, F 27, F 28, F 29, c9.2.2.2.2.2.2.2.2.2.2.2.2.2.2.2.2.2.2.2.2.2.2.2.1, c9.2.2.2.2.2.2.2.2.2.2.2.2.2.2.2.2.2.2.2.2.2.2.2.2.1, c9.2.2.2.2.2.2.2.2.2.2.2.2.2.2.2.2.2.2.2.2.2.2.2.2.2.2.2.1, c9.2.2.2.2.2.2.2.2.2.2.2.2.2.2.2.2.2.2.2.2.2.2.2.2.2.2.2.2.1, F 34, F 35, c9.2.2.2.2.2.2.2.2.2.2.2.2.2.2.2.2.2.2.2.2.2.2.2.2.2.2.2.2.2.1, c9.2.2.2.2.2.2.2.2.2.2.2.2.2.2.2.2.2.2.2.2.2.2.2.2.2.2.2.2.2.2.1, c9.2.2.2.2.2.2.2.2.2.2.2.2.2.2.2.2.2.2.2.2.2.2.2.2.2.2.2.2.2.2.2.1, c9.2.2.2.2.2.2.2.2.2.2.2.2.2.2.2.2.2.2.2.2.2.2.2.2.2.2.2.2.2.2.2.2.1, F 40, F 41, c9.2.2.2.2.2.2.2.2.2.2.2.2.2.2.2.2.2.2.2.2.2.2.2.2.2.2.2.2.2.2.2.2.2.2.2.2.2.1, c9.2.2.2.2.2.2.2.2.2.2.2.2.2.2.2.2.2.2.2.2.2.2.2.2.2.2.2.2.2.2.2.2.2.2.2.2.2.2, F 44, F 45, F 46, F 47, F 48, F 49, F 50, F 51, F 52, u9.2.2.2.2.2.1, u9.2.2.2.2.2.2.1, u9.2.2.2.2.2.2.2.1, F 56, F 57, F 58, F 59, F 60, F 61, F 62, u9.2.2.2.2.2.2.2.2.1, u9.2.2.2.2.2.2.2.2.2, F 65, F 66, F 67]) := by
  obtain ⟨cur, plan, old, sav, hs, flt, sfl, wat, swa, tn, ch, dep, nx, tx, fa, sv, ha, c1, c2, c3, c4, c5, c6, m1, m2, m3, m4, m5⟩ := hI
  have tb := R2.tb m1.2.2.2.1
  have e2v : I 2 = sv := c6.2.2.2.2
  have e70 : I 70 = sv := m5.2.2.2.1
  rcases ha.2.2.2.2.2.2.2.2.2 with z | z
  · have h1 : f_L_restore fu 60 60 60 60 60 60 60 60 40 40 6 6 1140 1140 6 6 6 6 60 60 60 60 60 60 40 40 6 6 (I 2) (I 44) (F 45) (F 46) (I 46) (F 47) (F 48) (I 48) (F 49) (F 50) (I 49) (F 51) (F 52) (I 0) (I 3) (I 4) (F 0) (F 1) (I 5) (I 6) (F 2) (F 3) (I 7) (I 8) (F 4) (F 5) (I 9) (I 10) (F 6) (F 7) (I 12) (I 29) (F 24) (F 25) (I 35) (F 30) (F 31) (I 36) (I 37) (F 32) (F 33) (F 36) (F 37) (F 38) (F 39) (I 40) (I 41) (I 42) (I 43) (F 42) (F 43) = some (1, I 0, I 3, I 4, F 0, F 1, I 5, I 6, F 2, F 3, I 7, I 8, F 4, F 5, I 9, I 10, F 6, F 7, I 12, I 29, F 24, F 25, I 35, F 30, F 31, I 36, I 37, F 32, F 33, F 36, F 37, F 38, F 39, I 40, I 41, I 42, I 43, F 42, F 43) := by
      unfold f_L_restore f_X8_restore
      rw [if_pos (e2v.trans z)]
      rfl
    have h2 : f_X9_restore fu 960 16 40 40 6 6 6 6 (I 56) (I 65) (I 70) (F 58) (F 65) (F 66) (I 50) (I 51) (I 52) (I 53) (I 64) (F 53) (F 54) (F 55) (F 63) (F 64) = some (1, I 51, I 52, I 53, I 64, F 53, F 54, F 55, F 63, F 64) := by
      unfold f_X9_restore f_X9_restore_13
      rw [if_pos (e70.trans z), if_pos (e70.trans z)]
    exact ⟨_, _, h1, h2, rfl, cur, plan, old, sav, hs, flt, sfl, wat, swa, tn, ch, dep, nx, tx, fa, sv, ha, c1, c2, c3, c4, c5, c6, m1, m2, m3, m4, m5⟩
  · obtain ⟨s1, t1, k1, d1, s2, t2, k2, d2, e1, hC⟩ := f_copy5 hfu c1.2.2.1 (I 3) (I 4) (F 0) (F 1) (I 5) (I 6) (F 2) (F 3)
    obtain ⟨fs', ft', fu', e2, hF⟩ := f_copy1 hfu ha.2.1.1 c2.2 (I 29) (F 24) (F 25)
    obtain ⟨ws', wt', wu', e3, hW⟩ := f_copy7 hfu ha.2.2.2.1 c3.2 (I 35) (F 30) (F 31)
    obtain ⟨p1, p2, p3, p4, p5, p6, p7, p8, e4, hD⟩ := f_copy5 hfu hC (I 7) (I 8) (F 4) (F 5) (I 9) (I 10) (F 6) (F 7)
    obtain ⟨js, jt, jcod, jcnt, ts', tu', os', ou', ds, dt, dcod, dcnt, e5, hJ, hT, hO, hG⟩ := f_startAnew (s1 := I 36) (t1 := I 37) (x1 := F 32) (x2 := F 33) (ts := F 36) (tu := F 37) (os := F 38) (ou := F 39) (cs := I 40) (ct := I 41) (s2 := I 42) (t2 := I 43) (y1 := F 42) (y2 := F 43) hfu hC.1 hC.2 tb.1 tb.2 (HM.of hfu ha.2.1 hF)
    have h1 : f_L_restore fu 60 60 60 60 60 60 60 60 40 40 6 6 1140 1140 6 6 6 6 60 60 60 60 60 60 40 40 6 6 (I 2) (I 44) (F 45) (F 46) (I 46) (F 47) (F 48) (I 48) (F 49) (F 50) (I 49) (F 51) (F 52) (I 0) (I 3) (I 4) (F 0) (F 1) (I 5) (I 6) (F 2) (F 3) (I 7) (I 8) (F 4) (F 5) (I 9) (I 10) (F 6) (F 7) (I 12) (I 29) (F 24) (F 25) (I 35) (F 30) (F 31) (I 36) (I 37) (F 32) (F 33) (F 36) (F 37) (F 38) (F 39) (I 40) (I 41) (I 42) (I 43) (F 42) (F 43) = some (0, 0, s1, t1, k1, d1, s2, t2, k2, d2, p1, p2, p3, p4, p5, p6, p7, p8, 0, fs', ft', fu', ws', wt', wu', js, jt, jcod, jcnt, ts', tu', os', ou', 0, 0, ds, dt, dcod, dcnt) := by
      unfold f_L_restore f_X8_restore f_X8_emptyBatch f_X4_clear
      rw [if_neg (show ¬ I 2 = 0 by rw [e2v, z]; decide), e1, k_b8S, e2, k_b3S, e3, k_b3S, e4, k_b8S, k_b9S, k_b1S, e5, k_b14S]
      rfl
    obtain ⟨r1, z1, g1, hP1⟩ := f_copies (rows := F 53) (size := F 54) (a := 14) (b := 0) hfu (by decide) (by decide) (by decide)
    obtain ⟨r2, z2, g2, hP2⟩ := f_copies (rows := r1) (size := z1) (a := 0) (b := 2) hfu (by decide) (by decide) (by decide)
    obtain ⟨r3, z3, g3, hP3⟩ := f_copies (rows := r2) (size := z2) (a := 0) (b := 4) hfu (by decide) (by decide) (by decide)
    obtain ⟨f9, s9, u9, g4, q1, q2⟩ := f_rest64 (fu := fu) (sfs := nI sfl.1) (sws := nI swa.1) (isv := I 70) (sf := F 58) (sg := F 65) (sb := F 66) (x2 := 0) (x3 := 0) (x4 := 0) (rows := r3) (size := z3) (wg := F 63) (wb := F 64) hfu ha.2.1.1 ha.2.2.2.1.1 sfl.1 fu 0 (F 55) (by omega) (by have := ha.2.1.1; omega) (fun i hi => by omega)
    have h2 : f_X9_restore fu 960 16 40 40 6 6 6 6 (I 56) (I 65) (I 70) (F 58) (F 65) (F 66) (I 50) (I 51) (I 52) (I 53) (I 64) (F 53) (F 54) (F 55) (F 63) (F 64) = some (0, 0, 0, nI sfl.1, nI swa.1, r3, z3, f9, s9, u9) := by
      unfold f_X9_restore f_X9_restore_13 f_X9_empties
      have g1' : f_X9_copies fu 960 16 14 0 (F 53) (F 54) = some (r1, z1) := g1
      have g2' : f_X9_copies fu 960 16 0 2 r1 z1 = some (r2, z2) := g2
      have g3' : f_X9_copies fu 960 16 0 4 r2 z2 = some (r3, z3) := g3
      have ne : ¬ I 70 = 0 := by rw [e70, z]; decide
      rw [if_neg ne, if_neg ne, g1', k_b2S, g2', k_b2S, k_b3S, g3', k_b2S, m2.2.1, m3.2.1]
      exact g4
    have z0 : (fun c => JF sfl sav c - JF sfl sav c) = fun _ => 0 := funext fun c => Int.sub_self _
    have hZ : CR 2280 106980 (fun c => JF sfl sav c - JF sfl sav c) 0 0 (F 40) (F 41) := by rw [z0]; exact CR.empty 2280 106980 (F 40) (F 41)
    have a1 := R2.copied m1.2.2.2.1 hP1
    have a14 := R2.other m1.2.2.2.1 hP1 (by decide)
    have b0 := R2.other a1 hP2 (by decide)
    have b2 := R2.copied a1 hP2
    have b14 := R2.other a14 hP2 (by decide)
    have d0 := R2.other b0 hP3 (by decide)
    have d2' := R2.other b2 hP3 (by decide)
    have d4 := R2.copied b0 hP3
    have d14 := R2.other b14 hP3 (by decide)
    exact ⟨_, _, h1, h2, rfl, sav, sav, sav, sav, hs, sfl, sfl, swa, swa, tn, 0, 0, nx, tx, fa, sv, ⟨ha.2.1, ha.2.1, ha.2.2.2.1, ha.2.2.2.1, ha.2.2.2.2.1, ha.2.2.2.2.2.1, Nat.zero_le _, Nat.zero_le _, ha.2.2.2.2.2.2.2.2⟩, ⟨hC, hD, c1.2.2⟩, ⟨hF, c2.2⟩, ⟨hW, c3.2⟩, c4, ⟨hJ, hT, hO, hZ, hG⟩, ⟨rfl, rfl, c6.2.2⟩, ⟨d0, d2', d4, d14, fun k hk => absurd hk (Nat.not_lt_zero k)⟩, ⟨⟨rfl, fun i hi => (q1 i hi).trans (m2.2.2 i hi)⟩, m2.2⟩, ⟨⟨rfl, fun i hi => ⟨(q2 i hi).1.trans (m3.2.2 i hi).1, (q2 i hi).2.trans (m3.2.2 i hi).2⟩⟩, m3.2⟩, m4, ⟨rfl, rfl, m5.2.2⟩⟩
