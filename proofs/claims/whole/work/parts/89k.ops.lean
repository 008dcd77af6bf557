theorem psK_q {tn : Nat} {tx : Nat → Nat} {p : Nat} (hp : p ≤ tn) : (psK tn tx p).2.1 ≤ tn + 3 := by
  cases h : (psK tn tx p).1 with
  | true => have := psK_b h; omega
  | false =>
    have hq : psQ tn tx p ≤ p + 3 := by unfold psQ; split <;> omega
    unfold psK at h ⊢
    by_cases h1 : psN (psC tn tx p) < 5
    · rw [if_pos h1] at h ⊢
      by_cases h2 : psR (psC tn tx (p + 1)) < 3
      · rw [if_pos h2] at h ⊢
        by_cases h3 : psD (psC tn tx (psQ tn tx p)) = true
        · rw [if_pos h3] at h; cases h
        · rw [if_neg h3]; show psQ tn tx p ≤ tn + 3; omega
      · rw [if_neg h2]; show p + 1 ≤ tn + 3; omega
    · rw [if_neg h1]; show p ≤ tn + 3; omega
theorem psA_q {tn : Nat} {tx : Nat → Nat} : ∀ (n : Nat) (m : Bool) (p : Nat) (W : List Nat) (O : F3), p ≤ tn → (psA tn tx n m p W O).2.1 ≤ tn + 3 := by
  have fin : ∀ (m : Bool) (p : Nat) (W : List Nat) (O : F3), p ≤ tn → (psF m p W O).2.1 ≤ tn + 3 := by
    intro m p W O h
    unfold psF
    by_cases e : m = true ∧ psZ W = 0
    · rw [if_pos e]; show p ≤ tn + 3; omega
    · rw [if_neg e]; show p ≤ tn + 3; omega
  intro n
  induction n with
  | zero => intro m p W O h; exact fin m p W O h
  | succ n ih =>
    intro m p W O h
    rw [psA_s]
    by_cases e : tn ≤ p
    · rw [if_pos e]; exact fin m p W O h
    · rw [if_neg e]
      cases m with
      | false =>
        rw [if_pos rfl]
        by_cases e1 : psC tn tx p = 33
        · rw [if_pos e1]; exact ih _ _ _ _ (by omega)
        · rw [if_neg e1]
          by_cases e2 : psC tn tx p = 40
          · rw [if_pos e2]; exact ih _ _ _ _ (by omega)
          · rw [if_neg e2]
            by_cases e3 : (psK tn tx p).1 = true
            · rw [if_pos e3]; exact ih _ _ _ _ (psK_b e3).2.1
            · rw [if_neg e3]; exact psK_q h
      | true =>
        rw [if_neg (by decide)]
        by_cases e1 : psC tn tx p = 38
        · rw [if_pos e1]; exact ih _ _ _ _ (by omega)
        · rw [if_neg e1]
          by_cases e2 : psC tn tx p = 124
          · rw [if_pos e2]; exact ih _ _ _ _ (by omega)
          · rw [if_neg e2]
            by_cases e3 : psC tn tx p = 41 ∧ 0 < psZ W
            · rw [if_pos e3]; exact ih _ _ _ _ (by omega)
            · rw [if_neg e3]; show p ≤ tn + 3; omega
theorem f_sf51 {fu N : Nat} {text : Nat → Int32} (hN : N ≤ 40) {x1 x2 x4 x5 x6 x7 x8 : Int32} {rows size made pend stack : Nat → Int32} : ∀ (d G j : Nat) (filter : Nat → Int32), d + j = N → d < G → (∀ i, i < j → filter i = made i) →
    ∃ filter', f_X9_setFilter_51 fu 960 16 40 40 40 40 40 text G (nI j) x1 x2 (nI N) x4 x5 x6 x7 x8 rows size filter made pend stack = f_X9_setFilter_77 fu 960 16 40 40 40 40 40 text x1 x2 (nI N) x4 x5 x6 x7 x8 rows size filter' made pend stack ∧ ∀ i, i < N → filter' i = made i := by
  intro d
  induction d with
  | zero =>
    intro G j filter h1 h2 h3
    obtain ⟨G', rfl⟩ : ∃ G', G = G' + 1 := ⟨G - 1, by omega⟩
    have : j = N := by omega
    subst this
    exact ⟨filter, by rw [fs_X9_setFilter_51, if_pos (show nI j ≤ nI j by rw [q_le (by omega) (by omega)]; omega)], h3⟩
  | succ d ih =>
    intro G j filter h1 h2 h3
    obtain ⟨G', rfl⟩ : ∃ G', G = G' + 1 := ⟨G - 1, by omega⟩
    have i4 := nI_in (c := j) (N := 40) (by omega) (by decide)
    rw [fs_X9_setFilter_51, if_neg (show ¬ nI N ≤ nI j by rw [q_le (by omega) (by omega)]; omega), if_pos i4, k_letS, if_pos i4, q_cl (by omega), q_1, q_add, k_letS]
    refine ih G' (j + 1) _ (by omega) (by omega) (fun i hi => ?_)
    rw [q_upd]
    by_cases e : i = j
    · rw [if_pos e, e]
    · rw [if_neg e]; exact h3 i (by omega)

theorem P_setFilter {fu : Nat} (hfu : 100000 ≤ fu) {I : Nat → Int32} {F : Nat → Nat → Int32} (hI : Inv I F) (out : Nat → Int64) : ∃ (c9 : Int32 × Int32 × Int32 × (Nat → Int32) × (Nat → Int32) × Int32 × Int32 × Int32 × Int32 × (Nat → Int32) × Int32 × (Nat → Int32) × (Nat → Int32) × Int32 × Int32 × (Nat → Int32) × (Nat → Int32) × (Nat → Int32) × (Nat → Int32) × (Nat → Int32) × (Nat → Int32) × Int32 × Int32 × Int32 × Int32 × (Nat → Int32) × (Nat → Int32) × (Nat → Int64)) (u9 : Int32 × Int32 × Int32 × Int32 × Int32 × Int32 × Int32 × Int32 × Int32 × (Nat → Int32) × (Nat → Int32) × (Nat → Int32) × (Nat → Int32) × (Nat → Int32) × (Nat → Int32)), f_L_setFilter fu 60 60 60 60 40 40 40 40 40 40 1140 1140 6 6 6 6 60 60 1 (I 3) (F 0) (F 1) (I 5) (F 2) (F 3) (F 26) (I 1) (I 29) (F 24) (F 25) (I 30) (I 31) (I 32) (I 33) (F 27) (I 34) (F 28) (F 29) (I 36) (I 37) (F 32) (F 33) (F 36) (F 37) (F 38) (F 39) (I 40) (I 41) (I 42) (I 43) (F 42) (F 43) out = some c9 ∧ f_X9_setFilter fu 960 16 40 40 40 40 40 (F 67) (I 50) (I 53) (I 54) (I 55) (I 66) (I 67) (I 68) (I 69) (F 53) (F 54) (F 55) (F 56) (F 57) (F 59) = some u9 ∧ u9.2.1 = c9.1 ∧ (c9.1 = 0 → c9.2.2.2.2.2.2.2.2.2.2.2.2.2.2.2.2.2.2.2.2.2.2.2.2.2.2.2 0 = u9.1.toInt64) ∧ Inv (gI [I 0, c9.2.1, I 2, I 3, I 4, I 5, I 6, I 7, I 8, I 9, I 10, I 11, I 12, I 13, I 14, I 15, I 16, I 17, I 18, I 19, I 20, I 21, I 22, I 23, I 24, I 25, I 26, I 27, I 28, c9.2.2.1, c9.2.2.2.2.2.1, c9.2.2.2.2.2.2.1, c9.2.2.2.2.2.2.2.1, c9.2.2.2.2.2.2.2.2.1, c9.2.2.2.2.2.2.2.2.2.2.1, I 35, c9.2.2.2.2.2.2.2.2.2.2.2.2.2.1, c9.2.2.2.2.2.2.2.2.2.2.2.2.2.2.1, I 38, I 39, c9.2.2.2.2.2.2.2.2.2.2.2.2.2.2.2.2.2.2.2.2.2.1, c9.2.2.2.2.2.2.2.2.2.2.2.2.2.2.2.2.2.2.2.2.2.2.1, c9.2.2.2.2.2.2.2.2.2.2.2.2.2.2.2.2.2.2.2.2.2.2.2.1, c9.2.2.2.2.2.2.2.2.2.2.2.2.2.2.2.2.2.2.2.2.2.2.2.2.1, I 44, I 45, I 46, I 47, I 48, I 49, u9.2.1, I 51, I 52, u9.2.2.1, u9.2.2.2.1, u9.2.2.2.2.1, I 56, I 57, I 58, I 59, I 60, I 61, I 62, I 63, I 64, I 65, u9.2.2.2.2.2.1, u9.2.2.2.2.2.2.1, u9.2.2.2.2.2.2.2.1, u9.2.2.2.2.2.2.2.2.1, I 70]) (gF [F 0, F 1, F 2, F 3, F 4, F 5, F 6, F 7, F 8, F 9, F 10, F 11, F 12, F 13, F 14, F 15, F 16, F 17, F 18, F 19, F 20, F 21, F 22, F 23, c9.2.2.2.1, c9.2.2.2.2.1, F 26, c9.2.2.2.2.2.2.2.2.2.1, c9.2.2.2.2.2.2.2.2.2.2.2.1, c9.2.2.2.2.2.2.2.2.2.2.2.2.1, F 30, F 31, c9.2.2.2.2.2.2.2.2.2.2.2.2.2.2.2.1, c9.2.2.2.2.2.2.2.2.2.2.2.2.2.2.2.2.1, F 34, F 35, c9.2.2.2.2.2.2.2.2.2.2.2.2.2.2.2.2.2.1, c9.2.2.2.2.2.2.2.2.2.2.2.2.2.2.2.2.2.2.1, c9.2.2.2.2.2.2.2.2.2.2.2.2.2.2.2.2.2.2.2.1, c9.2.2.2.2.2.2.2.2.2.2.2.2.2.2.2.2.2.2.2.2.1, F 40, F 41, c9.2.2.2.2.2.2.2.2.2.2.2.2.2.2.2.2.2.2.2.2.2.2.2.2.2.1, c9.2.2.2.2.2.2.2.2.2.2.2.2.2.2.2.2.2.2.2.2.2.2.2.2.2.2.1, F 44, F 45, F 46, F 47, F 48, F 49, F 50, F 51, F 52, u9.2.2.2.2.2.2.2.2.2.1, u9.2.2.2.2.2.2.2.2.2.2.1, u9.2.2.2.2.2.2.2.2.2.2.2.1, u9.2.2.2.2.2.2.2.2.2.2.2.2.1, u9.2.2.2.2.2.2.2.2.2.2.2.2.2.1, F 58, u9.2.2.2.2.2.2.2.2.2.2.2.2.2.2, F 60, F 61, F 62, F 63, F 64, F 65, F 66, F 67]) := by
  obtain ⟨cur, plan, old, sav, hs, flt, sfl, wat, swa, tn, ch, dep, nx, tx, fa, sv, ha, c1, c2, c3, c4, c5, c6, m1, m2, m3, m4, m5⟩ := hI
  have tb := R2.tb m1.1
  have ht := ha.2.2.2.2.1
  have hx := ha.2.2.2.2.2.1
  have hT1 : psT tn tx (F 26) := ⟨ht, hx, c4.2⟩
  have hT2 : psT tn tx (F 67) := ⟨ht, hx, m4.2⟩
  have e30 : I 30 = nI tn := c4.1
  have e66 : I 66 = nI tn := m4.1
  obtain ⟨a1, a2, a3, a4, a5, a6, a7, e1, hFC⟩ := f_readText hfu hT1 (I 31) (I 32) (I 33) (F 27) (I 34) (F 28) (F 29) (0, flt.2) rfl
  have hM0 : FM 0 flt.2.1 flt.2.2 (nI 0) (F 56) := ⟨rfl, fun i h => absurd h (Nat.not_lt_zero i)⟩
  obtain ⟨r, ms, ps, at9, pr, made', pend', e2, hok, hno⟩ := f_t20 (fu := fu) hfu hT2 40 40 fu 0 [] (0, flt.2) (F 56) (F 57) (by omega) (by omega) (by omega) (by omega) trivial (Nat.le_refl _) (Nat.zero_le _) trivial hM0
  have hFW := psA_W (tx := tx) ht 40 false 0 [] (0, flt.2) trivial (Nat.le_refl _) (Nat.zero_le _) ⟨fun i h => absurd h (Nat.not_lt_zero i), fun i h => by
    have h' : i ≤ 0 := h
    have : i = 0 := by omega
    subst this
    exact Nat.le_refl _, rfl⟩
  have hq := psA_q (tx := tx) (tn := tn) 40 false 0 [] (0, flt.2) (Nat.zero_le _)
  have e2' : f_X9_takesText fu 40 40 40 (nI tn) (F 67) (I 54) (I 55) (I 67) (I 68) (F 56) (F 57) = some (r, ms, ps, at9, pr, made', pend') := e2
  generalize psA tn tx 40 false 0 [] (0, flt.2) = A at e1 hFC hok hno hFW hq
  obtain ⟨ok, q, N, st, nu⟩ := A
  have t0c : TE 0 tx 0 (F 26) := ⟨rfl, fun i h => absurd h (Nat.not_lt_zero i)⟩
  have t0m : TE 0 tx 0 (F 67) := ⟨rfl, fun i h => absurd h (Nat.not_lt_zero i)⟩
  cases ok with
  | true =>
    have hW : FW N st nu := hFW rfl
    have hC : FC N st nu a5 a6 a7 := hFC rfl
    obtain ⟨hr, hms, hmd⟩ := hok rfl
    have hms' : ms = nI N := hms
    have e1' : f_X2_readText fu 40 40 40 40 (nI tn) (F 26) (I 31) (I 32) (I 33) (F 27) (I 34) (F 28) (F 29) = some (0, -1, a1, a2, a3, a4, a5, a6, a7) := e1
    obtain ⟨fs', ft', fu', e3, hF⟩ := f_copy1 hfu hW.1 hC (I 29) (F 24) (F 25)
    obtain ⟨js, jt, jcod, jcnt, ts', tu', os', ou', ds, dt, dcod, dcnt, e4, hJ, hT, hO, hG⟩ := f_startAnew (s1 := I 36) (t1 := I 37) (x1 := F 32) (x2 := F 33) (ts := F 36) (tu := F 37) (os := F 38) (ou := F 39) (cs := I 40) (ct := I 41) (s2 := I 42) (t2 := I 43) (y1 := F 42) (y2 := F 43) hfu c1.1.1 c1.1.2 tb.1 tb.2 (HM.of hfu hW hF)
    have h1 : f_L_setFilter fu 60 60 60 60 40 40 40 40 40 40 1140 1140 6 6 6 6 60 60 1 (I 3) (F 0) (F 1) (I 5) (F 2) (F 3) (F 26) (I 1) (I 29) (F 24) (F 25) (I 30) (I 31) (I 32) (I 33) (F 27) (I 34) (F 28) (F 29) (I 36) (I 37) (F 32) (F 33) (F 36) (F 37) (F 38) (F 39) (I 40) (I 41) (I 42) (I 43) (F 42) (F 43) out = some (0, -1, fs', ft', fu', 0, a1, a2, a3, a4, a5, a6, a7, js, jt, jcod, jcnt, ts', tu', os', ou', 0, 0, ds, dt, dcod, dcnt, vp_updL out (0 : Int32).toNatClampNeg jt.toInt64) := by
      unfold f_L_setFilter f_X8_setFilter f_X2_clear f_X2_draft f_X6_join f_X0_total
      rw [e30, e1', k_b9S, if_pos rfl, k_b1S, if_pos rfl, k_b1S, e3, k_b3S, e4, k_b14S, k_b1S, k_b1S]
      rfl
    obtain ⟨rows', size', g1, hP⟩ := f_copies (rows := F 53) (size := F 54) (a := 0) (b := 4) hfu (by decide) (by decide) (by decide)
    have g1' : f_X9_copies fu 960 16 0 4 (F 53) (F 54) = some (rows', size') := g1
    have hN40 := hW.1
    obtain ⟨f9, g2, hf9⟩ := f_sf51 (fu := fu) (text := F 67) hN40 (x1 := 0) (x2 := nI N) (x4 := ps) (x5 := 0) (x6 := at9) (x7 := pr) (x8 := -1) (rows := F 53) (size := F 54) (made := made') (pend := pend') (stack := F 59) N fu 0 (F 55) (by omega) (by omega) (fun i hi => absurd hi (Nat.not_lt_zero i))
    have hFM9 : FM N st nu (nI N) f9 := ⟨rfl, fun i hi => (hf9 i hi).trans (hmd i hi)⟩
    have n0 := R2.other m1.1 hP (show 0 + 1 < 4 ∨ 4 + 1 < 0 by decide)
    obtain ⟨st', g3⟩ := f_pairs hfu n0 (HM9.of hfu hW hFM9) (F 59)
    have ejt : zI (fb_si (JJ (MT N st nu) cur.1 cur.2) 106980) = jt := by
      obtain ⟨n, k, _, e, _⟩ := hJ
      exact e.symm
    rw [ejt] at g3
    have h2 : f_X9_setFilter fu 960 16 40 40 40 40 40 (F 67) (I 50) (I 53) (I 54) (I 55) (I 66) (I 67) (I 68) (I 69) (F 53) (F 54) (F 55) (F 56) (F 57) (F 59) = some (jt, 0, nI N, nI N, ps, 0, at9, pr, -1, rows', size', f9, made', pend', st') := by
      unfold f_X9_setFilter
      rw [e66, e2', k_b7S, if_neg (show ¬ r = 0 by rw [hr]; decide)]
      unfold f_X9_setFilter_23
      have g2' : f_X9_setFilter_51 fu 960 16 40 40 40 40 40 (F 67) fu 0 0 (nI N) (nI N) ps 0 at9 pr (-1) (F 53) (F 54) (F 55) made' pend' (F 59) = _ := g2
      rw [if_neg (show ¬ r = 0 by rw [hr]; decide), hms', g2']
      unfold f_X9_setFilter_77
      rw [g1', k_b2S, g3, k_b2S]
    have z0 : (fun c => JF (N, st, nu) cur c - JF (N, st, nu) cur c) = fun _ => 0 := funext fun c => Int.sub_self _
    have hZ : CR 2280 106980 (fun c => JF (N, st, nu) cur c - JF (N, st, nu) cur c) 0 0 (F 40) (F 41) := by rw [z0]; exact CR.empty 2280 106980 (F 40) (F 41)
    exact ⟨_, _, h1, h2, rfl, fun _ => rfl, cur, plan, cur, sav, hs, (N, st, nu), sfl, wat, swa, 0, ch, dep, nx, tx, -1, sv, ⟨hW, ha.2.1, ha.2.2.1, ha.2.2.2.1, Nat.zero_le _, fun i h => absurd h (Nat.not_lt_zero i), ha.2.2.2.2.2.2⟩, c1, ⟨hF, c2.2⟩, c3, t0c, ⟨hJ, hT, hO, hZ, hG⟩, ⟨c6.1, c6.2.1, c6.2.2.1, rfl, c6.2.2.2.2⟩, ⟨n0, R2.other m1.2.1 hP (by decide), R2.copied m1.1 hP, R2.other m1.2.2.2.1 hP (by decide), fun k hk => R2.other (m1.2.2.2.2 k hk) hP (by omega)⟩, ⟨hFM9, m2.2⟩, m3, t0m, ⟨m5.1, m5.2.1, rfl, m5.2.2.2.1, m5.2.2.2.2⟩⟩
  | false =>
    obtain ⟨hr, hat⟩ := hno rfl
    have hat' : at9 = nI q := hat
    have hq' : q ≤ tn + 3 := hq
    have e1' : f_X2_readText fu 40 40 40 40 (nI tn) (F 26) (I 31) (I 32) (I 33) (F 27) (I 34) (F 28) (F 29) = some (0, nI q, a1, a2, a3, a4, a5, a6, a7) := e1
    have nq : ¬ nI q = -1 := fun z => by
      have := nI_pos (n := q) (by omega)
      rw [z] at this
      exact absurd (by decide) this
    have h1 : f_L_setFilter fu 60 60 60 60 40 40 40 40 40 40 1140 1140 6 6 6 6 60 60 1 (I 3) (F 0) (F 1) (I 5) (F 2) (F 3) (F 26) (I 1) (I 29) (F 24) (F 25) (I 30) (I 31) (I 32) (I 33) (F 27) (I 34) (F 28) (F 29) (I 36) (I 37) (F 32) (F 33) (F 36) (F 37) (F 38) (F 39) (I 40) (I 41) (I 42) (I 43) (F 42) (F 43) out = some (1, nI q, I 29, F 24, F 25, 0, a1, a2, a3, a4, a5, a6, a7, I 36, I 37, F 32, F 33, F 36, F 37, F 38, F 39, I 40, I 41, I 42, I 43, F 42, F 43, out) := by
      unfold f_L_setFilter f_X8_setFilter f_X2_clear
      rw [e30, e1', k_b9S, if_pos rfl, k_b1S, if_neg nq]
      rfl
    have h2 : f_X9_setFilter fu 960 16 40 40 40 40 40 (F 67) (I 50) (I 53) (I 54) (I 55) (I 66) (I 67) (I 68) (I 69) (F 53) (F 54) (F 55) (F 56) (F 57) (F 59) = some (0, 1, I 53, ms, ps, 0, nI q, pr, nI q, F 53, F 54, F 55, made', pend', F 59) := by
      unfold f_X9_setFilter
      rw [e66, e2', k_b7S, if_pos hr]
      unfold f_X9_setFilter_23 f_X9_fails
      rw [if_pos hr, k_b2S, hat']
    exact ⟨_, _, h1, h2, rfl, fun z => absurd (show (1 : Int32) = 0 from z) (by decide), cur, plan, old, sav, hs, flt, sfl, wat, swa, 0, ch, dep, nx, tx, nI q, sv, ⟨ha.1, ha.2.1, ha.2.2.1, ha.2.2.2.1, Nat.zero_le _, fun i h => absurd h (Nat.not_lt_zero i), ha.2.2.2.2.2.2⟩, c1, c2, c3, t0c, c5, ⟨c6.1, c6.2.1, c6.2.2.1, rfl, c6.2.2.2.2⟩, m1, m2, m3, t0m, ⟨m5.1, m5.2.1, rfl, m5.2.2.2.1, m5.2.2.2.2⟩⟩
