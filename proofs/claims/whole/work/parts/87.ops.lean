theorem k_b10S {t0 t1 t2 t3 t4 t5 t6 t7 t8 t9 γ : Type} (x0 : t0) (x1 : t1) (x2 : t2) (x3 : t3) (x4 : t4) (x5 : t5) (x6 : t6) (x7 : t7) (x8 : t8) (x9 : t9) (f : t0 → t1 → t2 → t3 → t4 → t5 → t6 → t7 → t8 → t9 → Option γ) : k_b10 (some (x0, x1, x2, x3, x4, x5, x6, x7, x8, x9)) f = f x0 x1 x2 x3 x4 x5 x6 x7 x8 x9 := rfl
theorem k_b14S {t0 t1 t2 t3 t4 t5 t6 t7 t8 t9 t10 t11 t12 t13 γ : Type} (x0 : t0) (x1 : t1) (x2 : t2) (x3 : t3) (x4 : t4) (x5 : t5) (x6 : t6) (x7 : t7) (x8 : t8) (x9 : t9) (x10 : t10) (x11 : t11) (x12 : t12) (x13 : t13) (f : t0 → t1 → t2 → t3 → t4 → t5 → t6 → t7 → t8 → t9 → t10 → t11 → t12 → t13 → Option γ) : k_b14 (some (x0, x1, x2, x3, x4, x5, x6, x7, x8, x9, x10, x11, x12, x13)) f = f x0 x1 x2 x3 x4 x5 x6 x7 x8 x9 x10 x11 x12 x13 := rfl
theorem f_copy3_loop {fu : Nat} {m : Nat → Int} {sizes1 sums1 : Nat → Int32} (h : TT m sizes1 sums1) : ∀ (d G j : Nat) (sizes sums : Nat → Int32), d + j = 6 → d < G → (∀ g, g < j → sizes g = zI (GS m g) ∧ sums g = zI (GT m g)) →
    ∃ s' u', f_X3_copyFrom_2 fu 6 6 6 6 sizes1 sums1 G (nI j) sizes sums = some (s', u') ∧ TT m s' u' := by
  intro d
  induction d with
  | zero =>
    intro G j sizes sums h1 h2 h3
    obtain ⟨G', rfl⟩ : ∃ G', G = G' + 1 := ⟨G - 1, by omega⟩
    have : j = 6 := by omega
    subst this
    exact ⟨sizes, sums, by rw [fs_X3_copyFrom_2, if_pos (show nI 6 ≤ nI 6 by decide)], h3⟩
  | succ d ih =>
    intro G j sizes sums h1 h2 h3
    obtain ⟨G', rfl⟩ : ∃ G', G = G' + 1 := ⟨G - 1, by omega⟩
    have hj : j < 6 := by omega
    have le : ¬ nI 6 ≤ nI j := by rw [q_le (by omega) (by omega)]; omega
    rw [fs_X3_copyFrom_2, if_neg le, if_neg le, f_sizeOf hj h, k_b1S, f_sumOf hj h, if_pos (nI_in (c := j) (N := 6) hj (by decide)), k_b1S, if_pos (nI_in (c := j) (N := 6) hj (by decide)), k_letS, q_cl (by omega), q_1, q_add]
    refine ih G' (j + 1) _ _ (by omega) (by omega) (fun g hg => ?_)
    rw [q_upd, q_upd]
    by_cases e : g = j
    · rw [if_pos e, if_pos e, e]; exact ⟨rfl, rfl⟩
    · rw [if_neg e, if_neg e]; exact h3 g (by omega)
theorem f_startAnew {fu : Nat} {mL mR : Nat → Int} {c1 d1 c3 d3 fsteps fnums : Nat → Int32} {fsize : Int32} {mt : Nat → Nat → Bool} {lsize ltotal rsize rtotal s1 t1 s2 t2 cs ct : Int32} {x1 x2 ts tu os ou y1 y2 : Nat → Int32} (hfu : 100000 ≤ fu) (hL : CR 60 11940 mL lsize ltotal c1 d1) (hR : CR 60 190 mR rsize rtotal c3 d3) (hLb : TB 11940 mL) (hRb : TB 190 mR) (hH : HM fu mt fsize fsteps fnums) :
    ∃ js jt jcod jcnt ts' tu' os' ou' ds dt dcod dcnt, f_X6_startAnew fu 1140 1140 6 6 6 6 60 60 60 60 60 60 40 40 lsize c1 d1 rsize c3 d3 fsize fsteps fnums s1 t1 x1 x2 ts tu os ou cs ct s2 t2 y1 y2 = some (js, jt, jcod, jcnt, ts', tu', os', ou', 0, 0, ds, dt, dcod, dcnt) ∧ CR 1140 106980 (JJ mt mL mR) js jt jcod jcnt ∧ TT (JJ mt mL mR) ts' tu' ∧ TT (JJ mt mL mR) os' ou' ∧ CR 60 11940 (DG mt mL mR) ds dt dcod dcnt := by
  obtain ⟨js, jt, jcod, jcnt, ts', tu', ds, dt, dcod, dcnt, e1, h1, h2, h3⟩ := f_rebuild (s1 := s1) (t1 := t1) (s2 := s2) (t2 := t2) (x1 := x1) (x2 := x2) (ts := ts) (tu := tu) (y1 := y1) (y2 := y2) hfu hL hR hLb hRb hH
  obtain ⟨os', ou', e2, h4⟩ := f_copy3_loop (fu := fu) h2 6 fu 0 os ou (by omega) (by omega) (fun g hg => by omega)
  refine ⟨js, jt, jcod, jcnt, ts', tu', os', ou', ds, dt, dcod, dcnt, ?_, h1, h2, h4, h3⟩
  unfold f_X6_startAnew f_X0_clear f_X3_copyFrom
  have e2' : f_X3_copyFrom_2 fu 6 6 6 6 ts' tu' fu 0 os ou = some (os', ou') := e2
  rw [e1, k_b10S, k_b2S, e2', k_b2S]
theorem FW_0 (st : Nat → Nat) (nu : Nat → Int) : FW 0 st nu := ⟨Nat.zero_le _, fun i h => absurd h (Nat.not_lt_zero i), fun i h => by
  have : i = 0 := by omega
  subst this
  exact Nat.zero_le _, fun h => absurd h (Nat.lt_irrefl 0)⟩

theorem P_clearFilter {fu : Nat} (hfu : 100000 ≤ fu) {I : Nat → Int32} {F : Nat → Nat → Int32} (hI : Inv I F) : ∃ (c9 : Int32 × Int32 × Int32 × (Nat → Int32) × (Nat → Int32) × (Nat → Int32) × (Nat → Int32) × (Nat → Int32) × (Nat → Int32) × Int32 × Int32 × Int32 × Int32 × (Nat → Int32) × (Nat → Int32)) (u9 : Int32 × Int32 × (Nat → Int32) × (Nat → Int32)), f_X8_clearFilter fu 60 60 60 60 40 40 1140 1140 6 6 6 6 60 60 (I 3) (F 0) (F 1) (I 5) (F 2) (F 3) (F 24) (F 25) (I 29) (I 36) (I 37) (F 32) (F 33) (F 36) (F 37) (F 38) (F 39) (I 40) (I 41) (I 42) (I 43) (F 42) (F 43) = some c9 ∧ f_X9_clearFilter fu 960 16 (I 50) (I 53) (F 53) (F 54) = some u9 ∧ Inv (gI [I 0, I 1, I 2, I 3, I 4, I 5, I 6, I 7, I 8, I 9, I 10, I 11, I 12, I 13, I 14, I 15, I 16, I 17, I 18, I 19, I 20, I 21, I 22, I 23, I 24, I 25, I 26, I 27, I 28, c9.1, I 30, I 31, I 32, I 33, I 34, I 35, c9.2.1, c9.2.2.1, I 38, I 39, c9.2.2.2.2.2.2.2.2.2.1, c9.2.2.2.2.2.2.2.2.2.2.1, c9.2.2.2.2.2.2.2.2.2.2.2.1, c9.2.2.2.2.2.2.2.2.2.2.2.2.1, I 44, I 45, I 46, I 47, I 48, I 49, u9.1, I 51, I 52, u9.2.1, I 54, I 55, I 56, I 57, I 58, I 59, I 60, I 61, I 62, I 63, I 64, I 65, I 66, I 67, I 68, I 69, I 70]) (gF [F 0, F 1, F 2, F 3, F 4, F 5, F 6, F 7, F 8, F 9, F 10, F 11, F 12, F 13, F 14, F 15, F 16, F 17, F 18, F 19, F 20, F 21, F 22, F 23, F 24, F 25, F 26, F 27, F 28, F 29, F 30, F 31, c9.2.2.2.1, c9.2.2.2.2.1, F 34, F 35, c9.2.2.2.2.2.1, c9.2.2.2.2.2.2.1, c9.2.2.2.2.2.2.2.1, c9.2.2.2.2.2.2.2.2.1, F 40, F 41, c9.2.2.2.2.2.2.2.2.2.2.2.2.2.1, c9.2.2.2.2.2.2.2.2.2.2.2.2.2.2, F 44, F 45, F 46, F 47, F 48, F 49, F 50, F 51, F 52, u9.2.2.1, u9.2.2.2, F 55, F 56, F 57, F 58, F 59, F 60, F 61, F 62, F 63, F 64, F 65, F 66, F 67]) := by
  obtain ⟨cur, plan, old, sav, hs, flt, sfl, wat, swa, tn, ch, dep, nx, tx, fa, sv, ha, c1, c2, c3, c4, c5, c6, m1, m2, m3, m4, m5⟩ := hI
  have hC0 : FC 0 flt.2.1 flt.2.2 0 (F 24) (F 25) := ⟨rfl, fun i h => absurd h (Nat.not_lt_zero i)⟩
  have hM0 : FM 0 flt.2.1 flt.2.2 0 (F 55) := ⟨rfl, fun i h => absurd h (Nat.not_lt_zero i)⟩
  have hF0 := FW_0 flt.2.1 flt.2.2
  have tb := R2.tb m1.1
  obtain ⟨js, jt, jcod, jcnt, ts', tu', os', ou', ds, dt, dcod, dcnt, e1, hJ, hT, hO, hD⟩ := f_startAnew (s1 := I 36) (t1 := I 37) (x1 := F 32) (x2 := F 33) (ts := F 36) (tu := F 37) (os := F 38) (ou := F 39) (cs := I 40) (ct := I 41) (s2 := I 42) (t2 := I 43) (y1 := F 42) (y2 := F 43) hfu c1.1.1 c1.1.2 tb.1 tb.2 (HM.of hfu hF0 hC0)
  obtain ⟨rows', size', e2, hP⟩ := f_copies (rows := F 53) (size := F 54) (a := 0) (b := 4) hfu (by decide) (by decide) (by decide)
  have h1 : f_X8_clearFilter fu 60 60 60 60 40 40 1140 1140 6 6 6 6 60 60 (I 3) (F 0) (F 1) (I 5) (F 2) (F 3) (F 24) (F 25) (I 29) (I 36) (I 37) (F 32) (F 33) (F 36) (F 37) (F 38) (F 39) (I 40) (I 41) (I 42) (I 43) (F 42) (F 43) = some (0, js, jt, jcod, jcnt, ts', tu', os', ou', 0, 0, ds, dt, dcod, dcnt) := by
    unfold f_X8_clearFilter f_X1_clear
    rw [k_b1S, e1, k_b14S]
  have h2 : f_X9_clearFilter fu 960 16 (I 50) (I 53) (F 53) (F 54) = some (0, 0, rows', size') := by
    unfold f_X9_clearFilter
    have e2' : f_X9_copies fu 960 16 0 4 (F 53) (F 54) = some (rows', size') := e2
    rw [e2', k_b2S]
  have z0 : (fun c => JF (0, flt.2) cur c - JF (0, flt.2) cur c) = fun _ => 0 := funext fun c => Int.sub_self _
  have hZ : CR 2280 106980 (fun c => JF (0, flt.2) cur c - JF (0, flt.2) cur c) 0 0 (F 40) (F 41) := by rw [z0]; exact CR.empty 2280 106980 (F 40) (F 41)
  exact ⟨_, _, h1, h2, cur, plan, cur, sav, hs, (0, flt.2), sfl, wat, swa, tn, ch, dep, nx, tx, fa, sv, ⟨hF0, ha.2⟩, c1, ⟨hC0, c2.2⟩, c3, c4, ⟨hJ, hT, hO, hZ, hD⟩, c6, ⟨R2.other m1.1 hP (by decide), R2.other m1.2.1 hP (by decide), R2.copied m1.1 hP, R2.other m1.2.2.2.1 hP (by decide), fun k hk => R2.other (m1.2.2.2.2 k hk) hP (by omega)⟩, ⟨hM0, m2.2⟩, m3, m4, m5⟩
