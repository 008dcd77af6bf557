/-- the place of an occurrence -/
def SELc (D : Nat → Int) (o c : Nat) : Prop := fb_si D c ≤ o ∧ (o : Int) < fb_si D (c + 1)
theorem si_le {f : Nat → Int} (h : ∀ i, 0 ≤ f i) {a b : Nat} (hab : a ≤ b) : fb_si f a ≤ fb_si f b := by
  have h1 := fb_si_split f a (b - a)
  rw [show a + (b - a) = b by omega] at h1
  have h2 := si_nonneg (f := fun k => f (a + k)) (b - a) (fun i _ => h _)
  omega
theorem SELc.uniq {D : Nat → Int} {o c d : Nat} (h : ∀ i, 0 ≤ D i) (h1 : SELc D o c) (h2 : SELc D o d) : c = d := by
  rcases Nat.lt_trichotomy c d with x | x | x
  · have a := si_le h (show c + 1 ≤ d from x)
    have b := h1.2
    have e := h2.1
    omega
  · exact x
  · have a := si_le h (show d + 1 ≤ c from x)
    have b := h2.2
    have e := h1.1
    omega
theorem i_nat {x : Int32} (h : ¬ x < 0) : ∃ o : Nat, o < 2147483648 ∧ x = nI o := by
  have a : 0 ≤ x.toInt := by
    rw [fa_lt] at h
    have e : (0 : Int32).toInt = 0 := by decide
    omega
  have b := Int32.toInt_lt x
  refine ⟨x.toInt.toNat, by omega, ?_⟩
  rw [← zI_nat, show ((x.toInt.toNat : Nat) : Int) = x.toInt by omega, zI_self]
theorem CRk.pre {lim B n : Nat} {m : Nat → Int} {k : Nat → Nat} {codes counts : Nat → Int32} (h : CRk lim B m n k codes counts) {j : Nat} (hj : j < n) : fb_si m (k j) = fb_si (fun i => m (k i)) j :=
  si_keys (k j) j k m (fun i hi => h.2.2.1 i j hi hj) (fun a b x y => h.2.2.1 a b x (by omega)) (fun c hc z => by
    obtain ⟨i, hi, ei⟩ := h.2.2.2 c z
    refine ⟨i, ?_, ei⟩
    rcases Nat.lt_or_ge i j with x | x
    · exact x
    · rcases Nat.lt_or_ge j i with y | y
      · have := h.2.2.1 j i y hi; omega
      · have : i = j := by omega
        rw [this] at ei; omega)
theorem f_coo_loop {fu lim B n : Nat} {m : Nat → Int} {k : Nat → Nat} {codes counts : Nat → Int32} (hl : lim < 100000) (h : CRk lim B m n k codes counts) (h0 : ∀ c, 0 ≤ m c) (hb : fb_si m B ≤ 1000000) {o : Nat} (ho : (o : Int) < fb_si m B) : ∀ (d G j : Nat), d + j = n → d < G → fb_si (fun i => m (k i)) j ≤ o →
    ∃ c, c < B ∧ SELc m o c ∧ f_X0_codeOfOccurrence_4 fu lim lim (nI n) codes counts (nI o) G (zI (fb_si (fun i => m (k i)) j)) (nI j) = some (nI c) := by
  have hn := h.1
  have hs := h.sum (g := m) (fun c z => z)
  intro d
  induction d with
  | zero =>
    intro G j h1 h2 h3
    have : j = n := by omega
    subst this
    omega
  | succ d ih =>
    intro G j h1 h2 h3
    obtain ⟨G', rfl⟩ : ∃ G', G = G' + 1 := ⟨G - 1, by omega⟩
    have hj := h.2.1 j (by omega)
    have eS : fb_si (fun i => m (k i)) (j + 1) = fb_si (fun i => m (k i)) j + m (k j) := fb_si_succ _ _
    have b1 := si_nonneg (f := fun i => m (k i)) (j + 1) (fun i _ => h0 (k i))
    have b2 := si_le (f := fun i => m (k i)) (fun i => h0 (k i)) (show j + 1 ≤ n by omega)
    rw [fs_X0_codeOfOccurrence_4, if_neg (show ¬ nI n ≤ nI j by rw [q_le (by omega) (by omega)]; omega), f_countAt (by omega) hn (by omega), k_b1S, if_pos (show j < n by omega), hj.2.1, zI_add, ← eS, k_letS]
    by_cases x : fb_si (fun i => m (k i)) (j + 1) ≤ o
    · rw [if_pos (by rw [← zI_nat o, zI_le (by omega) (by omega) (by omega) (by omega)]; exact x), q_1, q_add, k_letS]
      exact ih G' (j + 1) (by omega) (by omega) x
    · rw [if_neg (by rw [← zI_nat o, zI_le (by omega) (by omega) (by omega) (by omega)]; exact x)]
      unfold f_X0_codeOfOccurrence_25
      refine ⟨k j, hj.2.2.2, ⟨?_, ?_⟩, ?_⟩
      · rw [h.pre (by omega)]; exact h3
      · rw [fb_si_succ, h.pre (by omega), ← eS]; omega
      · rw [f_codeAt (by omega) hn (by omega), k_b1S, if_pos (show j < n by omega), hj.1]
theorem f_coo {fu lim B : Nat} {m : Nat → Int} {size total : Int32} {codes counts : Nat → Int32} (hfu : 100000 ≤ fu) (hl : lim < 90000) (h : CR lim B m size total codes counts) (h0 : ∀ c, 0 ≤ m c) (hb : fb_si m B ≤ 1000000) {o : Nat} (ho : (o : Int) < fb_si m B) : ∃ c, c < B ∧ SELc m o c ∧ f_X0_codeOfOccurrence fu lim lim size codes counts (nI o) = some (nI c) := by
  obtain ⟨n, k, e1, e2, h⟩ := h
  have hn := h.1
  obtain ⟨c, a1, a2, a3⟩ := f_coo_loop (fu := fu) (by omega) h h0 hb ho n fu 0 (by omega) (by omega) (show (0 : Int) ≤ o by omega)
  refine ⟨c, a1, a2, ?_⟩
  unfold f_X0_codeOfOccurrence
  rw [e1]; exact a3
theorem f_dAt_loop {fu nl nr : Nat} {mL mR : Nat → Int} {rl rr : Nat → Nat} {rows size filter : Nat → Int32} {fsize v1 : Int32} {mt : Nat → Nat → Bool} (hfu : 100000 ≤ fu) (hL : RTk 0 11940 mL nl rl rows) (hsl : size 0 = nI nl) (hR : RTk 1 190 mR nr rr rows) (hs : size 1 = nI nr) (hM : HM9 fu mt fsize filter) {o : Nat} (ho : o < 2147483648) : ∀ (d G j : Nat) (stack : Nat → Int32), d + j = nl → d < G → fb_si (fun i => gD mt mR (rl i)) j ≤ o →
    ∃ st', (∃ p, p < nl ∧ PW mt mR (rl p) = 0 ∧ fb_si (fun i => gD mt mR (rl i)) p = o ∧ f_X9_danglingAt_4 fu 960 16 40 40 fsize rows size filter v1 G (zI ((o : Int) - fb_si (fun i => gD mt mR (rl i)) j)) (nI j) stack = some (nI p, st')) ∨ (fb_si (fun i => gD mt mR (rl i)) nl ≤ o ∧ f_X9_danglingAt_4 fu 960 16 40 40 fsize rows size filter v1 G (zI ((o : Int) - fb_si (fun i => gD mt mR (rl i)) j)) (nI j) stack = some (nI nl, st')) := by
  have hn := hL.1
  have hnr := hR.1
  have i0 : (0 : Int32).toNatClampNeg = 0 := rfl
  have g0 : ∀ i, 0 ≤ gD mt mR (rl i) := fun i => by unfold gD; split <;> omega
  intro d
  induction d with
  | zero =>
    intro G j stack h1 h2 h3
    obtain ⟨G', rfl⟩ : ∃ G', G = G' + 1 := ⟨G - 1, by omega⟩
    have : j = nl := by omega
    subst this
    refine ⟨stack, Or.inr ⟨h3, ?_⟩⟩
    rw [fs_X9_danglingAt_4, if_pos (by decide), i0, hsl, k_letS, if_pos (show nI j ≤ nI j by rw [q_le (by omega) (by omega)]; omega)]
    unfold f_X9_danglingAt_45
    rw [if_pos (by decide), i0, hsl, k_letS]
  | succ d ih =>
    intro G j stack h1 h2 h3
    obtain ⟨G', rfl⟩ : ∃ G', G = G' + 1 := ⟨G - 1, by omega⟩
    have hj := hL.2.1 j (by omega)
    have hr : rows j = nI (rl j) := by
      have := hj.1
      rw [show 60 * 0 + j = j by omega] at this
      exact this
    have sn := si_nonneg (f := fun i => gD mt mR (rl i)) j (fun i _ => g0 i)
    obtain ⟨st1, e1⟩ := f_isD_loop hR hs hM hj.2 nr fu 0 stack (by omega) (by omega) (fun i hi => by omega)
    have e1' : f_X9_isDangling fu 960 16 40 40 fsize rows size filter (nI (rl j)) stack = some ((if PW mt mR (rl j) = 0 then 1 else 0), st1) := e1
    rw [fs_X9_danglingAt_4, if_pos (by decide), i0, hsl, k_letS, if_neg (show ¬ nI nl ≤ nI j by rw [q_le (by omega) (by omega)]; omega), if_pos (nI_in (c := j) (N := 960) (by omega) (by decide)), q_cl (by omega), hr, k_letS, e1', k_b2S]
    unfold f_X9_danglingAt_39
    have e3 : nI j + 1 = nI (j + 1) := by rw [q_1, q_add]
    have eS : fb_si (fun i => gD mt mR (rl i)) (j + 1) = fb_si (fun i => gD mt mR (rl i)) j + gD mt mR (rl j) := fb_si_succ _ _
    by_cases z : PW mt mR (rl j) = 0
    · have eg : gD mt mR (rl j) = 1 := if_pos z
      simp only [if_pos z, if_neg (show ¬ (1 : Int32) = 0 by decide), k_letS, e3]
      by_cases w : fb_si (fun i => gD mt mR (rl i)) j = o
      · refine ⟨st1, Or.inl ⟨j, by omega, z, w, ?_⟩⟩
        rw [if_pos (by rw [w, Int.sub_self]; rfl)]
      · have e4 : zI ((o : Int) - fb_si (fun i => gD mt mR (rl i)) j) + (-1) = zI ((o : Int) - fb_si (fun i => gD mt mR (rl i)) (j + 1)) := by
          rw [show (-1 : Int32) = zI (-1) from rfl, zI_add, eS, eg]; exact congrArg zI (by omega)
        rw [if_neg (fun q => w (by have := (zI_z (by omega) (by omega)).mp q; omega)), e4]
        exact ih G' (j + 1) st1 (by omega) (by omega) (by rw [eS, eg]; omega)
    · have eg : gD mt mR (rl j) = 0 := if_neg z
      simp only [if_neg z, if_pos (show (0 : Int32) = 0 from rfl), k_letS, e3]
      have e4 : fb_si (fun i => gD mt mR (rl i)) j = fb_si (fun i => gD mt mR (rl i)) (j + 1) := by rw [eS, eg]; omega
      rw [e4]
      exact ih G' (j + 1) st1 (by omega) (by omega) (by rw [← e4]; exact h3)
/-- rows of the left table below T without a match -/
theorem dg_pre {t n : Nat} {mL mR : Nat → Int} {rl : Nat → Nat} {rows : Nat → Int32} {mt : Nat → Nat → Bool} (hL : RTk t 11940 mL n rl rows) {T : Nat} (hT : T ≤ 11940) : fb_si (DG mt mL mR) T = fb_si (fun i => if rl i < T then gD mt mR (rl i) else 0) n := by
  have h := hL.sum (fun l => if l < T then gD mt mR l else 0)
  have h' : fb_si (fun i => if rl i < T then gD mt mR (rl i) else 0) n = fb_si (fun c => mL c * (if c < T then gD mt mR c else 0)) 11940 := h
  rw [h', si_cut hT (fun i a b => by rw [if_neg (by omega), Int.mul_zero])]
  refine fb_si_cong (fun c hc => ?_)
  rw [if_pos hc]
  unfold DG gD
  by_cases z : PW mt mR c = 0
  · rw [if_pos z, if_pos z, Int.mul_one]
  · rw [if_neg z, if_neg z, Int.mul_zero]
theorem dg_sel {t n : Nat} {mL mR : Nat → Int} {rl : Nat → Nat} {rows : Nat → Int32} {mt : Nat → Nat → Bool} (hL : RTk t 11940 mL n rl rows) {p o : Nat} (hp : p < n) (hz : PW mt mR (rl p) = 0) (hS : fb_si (fun i => gD mt mR (rl i)) p = o) : SELc (DG mt mL mR) o (rl p) := by
  have g0 : ∀ i, 0 ≤ gD mt mR (rl i) := fun i => by unfold gD; split <;> omega
  have hB := (hL.2.1 p hp).2
  constructor
  · rw [dg_pre hL (by omega), si_cut (e := p) (by omega) (fun i a b => by
      have := hL.2.2.1 p i a b
      exact if_neg (by omega)), ← hS]
    exact si_mono p (fun i hi => by
      by_cases x : rl i < rl p
      · rw [if_pos x]; exact Int.le_refl _
      · rw [if_neg x]; exact g0 i)
  · rw [dg_pre hL (T := rl p + 1) (by omega)]
    have h1 := si_le (f := fun i => if rl i < rl p + 1 then gD mt mR (rl i) else 0) (fun i => by
      by_cases x : rl i < rl p + 1
      · rw [if_pos x]; exact g0 i
      · rw [if_neg x]; exact Int.le_refl _) (show p + 1 ≤ n by omega)
    have h2 : fb_si (fun i => if rl i < rl p + 1 then gD mt mR (rl i) else 0) (p + 1) = fb_si (fun i => gD mt mR (rl i)) (p + 1) := fb_si_cong (fun i hi => by
      have := hL.2.2.1 i p (by omega) hp
      exact if_pos (by omega))
    have h3 : fb_si (fun i => gD mt mR (rl i)) (p + 1) = fb_si (fun i => gD mt mR (rl i)) p + gD mt mR (rl p) := fb_si_succ _ _
    have h4 : gD mt mR (rl p) = 1 := if_pos hz
    omega
def dcol (col c : Nat) : Int32 := if col = 0 then nI (lk c) else if col = 1 then nI (lg c) else zI (lv c)
theorem DG_bd {mL mR : Nat → Int} {mt : Nat → Nat → Bool} (hL : TB 11940 mL) (c : Nat) : 0 ≤ DG mt mL mR c ∧ DG mt mL mR c ≤ mL c := by
  have := hL.le c
  unfold DG
  split <;> omega

theorem P_danglingRow {fu : Nat} (hfu : 100000 ≤ fu) {I : Nat → Int32} {F : Nat → Nat → Int32} (hI : Inv I F) (out : Nat → Int64) (v1 : Int32) (v2 : Int32) : ∃ (c9 : Int32 × (Nat → Int64)) (u9 : Int32 × Int32 × (Nat → Int32)), f_L_danglingRow fu 60 60 1 (I 42) (I 43) (F 42) (F 43) v1 v2 out = some c9 ∧ f_X9_danglingRow fu 960 16 40 40 (I 53) (F 53) (F 54) (F 55) v1 v2 (I 50) (F 59) = some u9 ∧ u9.2.1 = c9.1 ∧ (c9.1 = 0 → c9.2 0 = u9.1.toInt64) ∧ Inv (gI [I 0, I 1, I 2, I 3, I 4, I 5, I 6, I 7, I 8, I 9, I 10, I 11, I 12, I 13, I 14, I 15, I 16, I 17, I 18, I 19, I 20, I 21, I 22, I 23, I 24, I 25, I 26, I 27, I 28, I 29, I 30, I 31, I 32, I 33, I 34, I 35, I 36, I 37, I 38, I 39, I 40, I 41, I 42, I 43, I 44, I 45, I 46, I 47, I 48, I 49, u9.2.1, I 51, I 52, I 53, I 54, I 55, I 56, I 57, I 58, I 59, I 60, I 61, I 62, I 63, I 64, I 65, I 66, I 67, I 68, I 69, I 70]) (gF [F 0, F 1, F 2, F 3, F 4, F 5, F 6, F 7, F 8, F 9, F 10, F 11, F 12, F 13, F 14, F 15, F 16, F 17, F 18, F 19, F 20, F 21, F 22, F 23, F 24, F 25, F 26, F 27, F 28, F 29, F 30, F 31, F 32, F 33, F 34, F 35, F 36, F 37, F 38, F 39, F 40, F 41, F 42, F 43, F 44, F 45, F 46, F 47, F 48, F 49, F 50, F 51, F 52, F 53, F 54, F 55, F 56, F 57, F 58, u9.2.2, F 60, F 61, F 62, F 63, F 64, F 65, F 66, F 67]) := by
  obtain ⟨cur, plan, old, sav, hs, flt, sfl, wat, swa, tn, ch, dep, nx, tx, fa, sv, ha, c1, c2, c3, c4, c5, c6, m1, m2, m3, m4, m5⟩ := hI
  have tb := R2.tb m1.1
  have hD0 : ∀ c, 0 ≤ DG (mtF flt) cur.1 cur.2 c := fun c => (DG_bd tb.1 c).1
  have hT0 := si_nonneg (f := DG (mtF flt) cur.1 cur.2) 11940 (fun i _ => hD0 i)
  have hT1 : fb_si (DG (mtF flt) cur.1 cur.2) 11940 ≤ 60 := Int.le_trans (si_mono 11940 (fun c _ => (DG_bd tb.1 c).2)) tb.1.2.2
  obtain ⟨T, hT⟩ : ∃ T : Nat, fb_si (DG (mtF flt) cur.1 cur.2) 11940 = T := ⟨(fb_si (DG (mtF flt) cur.1 cur.2) 11940).toNat, by omega⟩
  have hC := c5.2.2.2.2
  have eT : I 43 = nI T := by
    obtain ⟨n, k, _, e3, _⟩ := hC
    rw [e3, hT, zI_nat]
  have hM := HM9.of hfu ha.1 m2.1
  obtain ⟨⟨nl, rl, hsl, hL⟩, ⟨nr, rr, hsr, hR⟩⟩ := m1.1
  have hn := hL.1
  have eS : fb_si (fun i => gD (mtF flt) cur.2 (rl i)) nl = T := by
    rw [← hT, dg_pre hL (Nat.le_refl _)]
    exact fb_si_cong (fun i hi => (if_pos (hL.2.1 i hi).2).symm)
  have i0 : (0 : Int32).toNatClampNeg = 0 := rfl
  have cbad : ∀ (q : f_X8_requireIndex v1 (I 43) = some 3 ∨ (f_X8_requireIndex v1 (I 43) = some 0 ∧ f_X8_requireIndex v2 3 = some 3)), f_L_danglingRow fu 60 60 1 (I 42) (I 43) (F 42) (F 43) v1 v2 out = some (1, out) := by
    intro q
    unfold f_L_danglingRow f_X8_danglingRow f_X6_dangling f_X0_total
    rw [k_b1S, k_b1S]
    rcases q with q | ⟨q1, q2⟩
    · rw [q, k_b1S, if_neg (by decide), k_b2S, if_neg (by decide), if_pos rfl]
    · rw [q1, k_b1S, if_pos rfl, q2, k_b1S, if_neg (by decide), k_b2S, if_neg (by decide), if_pos rfl]
  by_cases hneg : v1 < 0
  · have h1 := cbad (by
      rw [eT]
      rcases f_reqI (n := T) (by omega) v1 with ⟨q1, g, hg, eg⟩ | ⟨q1, no⟩
      · rw [eg] at hneg
        exact absurd hneg (nI_pos (by omega))
      · exact Or.inl q1)
    have h2 : f_X9_danglingRow fu 960 16 40 40 (I 53) (F 53) (F 54) (F 55) v1 v2 (I 50) (F 59) = some (0, 1, F 59) := by
      unfold f_X9_danglingRow f_X9_danglingRow_27 f_X9_fails
      rw [if_pos hneg, k_b2S]
    exact ⟨_, _, h1, h2, rfl, fun q => absurd (show (1 : Int32) = 0 from q) (by decide), cur, plan, old, sav, hs, flt, sfl, wat, swa, tn, ch, dep, nx, tx, fa, sv, ha, c1, c2, c3, c4, c5, c6, m1, m2, m3, m4, m5⟩
  · obtain ⟨o, ho, eo⟩ := i_nat hneg
    rcases bw_ix (n := 2) (by decide) v2 with ⟨b2, w, hw, ew⟩ | ⟨b2, no2⟩
    · have b2' : bw v2 0 2 = true := b2
      have q2 : f_X8_requireIndex v2 3 = some 0 := by
        rcases f_reqI (n := 3) (by decide) v2 with ⟨q, _⟩ | ⟨_, no⟩
        · exact q
        · exact absurd ⟨w, hw, ew⟩ no
      obtain ⟨st1, a1⟩ := f_dAt_loop (v1 := v1) hfu hL hsl hR hsr hM ho nl fu 0 (F 59) (by omega) (by omega) (show (0 : Int) ≤ o by omega)
      obtain ⟨st2, a2⟩ := f_dAt_loop (v1 := v1) hfu hL hsl hR hsr hM ho nl fu 0 st1 (by omega) (by omega) (show (0 : Int) ≤ o by omega)
      have ez : zI ((o : Int) - fb_si (fun i => gD (MT flt.1 flt.2.1 flt.2.2) cur.2 (rl i)) 0) = v1 := by
        rw [show fb_si (fun i => gD (MT flt.1 flt.2.1 flt.2.2) cur.2 (rl i)) 0 = 0 from rfl, Int.sub_zero, zI_nat, eo]
      rw [ez] at a1 a2
      rcases a1 with ⟨p, hp, hz, hS, e1⟩ | ⟨hge, e1⟩
      · have e1' : f_X9_danglingAt fu 960 16 40 40 (I 53) (F 53) (F 54) (F 55) v1 (F 59) = some (nI p, st1) := e1
        have g0 : ∀ i, 0 ≤ gD (mtF flt) cur.2 (rl i) := fun i => by unfold gD; split <;> omega
        have oT : o < T := by
          have x1 := si_le g0 (show p + 1 ≤ nl by omega)
          have x2 : fb_si (fun i => gD (mtF flt) cur.2 (rl i)) (p + 1) = fb_si (fun i => gD (mtF flt) cur.2 (rl i)) p + gD (mtF flt) cur.2 (rl p) := fb_si_succ _ _
          have x3 : gD (mtF flt) cur.2 (rl p) = 1 := if_pos hz
          have x4 : fb_si (fun i => gD (mtF flt) cur.2 (rl i)) p = o := hS
          omega
        rcases a2 with ⟨p2, hp2, hz2, hS2, e2⟩ | ⟨hge, e2⟩
        · have e2' : f_X9_danglingAt fu 960 16 40 40 (I 53) (F 53) (F 54) (F 55) v1 st1 = some (nI p2, st2) := e2
          have q1 : f_X8_requireIndex v1 (I 43) = some 0 := by
            rw [eT]
            rcases f_reqI (n := T) (by omega) v1 with ⟨q, _⟩ | ⟨_, no⟩
            · exact q
            · exact absurd ⟨o, oT, eo⟩ no
          obtain ⟨c, hc, sc, ec⟩ := f_coo (fu := fu) hfu (by decide) hC hD0 (by omega) (o := o) (by omega)
          have sp := dg_sel (mt := mtF flt) hL hp2 hz2 hS2
          have ecp := SELc.uniq hD0 sc sp
          have hr2 := hL.2.1 p2 hp2
          have hr : F 53 p2 = nI c := by
            have := hr2.1
            rw [show 60 * 0 + p2 = p2 by omega] at this
            rw [this, ecp]
          have k1 : nI c / 199 / 6 = nI (lk c) := Option.some.inj (g_leftKey hc)
          have k2 : nI c / 199 - nI c / 199 / 6 * 6 = nI (lg c) := by
            have := g_leftGroup hc
            unfold f_X8_leftGroup at this
            rw [k_letS] at this
            exact Option.some.inj this
          have k3 : nI c - nI c / 199 * 199 - 99 = zI (lv c) := by
            have := g_leftValue hc
            unfold f_X8_leftValue at this
            rw [k_letS] at this
            exact Option.some.inj this
          have h1 : f_L_danglingRow fu 60 60 1 (I 42) (I 43) (F 42) (F 43) v1 v2 out = some (0, vp_updL out (0 : Int32).toNatClampNeg (dcol w c).toInt64) := by
            have ec' : f_X0_codeOfOccurrence fu 60 60 (I 42) (F 42) (F 43) v1 = some (nI c) := by rw [eo]; exact ec
            unfold f_L_danglingRow f_X8_danglingRow f_X6_dangling f_X0_total dcol
            rw [k_b1S, k_b1S, q1, k_b1S, if_pos rfl, q2, k_b1S, if_pos rfl, k_b1S, ec', k_b1S, g_leftKey hc, g_leftGroup hc, g_leftValue hc, k_b1S, k_b1S, k_b1S, ew]
            rcases (show w = 0 ∨ w = 1 ∨ w = 2 by omega) with e | e | e
            · subst e; rfl
            · subst e; rfl
            · subst e; rfl
          have h2 : f_X9_danglingRow fu 960 16 40 40 (I 53) (F 53) (F 54) (F 55) v1 v2 (I 50) (F 59) = some (dcol w c, 0, st2) := by
            unfold f_X9_danglingRow dcol
            rw [if_neg hneg, f_between, b2', k_b1S, if_neg (by decide), e1', k_b2S, if_pos (by decide), i0, hsl, k_letS, if_neg (show ¬ nI p = nI nl by rw [q_eq (by omega) (by omega)]; omega), e2', k_b2S, if_pos (nI_in (c := p2) (N := 960) (by omega) (by decide)), q_cl (by omega), hr, k_letS, k2, k1, k_letS, k_letS, k3, ew]
            rcases (show w = 0 ∨ w = 1 ∨ w = 2 by omega) with e | e | e
            · subst e; rfl
            · subst e; rfl
            · subst e; rfl
          exact ⟨_, _, h1, h2, rfl, fun _ => rfl, cur, plan, old, sav, hs, flt, sfl, wat, swa, tn, ch, dep, nx, tx, fa, sv, ha, c1, c2, c3, c4, c5, c6, m1, m2, m3, m4, m5⟩
        · have x4 : fb_si (fun i => gD (mtF flt) cur.2 (rl i)) nl ≤ o := hge
          omega
      · have e1' : f_X9_danglingAt fu 960 16 40 40 (I 53) (F 53) (F 54) (F 55) v1 (F 59) = some (nI nl, st1) := e1
        have x4 : fb_si (fun i => gD (mtF flt) cur.2 (rl i)) nl ≤ o := hge
        have h1 := cbad (by
          rw [eT]
          rcases f_reqI (n := T) (by omega) v1 with ⟨q1, g, hg, eg⟩ | ⟨q1, no⟩
          · rw [eg] at eo
            have := (q_eq (a := g) (b := o) (by omega) (by omega)).mp eo
            omega
          · exact Or.inl q1)
        have h2 : f_X9_danglingRow fu 960 16 40 40 (I 53) (F 53) (F 54) (F 55) v1 v2 (I 50) (F 59) = some (0, 1, st1) := by
          unfold f_X9_danglingRow f_X9_danglingRow_27 f_X9_fails
          rw [if_neg hneg, f_between, b2', k_b1S, if_neg (by decide), e1', k_b2S, if_pos (by decide), i0, hsl, k_letS, if_pos rfl, k_b2S]
        exact ⟨_, _, h1, h2, rfl, fun q => absurd (show (1 : Int32) = 0 from q) (by decide), cur, plan, old, sav, hs, flt, sfl, wat, swa, tn, ch, dep, nx, tx, fa, sv, ha, c1, c2, c3, c4, c5, c6, m1, m2, m3, m4, m5⟩
    · have b2' : bw v2 0 2 = false := b2
      have q2 : f_X8_requireIndex v2 3 = some 3 := by
        rcases f_reqI (n := 3) (by decide) v2 with ⟨_, h⟩ | ⟨q, _⟩
        · exact absurd h no2
        · exact q
      have h1 := cbad (by
        rw [eT]
        rcases f_reqI (n := T) (by omega) v1 with ⟨q1, _⟩ | ⟨q1, no⟩
        · exact Or.inr ⟨q1, q2⟩
        · exact Or.inl q1)
      have h2 : f_X9_danglingRow fu 960 16 40 40 (I 53) (F 53) (F 54) (F 55) v1 v2 (I 50) (F 59) = some (0, 1, F 59) := by
        unfold f_X9_danglingRow f_X9_danglingRow_27 f_X9_fails
        rw [if_neg hneg, f_between, b2', k_b1S, if_pos (by decide), k_b2S]
      exact ⟨_, _, h1, h2, rfl, fun q => absurd (show (1 : Int32) = 0 from q) (by decide), cur, plan, old, sav, hs, flt, sfl, wat, swa, tn, ch, dep, nx, tx, fa, sv, ha, c1, c2, c3, c4, c5, c6, m1, m2, m3, m4, m5⟩
