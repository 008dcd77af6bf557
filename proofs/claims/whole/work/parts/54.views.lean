theorem si_one {c0 B : Nat} (x : Int) (h : c0 < B) : fb_si (fun c => if c = c0 then x else 0) B = x := by
  have := fb_si_upd (fun _ => 0) x h
  rw [this, si_zero]; omega
theorem si_nonneg {f : Nat → Int} : ∀ n, (∀ i, i < n → 0 ≤ f i) → 0 ≤ fb_si f n
  | 0, _ => by show (0 : Int) ≤ 0; decide
  | n + 1, h => by
    have h1 := si_nonneg n (fun i hi => h i (by omega))
    have h2 := h n (by omega)
    rw [fb_si_succ]; omega
theorem si_mono {f g : Nat → Int} : ∀ n, (∀ i, i < n → f i ≤ g i) → fb_si f n ≤ fb_si g n
  | 0, _ => by show (0 : Int) ≤ 0; decide
  | n + 1, h => by
    have h1 := si_mono n (fun i hi => h i (by omega))
    have h2 := h n (by omega)
    rw [fb_si_succ, fb_si_succ]; omega
theorem si_swap (f : Nat → Nat → Int) (A : Nat) : ∀ B, fb_si (fun c => fb_si (fun r => f c r) A) B = fb_si (fun r => fb_si (fun c => f c r) B) A
  | 0 => (si_0 (fun i _ => rfl)).symm
  | B + 1 => by
    have h := si_swap f A B
    rw [fb_si_succ, h, ← fb_si_add]
    exact fb_si_cong (fun k _ => by rw [fb_si_succ])
def RW (mt : Nat → Nat → Bool) (mR : Nat → Int) (l c : Nat) : Int := fb_si (fun r => mR r * ix mt l c r) 190
def PW (mt : Nat → Nat → Bool) (mR : Nat → Int) (l : Nat) : Int := fb_si (fun r => mR r * ib mt l r) 190
/-- the join's multiplicities -/
def JJ (mt : Nat → Nat → Bool) (mL mR : Nat → Int) (c : Nat) : Int := fb_si (fun l => mL l * RW mt mR l c) 11940
theorem RW_sum (mt : Nat → Nat → Bool) (mR : Nat → Int) {l : Nat} (hl : l < 11940) : fb_si (RW mt mR l) 106980 = PW mt mR l := by
  have h := si_swap (fun c r => mR r * ix mt l c r) 190 106980
  show fb_si (fun c => fb_si (fun r => mR r * ix mt l c r) 190) 106980 = _
  rw [h]
  refine fb_si_cong (fun r _ => ?_)
  rw [fb_si_mul]
  refine congrArg (fun z => mR r * z) ?_
  by_cases e : mt l r = true
  · have h2 : fb_si (fun c => ix mt l c r) 106980 = fb_si (fun c => if c = jc l r then 1 else 0) 106980 := fb_si_cong (fun c _ => by
      unfold ix
      by_cases x : c = jc l r
      · rw [if_pos ⟨e, x.symm⟩, if_pos x]
      · rw [if_neg (fun q => x q.2.symm), if_neg x])
    rw [h2, si_one 1 (jc_lt hl r)]
    exact (if_pos e).symm
  · rw [si_0 (f := fun c => ix mt l c r) (fun c _ => ix_0 c (Bool.eq_false_iff.mpr e))]
    exact (if_neg e).symm
theorem ix_bd (mt : Nat → Nat → Bool) (l c r : Nat) : 0 ≤ ix mt l c r ∧ ix mt l c r ≤ 1 := by unfold ix; split <;> omega
theorem ib_bd (mt : Nat → Nat → Bool) (l r : Nat) : 0 ≤ ib mt l r ∧ ib mt l r ≤ 1 := by unfold ib; split <;> omega
theorem mul01 {a x : Int} (ha : 0 ≤ a) (h0 : 0 ≤ x) (h1 : x ≤ 1) : 0 ≤ a * x ∧ a * x ≤ a := by
  rcases (show x = 0 ∨ x = 1 by omega) with h | h
  · subst h; omega
  · subst h; omega
/-- a table: counts that aren't negative, at most 60 in all -/
def TB (B : Nat) (m : Nat → Int) : Prop := (∀ c, 0 ≤ m c) ∧ (∀ c, B ≤ c → m c = 0) ∧ fb_si m B ≤ 60
theorem si_part {m : Nat → Int} (h : ∀ c, 0 ≤ m c) {i n : Nat} (hi : i < n) : m i ≤ fb_si m n := by
  have h1 := fb_si_split m i (n - i)
  rw [show i + (n - i) = n by omega] at h1
  have h2 : fb_si (fun k => m (i + k)) (n - i) = fb_si (fun k => m (i + k)) ((n - i - 1) + 1) := by rw [show n - i - 1 + 1 = n - i by omega]
  have h3 := fb_si_split (fun k => m (i + k)) 1 (n - i - 1)
  rw [show 1 + (n - i - 1) = n - i by omega] at h3
  have h4 : fb_si (fun k => m (i + k)) 1 = m i := by
    show (0 : Int) + m (i + 0) = m i
    rw [Nat.add_zero]; omega
  have h5 := si_nonneg (f := m) i (fun k _ => h k)
  have h6 := si_nonneg (f := fun k => m (i + (1 + k))) (n - i - 1) (fun k _ => h _)
  rw [h1, h3, h4]; omega
theorem TB.le {B : Nat} {m : Nat → Int} (h : TB B m) (c : Nat) : 0 ≤ m c ∧ m c ≤ 60 := by
  refine ⟨h.1 c, ?_⟩
  by_cases e : c < B
  · have := si_part h.1 e
    have := h.2.2; omega
  · rw [h.2.1 c (by omega)]; decide
theorem RW_bd {mR : Nat → Int} (h : TB 190 mR) (mt : Nat → Nat → Bool) (l c : Nat) : 0 ≤ RW mt mR l c ∧ RW mt mR l c ≤ 60 := by
  refine ⟨si_nonneg _ (fun r _ => (mul01 (h.1 r) (ix_bd mt l c r).1 (ix_bd mt l c r).2).1), Int.le_trans (si_mono _ (fun r _ => (mul01 (h.1 r) (ix_bd mt l c r).1 (ix_bd mt l c r).2).2)) h.2.2⟩
theorem PW_bd {mR : Nat → Int} (h : TB 190 mR) (mt : Nat → Nat → Bool) (l : Nat) : 0 ≤ PW mt mR l ∧ PW mt mR l ≤ 60 := by
  refine ⟨si_nonneg _ (fun r _ => (mul01 (h.1 r) (ib_bd mt l r).1 (ib_bd mt l r).2).1), Int.le_trans (si_mono _ (fun r _ => (mul01 (h.1 r) (ib_bd mt l r).1 (ib_bd mt l r).2).2)) h.2.2⟩
theorem JJ_bd {mL mR : Nat → Int} (hL : TB 11940 mL) (hR : TB 190 mR) (mt : Nat → Nat → Bool) (c : Nat) : 0 ≤ JJ mt mL mR c ∧ JJ mt mL mR c ≤ 3600 := by
  have h1 : ∀ l, 0 ≤ mL l * RW mt mR l c ∧ mL l * RW mt mR l c ≤ 60 * mL l := fun l => by
    have a := hL.1 l
    have b := RW_bd hR mt l c
    exact ⟨Int.mul_nonneg a b.1, by have := Int.mul_le_mul_of_nonneg_left b.2 a; omega⟩
  refine ⟨si_nonneg _ (fun l _ => (h1 l).1), Int.le_trans (si_mono _ (fun l _ => (h1 l).2)) ?_⟩
  rw [fb_si_mul]
  have := hL.2.2
  have := si_nonneg (f := mL) 11940 (fun l _ => hL.1 l)
  omega
section JLR2
variable {fu l nR n : Nat} {mR m : Nat → Int} {kR k : Nat → Nat} {c3 d3 fsteps fnums codes counts : Nat → Int32} {fsize total : Int32} {mt : Nat → Nat → Bool} {a : Int}
theorem f_jlr (hfu : 100000 ≤ fu) (hl : l < 11940) (hR : CRk 60 190 mR nR kR c3 d3) (hRb : TB 190 mR) (ha : 1 ≤ a ∧ a ≤ 60) (hm : ∀ c, 0 ≤ m c ∧ m c ≤ 1000000) (hmt1 : ∀ r, lk l ≠ rk r → mt l r = false)
    (hmt2 : ∀ r, r < 190 → lk l = rk r → f_X1_holds fu 40 40 fsize fsteps fnums (nI (lk l)) (nI (lg l)) (zI (lv l)) (zI (rf r)) = some (nI (bv (mt l r)))) (hroom : n + 19 ≤ 1140) (h : CRk 1140 106980 m n k codes counts) :
    ∃ (n' : Nat) (k' : Nat → Nat) (codes' counts' : Nat → Int32), f_X6_joinLeftRow fu 1140 1140 60 60 40 40 (nI nR) c3 d3 fsize fsteps fnums (nI l) (zI a) (nI n) total codes counts = some (zI (a * PW mt mR l), nI n', total + zI (a * PW mt mR l), codes', counts') ∧ CRk 1140 106980 (fun c => m c + a * RW mt mR l c) n' k' codes' counts' ∧ n' ≤ n + 19 := by
  have hnR := hR.1
  have hlk : lk l < 10 := by unfold lk; omega
  unfold f_X6_joinLeftRow
  obtain ⟨s, s1, s2, s3, s4⟩ := f_first (fu := fu) (c := lk l * 19) hfu (by decide) hnR (by omega) (hR.keys (by decide)) hR.2.2.1
  obtain ⟨e, e1, e2, e3, e4⟩ := f_first (fu := fu) (c := (lk l + 1) * 19) hfu (by decide) hnR (by omega) (hR.keys (by decide)) hR.2.2.1
  rw [g_leftKey hl, k_b1S, g_leftGroup hl, k_b1S, g_leftValue hl, k_b1S, g_rightCode, k_b1S, s4, k_b1S, q_1, q_add, g_rightCode, k_b1S, e4, k_b1S]
  have hse : s ≤ e := by
    rcases Nat.lt_or_ge e s with x | x
    · have a1 := s2 e x
      have a2 := e3 e (Nat.le_refl _) (by omega)
      omega
    · exact x
  have hin : ∀ i, s ≤ i → i < e → lk l = rk (kR i) := fun i x y => by
    have a1 := s3 i x (by omega)
    have a2 := e2 i y
    unfold rk; omega
  have hes : e - s ≤ 19 := by
    rcases Nat.lt_or_ge s e with x | x
    · have a1 := mono_ge hR.2.2.1 s (e - 1 - s) (by omega)
      rw [show s + (e - 1 - s) = e - 1 by omega] at a1
      have a2 := s3 s (Nat.le_refl _) (by omega)
      have a3 := e2 (e - 1) (by omega)
      omega
    · omega
  have out1 : ∀ i, i < s → mt l (kR i) = false := fun i x => hmt1 _ (by have := s2 i x; unfold rk; omega)
  have out2 : ∀ i, e ≤ i → i < nR → mt l (kR i) = false := fun i x y => hmt1 _ (by have := e3 i x y; unfold rk; omega)
  have z1 : fb_si (fun i => mR (kR i) * ib mt l (kR i)) s = 0 := si_0 (fun i hi => by rw [ib_0 (out1 i hi), Int.mul_zero])
  have z2 : ∀ c, fb_si (fun i => mR (kR i) * ix mt l c (kR i)) s = 0 := fun c => si_0 (fun i hi => by rw [ix_0 c (out1 i hi), Int.mul_zero])
  have w1 : fb_si (fun i => mR (kR i) * ib mt l (kR i)) e = PW mt mR l := by
    unfold PW
    rw [hR.sum (g := fun r => mR r * ib mt l r) (fun c q z => q (by rw [z, Int.zero_mul]))]
    exact (si_cut e1 (fun i x y => by rw [ib_0 (out2 i x y), Int.mul_zero])).symm
  have w2 : ∀ c, fb_si (fun i => mR (kR i) * ix mt l c (kR i)) e = RW mt mR l c := fun c => by
    unfold RW
    rw [hR.sum (g := fun r => mR r * ix mt l c r) (fun c q z => q (by rw [z, Int.zero_mul]))]
    exact (si_cut e1 (fun i x y => by rw [ix_0 c (out2 i x y), Int.mul_zero])).symm
  obtain ⟨n', k', codes', counts', f1, f2, f3⟩ := f_jlr_loop (fu := fu) (total0 := total) (n0 := n) (s := s) hfu hl hR (fun c => hRb.le c) ha hm hmt2 e1 hin (by omega) (e - s) fu s n k codes counts (by omega) (Nat.le_refl _) (by omega) (by simp only [z2, Int.mul_zero, Int.add_zero]; exact h) (by omega)
  rw [z1, w1, Int.mul_zero] at f1
  have t0 : total + zI 0 = total := by rw [zI_0]; exact Int32.add_zero total
  rw [t0] at f1
  simp only [w2] at f2
  exact ⟨n', k', codes', counts', f1, f2, by omega⟩
end JLR2
theorem f_fill_loop {fu N : Nat} {v : Int32} (hN : N < 100000) : ∀ (d G i : Nat) (p : Nat → Int32), d + i = N → d < G → (∀ j, j < i → p j = v) → ∃ p', f_J7_fill_53178_5 fu N v G (nI i) (nI N) p = some p' ∧ ∀ j, j < N → p' j = v := by
  intro d
  induction d with
  | zero =>
    intro G i p h1 h2 h3
    obtain ⟨G', rfl⟩ : ∃ G', G = G' + 1 := ⟨G - 1, by omega⟩
    have : i = N := by omega
    subst this
    exact ⟨p, by rw [fs_J7_fill_53178_5, if_pos (by rw [q_le (by omega) (by omega)]; omega)], h3⟩
  | succ d ih =>
    intro G i p h1 h2 h3
    obtain ⟨G', rfl⟩ : ∃ G', G = G' + 1 := ⟨G - 1, by omega⟩
    rw [fs_J7_fill_53178_5, if_neg (by rw [q_le (by omega) (by omega)]; omega), if_pos (nI_in (by omega) (by omega)), q_cl (by omega), q_1, q_add, k_letS]
    refine ih G' (i + 1) _ (by omega) (by omega) (fun j hj => ?_)
    rw [q_upd]
    by_cases x : j = i
    · rw [if_pos x]
    · rw [if_neg x]; exact h3 j (by omega)
theorem f_fill {fu N : Nat} {v : Int32} (hfu : 100000 ≤ fu) (hN : N < 100000) (p : Nat → Int32) : ∃ p', f_J7_fill_53178 fu N v p = some p' ∧ ∀ j, j < N → p' j = v := by
  unfold f_J7_fill_53178
  rw [k_letS]
  exact f_fill_loop hN N fu 0 p (by omega) (by omega) (fun j hj => by omega)
def jg (c : Nat) : Nat := c / 1783 % 6
def jp (c : Nat) : Int := ((c % 1783 : Nat) : Int) - 891
theorem g_joinGroup {c : Nat} (h : c < 106980) : f_X8_joinGroup (nI c) = some (nI (jg c)) := by
  unfold f_X8_joinGroup jg
  rw [show (1783 : Int32) = nI 1783 from rfl, show (6 : Int32) = nI 6 from rfl, q_div (by omega) (by decide) (by decide), pk_rem (by omega) (by decide) (by decide), k_letS]
theorem g_joinProduct {c : Nat} (h : c < 106980) : f_X8_joinProduct (nI c) = some (zI (jp c)) := by
  unfold f_X8_joinProduct jp
  rw [show (1783 : Int32) = nI 1783 from rfl, pk_rem (by omega) (by decide) (by decide), k_letS, show (891 : Int32) = nI 891 from rfl, nI_sub_z]
  rfl
/-- rows and sum of a group -/
def GS (m : Nat → Int) (g : Nat) : Int := fb_si (fun c => if jg c = g then m c else 0) 106980
def GT (m : Nat → Int) (g : Nat) : Int := fb_si (fun c => if jg c = g then m c * jp c else 0) 106980
def TT (m : Nat → Int) (sizes sums : Nat → Int32) : Prop := ∀ g, g < 6 → sizes g = zI (GS m g) ∧ sums g = zI (GT m g)
theorem f_sumUp_loop {fu n : Nat} {m : Nat → Int} {k : Nat → Nat} {codes counts : Nat → Int32} (h : CRk 1140 106980 m n k codes counts) : ∀ (d G j : Nat) (sizes sums : Nat → Int32), d + j = n → d < G → (∀ g, g < 6 → sizes g = zI (fb_si (fun i => if jg (k i) = g then m (k i) else 0) j) ∧ sums g = zI (fb_si (fun i => if jg (k i) = g then m (k i) * jp (k i) else 0) j)) →
    ∃ sizes' sums', f_X3_sumUp_18 fu 6 6 1140 1140 (nI n) codes counts G (nI j) sizes sums = some (sizes', sums') ∧ ∀ g, g < 6 → sizes' g = zI (fb_si (fun i => if jg (k i) = g then m (k i) else 0) n) ∧ sums' g = zI (fb_si (fun i => if jg (k i) = g then m (k i) * jp (k i) else 0) n) := by
  have hn := h.1
  intro d
  induction d with
  | zero =>
    intro G j sizes sums h1 h2 h3
    obtain ⟨G', rfl⟩ : ∃ G', G = G' + 1 := ⟨G - 1, by omega⟩
    have : j = n := by omega
    subst this
    refine ⟨sizes, sums, ?_, h3⟩
    rw [fs_X3_sumUp_18]
    unfold f_X0_size
    rw [k_b1S, if_pos (by rw [q_le (by omega) (by omega)]; omega)]
  | succ d ih =>
    intro G j sizes sums h1 h2 h3
    obtain ⟨G', rfl⟩ : ∃ G', G = G' + 1 := ⟨G - 1, by omega⟩
    have hj := h.2.1 j (by omega)
    have hg : jg (k j) < 6 := Nat.mod_lt _ (by decide)
    rw [fs_X3_sumUp_18]
    unfold f_X0_size
    rw [k_b1S, if_neg (by rw [q_le (by omega) (by omega)]; omega), f_codeAt (by omega) hn (by omega), k_b1S, if_pos (show j < n by omega), hj.1, g_joinGroup hj.2.2.2, k_b1S, g_joinProduct hj.2.2.2, f_countAt (by omega) hn (by omega), if_pos (show j < n by omega), hj.2.1, if_neg (nI_pos (by omega)), if_neg (by rw [q_le (by omega) (by omega)]; omega), if_neg (by rw [q_le (by omega) (by omega)]; omega), if_pos (nI_in hg (by decide)), q_cl (by omega), k_letS, k_b1S, if_pos (q_in hg (by decide)), if_pos (q_in hg (by decide)), k_letS, k_b1S, k_b1S, if_pos (q_in hg (by decide)), zI_mul]
    unfold f_X3_sumUp_98
    rw [k_letS, q_1, q_add]
    refine ih G' (j + 1) _ _ (by omega) (by omega) (fun g hg2 => ?_)
    rw [q_upd, q_upd, fb_si_succ, fb_si_succ]
    by_cases x : g = jg (k j)
    · rw [if_pos x, if_pos x, if_pos x.symm, if_pos x.symm, ← x, (h3 g hg2).1, (h3 g hg2).2, zI_add, zI_add]
      exact ⟨rfl, rfl⟩
    · rw [if_neg x, if_neg x, if_neg (fun y => x y.symm), if_neg (fun y => x y.symm), Int.add_zero, Int.add_zero]
      exact h3 g hg2
theorem f_sumUp {fu : Nat} {m : Nat → Int} {size total : Int32} {codes counts : Nat → Int32} (hfu : 100000 ≤ fu) (h : CR 1140 106980 m size total codes counts) (sizes sums : Nat → Int32) : ∃ sizes' sums', f_X3_sumUp fu 6 6 1140 1140 size codes counts sizes sums = some (sizes', sums') ∧ TT m sizes' sums' := by
  obtain ⟨n, k, rfl, _, h⟩ := h
  have hn := h.1
  unfold f_X3_sumUp
  obtain ⟨p1, a1, b1⟩ := f_fill (fu := fu) (N := 6) (v := 0) hfu (by decide) sizes
  obtain ⟨p2, a2, b2⟩ := f_fill (fu := fu) (N := 6) (v := 0) hfu (by decide) sums
  rw [a1, k_b1S, a2, k_b1S]
  obtain ⟨s1, s2, h1, h2⟩ := f_sumUp_loop (fu := fu) h n fu 0 p1 p2 (by omega) (by omega) (fun g hg => ⟨b1 g hg, b2 g hg⟩)
  refine ⟨s1, s2, h1, fun g hg => ?_⟩
  unfold GS GT
  rw [h.sum (g := fun c => if jg c = g then m c else 0) (fun c q z => q (by show (if jg c = g then m c else 0) = 0; rw [z]; split <;> rfl)), h.sum (g := fun c => if jg c = g then m c * jp c else 0) (fun c q z => q (by show (if jg c = g then m c * jp c else 0) = 0; rw [z, Int.zero_mul]; split <;> rfl))]
  exact h2 g hg
