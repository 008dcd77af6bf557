theorem f_tally_loop {fu n : Nat} {m : Nat → Int} {k : Nat → Nat} {codes counts : Nat → Int32} (h : CRk 1140 106980 m n k codes counts) {g : Nat} (hg : g < 6) : ∀ (d G j : Nat) (tally : Nat → Int32), d + j = n → d < G → (∀ p, p < 1783 → tally p = zI (fb_si (fun i => if jg (k i) = g ∧ k i % 1783 = p then m (k i) else 0) j)) →
    ∃ t', f_X6_tallyProducts_10 fu 1140 1140 1783 (nI n) codes counts (nI g) G (nI j) tally = some t' ∧ ∀ p, p < 1783 → t' p = zI (fb_si (fun i => if jg (k i) = g ∧ k i % 1783 = p then m (k i) else 0) n) := by
  have hn := h.1
  intro d
  induction d with
  | zero =>
    intro G j tally h1 h2 h3
    obtain ⟨G', rfl⟩ : ∃ G', G = G' + 1 := ⟨G - 1, by omega⟩
    have : j = n := by omega
    subst this
    refine ⟨tally, ?_, h3⟩
    rw [fs_X6_tallyProducts_10]
    unfold f_X0_size
    rw [k_b1S, if_pos (show nI j ≤ nI j by rw [q_le (by omega) (by omega)]; omega)]
  | succ d ih =>
    intro G j tally h1 h2 h3
    obtain ⟨G', rfl⟩ : ∃ G', G = G' + 1 := ⟨G - 1, by omega⟩
    have hj := h.2.1 j (by omega)
    have hp : k j % 1783 < 1783 := Nat.mod_lt _ (by decide)
    have hgl : jg (k j) < 6 := Nat.mod_lt _ (by decide)
    have e1 : zI (jp (k j)) + 891 = nI (k j % 1783) := by
      rw [← zI_nat]
      show zI (jp (k j)) + zI 891 = _
      rw [zI_add]; unfold jp; congr 1; omega
    rw [fs_X6_tallyProducts_10]
    unfold f_X0_size
    rw [k_b1S, if_neg (show ¬ nI n ≤ nI j by rw [q_le (by omega) (by omega)]; omega), f_codeAt (by omega) hn (by omega), k_b1S, if_pos (show j < n by omega), hj.1, g_joinProduct hj.2.2.2, k_b1S, e1, k_letS, g_joinGroup hj.2.2.2, k_b1S]
    unfold f_X6_tallyProducts_81
    have e2 : nI j + 1 = nI (j + 1) := by rw [q_1, q_add]
    by_cases x : jg (k j) = g
    · rw [if_pos (show nI (jg (k j)) = nI g by rw [x]), if_neg (nI_pos (by omega)), if_neg (show ¬ nI 1783 ≤ nI (k j % 1783) by rw [q_le (by omega) (by omega)]; omega), if_pos (nI_in hp (by decide)), k_letS, f_countAt (by omega) hn (by omega), k_b1S, if_pos (show j < n by omega), if_pos (nI_in hp (by decide)), q_cl (by omega), e2, k_letS]
      refine ih G' (j + 1) _ (by omega) (by omega) (fun p hpp => ?_)
      rw [q_upd, fb_si_succ]
      by_cases y : p = k j % 1783
      · rw [if_pos y, if_pos ⟨x, y.symm⟩, hj.2.1, h3 _ hp, zI_add, y]
      · rw [if_neg y, if_neg (fun q => y q.2.symm), Int.add_zero]; exact h3 p hpp
    · rw [if_neg (show ¬ nI (jg (k j)) = nI g by rw [q_eq (by omega) (by omega)]; exact x), e2, k_letS]
      refine ih G' (j + 1) _ (by omega) (by omega) (fun p hpp => ?_)
      rw [fb_si_succ, if_neg (fun q => x q.1), Int.add_zero]; exact h3 p hpp
theorem f_tally {fu : Nat} {m : Nat → Int} {size total : Int32} {codes counts : Nat → Int32} (hfu : 100000 ≤ fu) (h : CR 1140 106980 m size total codes counts) {g : Nat} (hg : g < 6) (tally : Nat → Int32) : ∃ t', f_X6_tallyProducts fu 1140 1140 1783 size codes counts (nI g) tally = some t' ∧ ∀ p, p < 1783 → t' p = zI (TL m g p) := by
  obtain ⟨n, k, e1, e2, h⟩ := h
  have hn := h.1
  obtain ⟨t0, f0, z0⟩ := f_fill (fu := fu) (N := 1783) (v := 0) hfu (by decide) tally
  obtain ⟨t', f1, z1⟩ := f_tally_loop (fu := fu) h hg n fu 0 t0 (by omega) (by omega) (fun p hp => z0 p hp)
  refine ⟨t', ?_, fun p hp => ?_⟩
  · unfold f_X6_tallyProducts
    rw [f0, k_b1S, e1]; exact f1
  · rw [z1 p hp]
    unfold TL
    rw [h.sum (g := fun c => if jg c = g ∧ c % 1783 = p then m c else 0) (fun c q z => q (by rw [z]; split <;> rfl))]
theorem f_poo_loop {fu : Nat} {size v1 : Int32} {codes counts tally : Nat → Int32} {T : Nat → Int} (ht : ∀ p, p < 1783 → tally p = zI (T p)) (h0 : ∀ p, 0 ≤ T p) (hb : fb_si T 1783 ≤ 1000000) {o : Nat} (ho : (o : Int) < fb_si T 1783) : ∀ (d G j : Nat), d + j = 1783 → d < G → fb_si T j ≤ o →
    ∃ p, p < 1783 ∧ SELc T o p ∧ f_X6_productOfOccurrence_10 fu 1140 1140 1783 size codes counts v1 (nI o) G (zI (fb_si T j)) (nI j) tally = some (zI ((p : Int) - 891), tally) := by
  intro d
  induction d with
  | zero =>
    intro G j h1 h2 h3
    have : j = 1783 := by omega
    subst this
    omega
  | succ d ih =>
    intro G j h1 h2 h3
    obtain ⟨G', rfl⟩ : ∃ G', G = G' + 1 := ⟨G - 1, by omega⟩
    have hj : j < 1783 := by omega
    have eS : fb_si T (j + 1) = fb_si T j + T j := fb_si_succ _ _
    have b1 := si_nonneg (f := T) (j + 1) (fun i _ => h0 i)
    have b2 := si_le h0 (show j + 1 ≤ 1783 by omega)
    rw [fs_X6_productOfOccurrence_10, if_neg (show ¬ nI 1783 ≤ nI j by rw [q_le (by omega) (by omega)]; omega), if_pos (nI_in (c := j) (N := 1783) hj (by decide)), q_cl (by omega), k_letS, ht j hj, zI_add, ← eS, k_letS]
    by_cases x : fb_si T (j + 1) ≤ o
    · rw [if_pos (show zI (fb_si T (j + 1)) ≤ nI o by rw [← zI_nat o, zI_le (by omega) (by omega) (by omega) (by omega)]; exact x), q_1, q_add, k_letS]
      exact ih G' (j + 1) (by omega) (by omega) x
    · rw [if_neg (show ¬ zI (fb_si T (j + 1)) ≤ nI o by rw [← zI_nat o, zI_le (by omega) (by omega) (by omega) (by omega)]; exact x)]
      unfold f_X6_productOfOccurrence_35
      refine ⟨j, hj, ⟨h3, by omega⟩, ?_⟩
      rw [show nI j - 891 = zI ((j : Int) - 891) by rw [← zI_nat, show (891 : Int32) = zI 891 from rfl, zI_sub]]
theorem f_poo {fu : Nat} {m : Nat → Int} {size total : Int32} {codes counts : Nat → Int32} (hfu : 100000 ≤ fu) (h : CR 1140 106980 m size total codes counts) (h0 : ∀ c, 0 ≤ m c) {g : Nat} (hg : g < 6) (hb : GS m g ≤ 1000000) {o : Nat} (ho : (o : Int) < GS m g) (tally : Nat → Int32) : ∃ p t', SELc (TL m g) o p ∧ f_X6_productOfOccurrence fu 1140 1140 1783 size codes counts (nI g) (nI o) tally = some (zI ((p : Int) - 891), t') := by
  obtain ⟨t', f1, z1⟩ := f_tally hfu h hg tally
  have T0 : ∀ p, 0 ≤ TL m g p := fun p => si_nonneg _ (fun i _ => by
    by_cases x : jg i = g ∧ i % 1783 = p
    · rw [if_pos x]; exact h0 i
    · rw [if_neg x]; exact Int.le_refl _)
  have e := TL_s m g
  obtain ⟨p, hp, sp, ep⟩ := f_poo_loop (fu := fu) (size := size) (v1 := nI g) (codes := codes) (counts := counts) z1 T0 (by omega) (o := o) (by omega) 1783 fu 0 (by omega) (by omega) (show (0 : Int) ≤ o by omega)
  refine ⟨p, t', sp, ?_⟩
  unfold f_X6_productOfOccurrence
  rw [f1, k_b1S]; exact ep
theorem f_pAt_loop {fu : Nat} {v1 : Int32} {cs : Nat → Int32} {T : Nat → Int} (ht : ∀ p, p < 1783 → cs p = zI (T p)) (h0 : ∀ p, 0 ≤ T p) (hb : fb_si T 1783 ≤ 1000000) {o : Nat} (ho : (o : Int) < fb_si T 1783) : ∀ (d G j : Nat), d + j = 1783 → d < G → fb_si T j ≤ o →
    ∃ p, p < 1783 ∧ SELc T o p ∧ f_X9_productAt_4 fu 1783 cs v1 G (nI j) (zI ((o : Int) - fb_si T j)) = some (zI ((p : Int) - 891)) := by
  intro d
  induction d with
  | zero =>
    intro G j h1 h2 h3
    have : j = 1783 := by omega
    subst this
    omega
  | succ d ih =>
    intro G j h1 h2 h3
    obtain ⟨G', rfl⟩ : ∃ G', G = G' + 1 := ⟨G - 1, by omega⟩
    have hj : j < 1783 := by omega
    have eS : fb_si T (j + 1) = fb_si T j + T j := fb_si_succ _ _
    have b0 := si_nonneg (f := T) j (fun i _ => h0 i)
    have bj := h0 j
    have b2 := si_le h0 (show j + 1 ≤ 1783 by omega)
    rw [fs_X9_productAt_4, if_pos (nI_in (c := j) (N := 1783) hj (by decide)), q_cl (by omega), k_letS, ht j hj]
    by_cases x : fb_si T (j + 1) ≤ o
    · rw [if_neg (show ¬ zI ((o : Int) - fb_si T j) < zI (T j) by rw [zI_lt (by omega) (by omega) (by omega) (by omega)]; omega), if_pos (q_in (i := j) (N := 1783) hj (by decide)), k_letS, zI_sub, k_letS, q_1, q_add, k_letS, show (o : Int) - fb_si T j - T j = (o : Int) - fb_si T (j + 1) by omega]
      exact ih G' (j + 1) (by omega) (by omega) x
    · rw [if_pos (show zI ((o : Int) - fb_si T j) < zI (T j) by rw [zI_lt (by omega) (by omega) (by omega) (by omega)]; omega)]
      unfold f_X9_productAt_29
      refine ⟨j, hj, ⟨h3, by omega⟩, ?_⟩
      rw [show nI j - 891 = zI ((j : Int) - 891) by rw [← zI_nat, show (891 : Int32) = zI 891 from rfl, zI_sub]]
theorem f_pAt {fu : Nat} {m : Nat → Int} (hfu : 100000 ≤ fu) (h0 : ∀ c, 0 ≤ m c) {g : Nat} (hb : GS m g ≤ 1000000) {o : Nat} (ho : (o : Int) < GS m g) {cs : Nat → Int32} (hcs : ∀ p, p < 1783 → cs p = zI (TL m g p)) : ∃ p, SELc (TL m g) o p ∧ f_X9_productAt fu 1783 cs (nI o) = some (zI ((p : Int) - 891)) := by
  have T0 : ∀ p, 0 ≤ TL m g p := fun p => si_nonneg _ (fun i _ => by
    by_cases x : jg i = g ∧ i % 1783 = p
    · rw [if_pos x]; exact h0 i
    · rw [if_neg x]; exact Int.le_refl _)
  have e := TL_s m g
  obtain ⟨p, hp, sp, ep⟩ := f_pAt_loop (fu := fu) (v1 := nI o) hcs T0 (by omega) (o := o) (by omega) 1783 fu 0 (by omega) (by omega) (show (0 : Int) ≤ o by omega)
  refine ⟨p, sp, ?_⟩
  have e0 : fb_si (TL m g) 0 = 0 := rfl
  rw [e0, Int.sub_zero, zI_nat] at ep
  unfold f_X9_productAt
  exact ep
/-- the same product on both sides -/
theorem f_both {fu : Nat} {m : Nat → Int} {size total : Int32} {codes counts : Nat → Int32} (hfu : 100000 ≤ fu) (h : CR 1140 106980 m size total codes counts) (h0 : ∀ c, 0 ≤ m c) {g : Nat} (hg : g < 6) (hb : GS m g ≤ 1000000) {o : Nat} (ho : (o : Int) < GS m g) (tally : Nat → Int32) {cs : Nat → Int32} (hcs : ∀ p, p < 1783 → cs p = zI (TL m g p)) : ∃ (r : Int32) (t' : Nat → Int32), f_X6_productOfOccurrence fu 1140 1140 1783 size codes counts (nI g) (nI o) tally = some (r, t') ∧ f_X9_productAt fu 1783 cs (nI o) = some r := by
  obtain ⟨p, t', sp, ep⟩ := f_poo hfu h h0 hg hb ho tally
  obtain ⟨p2, sp2, ep2⟩ := f_pAt hfu h0 hb ho hcs
  have T0 : ∀ p, 0 ≤ TL m g p := fun p => si_nonneg _ (fun i _ => by
    by_cases x : jg i = g ∧ i % 1783 = p
    · rw [if_pos x]; exact h0 i
    · rw [if_neg x]; exact Int.le_refl _)
  have := SELc.uniq T0 sp sp2
  subst this
  exact ⟨_, t', ep, ep2⟩
theorem GS_bd {mL mR : Nat → Int} (hL : TB 11940 mL) (hR : TB 190 mR) (mt : Nat → Nat → Bool) (g : Nat) : 0 ≤ GS (JJ mt mL mR) g ∧ GS (JJ mt mL mR) g ≤ 3600 := by
  have j0 : ∀ c, 0 ≤ JJ mt mL mR c := fun c => (JJ_bd hL hR mt c).1
  refine ⟨si_nonneg _ (fun i _ => by
    by_cases x : jg i = g
    · rw [if_pos x]; exact j0 i
    · rw [if_neg x]; exact Int.le_refl _), ?_⟩
  have h := JW mt mL mR (fun c => if jg c = g then 1 else 0)
  have e : GS (JJ mt mL mR) g = fb_si (fun c => (fun c => if jg c = g then (1 : Int) else 0) c * JJ mt mL mR c) 106980 := fb_si_cong (fun c _ => by
    show (if jg c = g then JJ mt mL mR c else 0) = (if jg c = g then (1 : Int) else 0) * JJ mt mL mR c
    split
    · rw [Int.one_mul]
    · rw [Int.zero_mul])
  rw [e, h]
  have h2 : fb_si (fun l => mL l * fb_si (fun r => mR r * (if mt l r = true then (if jg (jc l r) = g then (1 : Int) else 0) else 0)) 190) 11940 ≤ fb_si (fun l => mL l * 60) 11940 := si_mono 11940 (fun l _ => by
    have w : ∀ r, 0 ≤ (if mt l r = true then (if jg (jc l r) = g then (1 : Int) else 0) else 0) ∧ (if mt l r = true then (if jg (jc l r) = g then (1 : Int) else 0) else 0) ≤ 1 := fun r => by
      split
      · split <;> omega
      · omega
    have i0 : fb_si (fun r => mR r * (if mt l r = true then (if jg (jc l r) = g then (1 : Int) else 0) else 0)) 190 ≤ fb_si mR 190 := si_mono 190 (fun r _ => (mul01 (hR.1 r) (w r).1 (w r).2).2)
    exact Int.mul_le_mul_of_nonneg_left (Int.le_trans i0 hR.2.2) (hL.1 l))
  refine Int.le_trans h2 ?_
  rw [si_mulr]
  have := hL.2.2
  omega
theorem reqI6 {v1 : Int32} {g : Nat} (hg : g < 6) (ev : v1 = nI g) : f_X8_requireIndex v1 6 = some 0 := by
  rcases f_reqI (n := 6) (by decide) v1 with ⟨q1, _⟩ | ⟨_, no⟩
  · exact q1
  · exact absurd ⟨g, hg, ev⟩ no
theorem reqI6n {v1 : Int32} (no : ¬ ∃ g, g < 6 ∧ v1 = nI g) : f_X8_requireIndex v1 6 = some 3 := by
  rcases f_reqI (n := 6) (by decide) v1 with ⟨_, h⟩ | ⟨q1, _⟩
  · exact absurd h no
  · exact q1
theorem f_rowsG {g N : Nat} (hg : g < 6) {m : Nat → Int} {sizes sums : Nat → Int32} (h : TT m sizes sums) (hN : GS m g = N) (hb : N ≤ 1000000) : f_X8_requireRowsInGroup 6 sizes (nI g) = some (if N = 0 then 4 else 0) := by
  unfold f_X8_requireRowsInGroup f_X6_totals
  rw [k_b1S, f_sizeOf hg h, k_b1S, hN, zI_nat]
  by_cases z : N = 0
  · rw [if_neg (by rw [z]; decide), if_pos z]
  · rw [if_pos (show (0 : Int32) < nI N from nI_lt (a := 0) (by omega) (by omega)), if_neg z]
theorem f_dif_loop {fu : Nat} {size v1 : Int32} {codes counts tally : Nat → Int32} {T : Nat → Int} (ht : ∀ p, p < 1783 → tally p = zI (T p)) (hb : ∀ p, 0 ≤ T p ∧ T p ≤ 1000000) : ∀ (d G j : Nat), d + j = 1783 → d < G → f_X6_differentProducts_9 fu 1140 1140 1783 size codes counts v1 G (nI (fb_ct (NZ T) j)) (nI j) tally = some (nI (fb_ct (NZ T) 1783), tally) := by
  intro d
  induction d with
  | zero =>
    intro G j h1 h2
    obtain ⟨G', rfl⟩ : ∃ G', G = G' + 1 := ⟨G - 1, by omega⟩
    have : j = 1783 := by omega
    subst this
    rw [fs_X6_differentProducts_9, if_pos (show nI 1783 ≤ nI 1783 by decide)]
  | succ d ih =>
    intro G j h1 h2
    obtain ⟨G', rfl⟩ : ∃ G', G = G' + 1 := ⟨G - 1, by omega⟩
    have hj : j < 1783 := by omega
    have hbj := hb j
    rw [fs_X6_differentProducts_9, if_neg (show ¬ nI 1783 ≤ nI j by rw [q_le (by omega) (by omega)]; omega), if_pos (nI_in (c := j) (N := 1783) hj (by decide)), q_cl (by omega), k_letS, ht j hj]
    unfold f_X6_differentProducts_30
    have e2 : nI j + 1 = nI (j + 1) := by rw [q_1, q_add]
    have nx := ih G' (j + 1) (by omega) (by omega)
    by_cases z : T j = 0
    · rw [NZ_f z] at nx
      rw [if_pos (show zI (T j) = 0 by rw [z]; rfl), e2, k_letS]; exact nx
    · rw [NZ_t z] at nx
      rw [if_neg (fun q => z ((zI_z (by omega) (by omega)).mp q)), e2, k_letS, k_letS, q_1, q_add]; exact nx
theorem f_dif9_loop {fu : Nat} {fsize v1 thr ic gr gt : Int32} {rows size filter stack cs : Nat → Int32} {T : Nat → Int} (ht : ∀ p, p < 1783 → cs p = zI (T p)) (hb : ∀ p, 0 ≤ T p ∧ T p ≤ 1000000) : ∀ (d G j : Nat), d + j = 1783 → d < G → f_X9_groupDistinct_14 fu 960 16 40 40 1783 fsize rows size filter v1 G (nI (fb_ct (NZ T) j)) (nI j) thr ic gr gt stack cs = some (nI (fb_ct (NZ T) 1783), thr, ic, gr, gt, stack, cs) := by
  intro d
  induction d with
  | zero =>
    intro G j h1 h2
    obtain ⟨G', rfl⟩ : ∃ G', G = G' + 1 := ⟨G - 1, by omega⟩
    have : j = 1783 := by omega
    subst this
    rw [fs_X9_groupDistinct_14, if_pos (show (1783 : Int32) ≤ nI 1783 by decide)]
  | succ d ih =>
    intro G j h1 h2
    obtain ⟨G', rfl⟩ : ∃ G', G = G' + 1 := ⟨G - 1, by omega⟩
    have hj : j < 1783 := by omega
    have hbj := hb j
    rw [fs_X9_groupDistinct_14, if_neg (show ¬ (1783 : Int32) ≤ nI j by rw [show (1783 : Int32) = nI 1783 from rfl, q_le (by omega) (by omega)]; omega), if_pos (nI_in (c := j) (N := 1783) hj (by decide)), q_cl (by omega), k_letS, ht j hj]
    unfold f_X9_groupDistinct_36
    have e2 : nI j + 1 = nI (j + 1) := by rw [q_1, q_add]
    have nx := ih G' (j + 1) (by omega) (by omega)
    by_cases z : T j = 0
    · rw [NZ_f z] at nx
      rw [if_pos (show zI (T j) ≤ 0 by rw [z]; decide), e2, k_letS, k_letS, Int32.add_zero]; exact nx
    · rw [NZ_t z] at nx
      rw [if_neg (show ¬ zI (T j) ≤ 0 from fun q => by have := (zI_le (b := 0) (by omega) (by omega) (by decide) (by decide)).mp q; omega), e2, k_letS, k_letS, q_1, q_add]; exact nx

theorem P_groupMinimum {fu : Nat} (hfu : 100000 ≤ fu) {I : Nat → Int32} {F : Nat → Nat → Int32} (hI : Inv I F) (out : Nat → Int64) (v1 : Int32) : ∃ (c9 : Int32 × (Nat → Int32) × (Nat → Int64)) (u9 : Int32 × Int32 × Int32 × Int32 × Int32 × (Nat → Int32) × (Nat → Int32)), f_L_groupMinimum fu 1140 1140 6 1783 1 (I 36) (F 32) (F 33) (F 36) v1 (F 44) out = some c9 ∧ f_X9_groupMinimum fu 960 16 40 40 1783 (I 53) (F 53) (F 54) (F 55) v1 (I 50) (I 61) (I 62) (I 63) (F 59) (F 60) = some u9 ∧ u9.2.1 = c9.1 ∧ (c9.1 = 0 → c9.2.2 0 = u9.1.toInt64) ∧ Inv (gI [I 0, I 1, I 2, I 3, I 4, I 5, I 6, I 7, I 8, I 9, I 10, I 11, I 12, I 13, I 14, I 15, I 16, I 17, I 18, I 19, I 20, I 21, I 22, I 23, I 24, I 25, I 26, I 27, I 28, I 29, I 30, I 31, I 32, I 33, I 34, I 35, I 36, I 37, I 38, I 39, I 40, I 41, I 42, I 43, I 44, I 45, I 46, I 47, I 48, I 49, u9.2.1, I 51, I 52, I 53, I 54, I 55, I 56, I 57, I 58, I 59, I 60, u9.2.2.1, u9.2.2.2.1, u9.2.2.2.2.1, I 64, I 65, I 66, I 67, I 68, I 69, I 70]) (gF [F 0, F 1, F 2, F 3, F 4, F 5, F 6, F 7, F 8, F 9, F 10, F 11, F 12, F 13, F 14, F 15, F 16, F 17, F 18, F 19, F 20, F 21, F 22, F 23, F 24, F 25, F 26, F 27, F 28, F 29, F 30, F 31, F 32, F 33, F 34, F 35, F 36, F 37, F 38, F 39, F 40, F 41, F 42, F 43, c9.2.1, F 45, F 46, F 47, F 48, F 49, F 50, F 51, F 52, F 53, F 54, F 55, F 56, F 57, F 58, u9.2.2.2.2.2.1, u9.2.2.2.2.2.2, F 61, F 62, F 63, F 64, F 65, F 66, F 67]) := by
  obtain ⟨cur, plan, old, sav, hs, flt, sfl, wat, swa, tn, ch, dep, nx, tx, fa, sv, ha, c1, c2, c3, c4, c5, c6, m1, m2, m3, m4, m5⟩ := hI
  have tb := R2.tb m1.1
  have j0 : ∀ c, 0 ≤ JF flt cur c := fun c => (JJ_bd tb.1 tb.2 (mtF flt) c).1
  rcases f_finds hfu m1.1 (HM9.of hfu ha.1 m2.1) v1 (I 50) m5.2.2.2.2 (I 62) (I 63) (F 59) with ⟨g, ic', st', cs', hg, ev, f1, cl, hcs⟩ | ⟨no, f1⟩
  · have gb : 0 ≤ GS (JF flt cur) g ∧ GS (JF flt cur) g ≤ 3600 := GS_bd tb.1 tb.2 (mtF flt) g
    have hcs' : ∀ p, p < 1783 → cs' p = zI (TL (JF flt cur) g p) := hcs
    obtain ⟨N, hN⟩ : ∃ N : Nat, GS (JF flt cur) g = N := ⟨(GS (JF flt cur) g).toNat, by omega⟩
    have f1' : f_X9_finds fu 960 16 40 40 1783 (I 53) (F 53) (F 54) (F 55) v1 (I 50) (I 61) (I 62) (I 63) (F 59) (F 60) = some (1, 0, ic', nI N, zI (GT (JF flt cur) g), st', cs') := by rw [← zI_nat, ← hN]; exact f1
    have q1 := reqI6 hg ev
    have q2 := f_rowsG hg c5.2.1 hN (by omega)
    by_cases z : N = 0
    · have h1 : f_L_groupMinimum fu 1140 1140 6 1783 1 (I 36) (F 32) (F 33) (F 36) v1 (F 44) out = some (2, F 44, out) := by
        unfold f_L_groupMinimum f_X8_groupMinimum
        rw [q1, k_b1S, if_pos rfl, ev, q2, if_pos z, k_b1S, if_neg (by decide), k_b3S, if_neg (by decide), if_neg (by decide), if_pos rfl]
      have h2 : f_X9_groupMinimum fu 960 16 40 40 1783 (I 53) (F 53) (F 54) (F 55) v1 (I 50) (I 61) (I 62) (I 63) (F 59) (F 60) = some (0, 2, ic', nI N, zI (GT (JF flt cur) g), st', cs') := by
        unfold f_X9_groupMinimum f_X9_fails
        rw [f1', k_b7S, if_neg (by decide), if_pos (show nI N = 0 by rw [z]; rfl), k_b2S]
      exact ⟨_, _, h1, h2, rfl, fun q => absurd (show (2 : Int32) = 0 from q) (by decide), cur, plan, old, sav, hs, flt, sfl, wat, swa, tn, ch, dep, nx, tx, fa, sv, ha, c1, c2, c3, c4, c5, c6, m1, m2, m3, m4, ⟨m5.1, m5.2.1, m5.2.2.1, m5.2.2.2.1, cl⟩⟩
    · obtain ⟨r, t', e1, e2⟩ := f_both (fu := fu) hfu c5.1 j0 hg (by omega) (o := 0) (by omega) (F 44) hcs'
      have h1 : f_L_groupMinimum fu 1140 1140 6 1783 1 (I 36) (F 32) (F 33) (F 36) v1 (F 44) out = some (0, t', vp_updL out (0 : Int32).toNatClampNeg r.toInt64) := by
        have e1' : f_X6_productOfOccurrence fu 1140 1140 1783 (I 36) (F 32) (F 33) (nI g) 0 (F 44) = some (r, t') := e1
        unfold f_L_groupMinimum f_X8_groupMinimum
        rw [q1, k_b1S, if_pos rfl, ev, q2, if_neg z, k_b1S, if_pos rfl, e1', k_b2S, k_b3S, if_pos rfl, if_pos (by decide)]
      have h2 : f_X9_groupMinimum fu 960 16 40 40 1783 (I 53) (F 53) (F 54) (F 55) v1 (I 50) (I 61) (I 62) (I 63) (F 59) (F 60) = some (r, 0, ic', nI N, zI (GT (JF flt cur) g), st', cs') := by
        have e2' : f_X9_productAt fu 1783 cs' 0 = some r := e2
        unfold f_X9_groupMinimum
        rw [f1', k_b7S, if_neg (by decide), if_neg (show ¬ nI N = 0 from nI_ne0 (by omega) (by omega)), e2', k_b1S]
      exact ⟨_, _, h1, h2, rfl, fun _ => rfl, cur, plan, old, sav, hs, flt, sfl, wat, swa, tn, ch, dep, nx, tx, fa, sv, ha, c1, c2, c3, c4, c5, c6, m1, m2, m3, m4, ⟨m5.1, m5.2.1, m5.2.2.1, m5.2.2.2.1, cl⟩⟩
  · have q1 := reqI6n no
    have h1 : f_L_groupMinimum fu 1140 1140 6 1783 1 (I 36) (F 32) (F 33) (F 36) v1 (F 44) out = some (1, F 44, out) := by
      unfold f_L_groupMinimum f_X8_groupMinimum
      rw [q1, k_b1S, if_neg (by decide), k_b3S, if_neg (by decide), if_pos rfl]
    have h2 : f_X9_groupMinimum fu 960 16 40 40 1783 (I 53) (F 53) (F 54) (F 55) v1 (I 50) (I 61) (I 62) (I 63) (F 59) (F 60) = some (0, 1, I 61, I 62, I 63, F 59, F 60) := by
      unfold f_X9_groupMinimum
      rw [f1, k_b7S, if_pos rfl]
    exact ⟨_, _, h1, h2, rfl, fun q => absurd (show (1 : Int32) = 0 from q) (by decide), cur, plan, old, sav, hs, flt, sfl, wat, swa, tn, ch, dep, nx, tx, fa, sv, ha, c1, c2, c3, c4, c5, c6, m1, m2, m3, m4, m5⟩

theorem P_groupMaximum {fu : Nat} (hfu : 100000 ≤ fu) {I : Nat → Int32} {F : Nat → Nat → Int32} (hI : Inv I F) (out : Nat → Int64) (v1 : Int32) : ∃ (c9 : Int32 × (Nat → Int32) × (Nat → Int64)) (u9 : Int32 × Int32 × Int32 × Int32 × Int32 × (Nat → Int32) × (Nat → Int32)), f_L_groupMaximum fu 1140 1140 6 1783 1 (I 36) (F 32) (F 33) (F 36) v1 (F 44) out = some c9 ∧ f_X9_groupMaximum fu 960 16 40 40 1783 (I 53) (F 53) (F 54) (F 55) v1 (I 50) (I 61) (I 62) (I 63) (F 59) (F 60) = some u9 ∧ u9.2.1 = c9.1 ∧ (c9.1 = 0 → c9.2.2 0 = u9.1.toInt64) ∧ Inv (gI [I 0, I 1, I 2, I 3, I 4, I 5, I 6, I 7, I 8, I 9, I 10, I 11, I 12, I 13, I 14, I 15, I 16, I 17, I 18, I 19, I 20, I 21, I 22, I 23, I 24, I 25, I 26, I 27, I 28, I 29, I 30, I 31, I 32, I 33, I 34, I 35, I 36, I 37, I 38, I 39, I 40, I 41, I 42, I 43, I 44, I 45, I 46, I 47, I 48, I 49, u9.2.1, I 51, I 52, I 53, I 54, I 55, I 56, I 57, I 58, I 59, I 60, u9.2.2.1, u9.2.2.2.1, u9.2.2.2.2.1, I 64, I 65, I 66, I 67, I 68, I 69, I 70]) (gF [F 0, F 1, F 2, F 3, F 4, F 5, F 6, F 7, F 8, F 9, F 10, F 11, F 12, F 13, F 14, F 15, F 16, F 17, F 18, F 19, F 20, F 21, F 22, F 23, F 24, F 25, F 26, F 27, F 28, F 29, F 30, F 31, F 32, F 33, F 34, F 35, F 36, F 37, F 38, F 39, F 40, F 41, F 42, F 43, c9.2.1, F 45, F 46, F 47, F 48, F 49, F 50, F 51, F 52, F 53, F 54, F 55, F 56, F 57, F 58, u9.2.2.2.2.2.1, u9.2.2.2.2.2.2, F 61, F 62, F 63, F 64, F 65, F 66, F 67]) := by
  obtain ⟨cur, plan, old, sav, hs, flt, sfl, wat, swa, tn, ch, dep, nx, tx, fa, sv, ha, c1, c2, c3, c4, c5, c6, m1, m2, m3, m4, m5⟩ := hI
  have tb := R2.tb m1.1
  have j0 : ∀ c, 0 ≤ JF flt cur c := fun c => (JJ_bd tb.1 tb.2 (mtF flt) c).1
  rcases f_finds hfu m1.1 (HM9.of hfu ha.1 m2.1) v1 (I 50) m5.2.2.2.2 (I 62) (I 63) (F 59) with ⟨g, ic', st', cs', hg, ev, f1, cl, hcs⟩ | ⟨no, f1⟩
  · have gb : 0 ≤ GS (JF flt cur) g ∧ GS (JF flt cur) g ≤ 3600 := GS_bd tb.1 tb.2 (mtF flt) g
    have hcs' : ∀ p, p < 1783 → cs' p = zI (TL (JF flt cur) g p) := hcs
    obtain ⟨N, hN⟩ : ∃ N : Nat, GS (JF flt cur) g = N := ⟨(GS (JF flt cur) g).toNat, by omega⟩
    have f1' : f_X9_finds fu 960 16 40 40 1783 (I 53) (F 53) (F 54) (F 55) v1 (I 50) (I 61) (I 62) (I 63) (F 59) (F 60) = some (1, 0, ic', nI N, zI (GT (JF flt cur) g), st', cs') := by rw [← zI_nat, ← hN]; exact f1
    have q1 := reqI6 hg ev
    have q2 := f_rowsG hg c5.2.1 hN (by omega)
    have q3 : f_X3_sizeOf 6 (F 36) (nI g) = some (nI N) := by rw [f_sizeOf hg c5.2.1, hN, zI_nat]
    by_cases z : N = 0
    · have h1 : f_L_groupMaximum fu 1140 1140 6 1783 1 (I 36) (F 32) (F 33) (F 36) v1 (F 44) out = some (2, F 44, out) := by
        unfold f_L_groupMaximum f_X8_groupMaximum
        rw [q1, k_b1S, if_pos rfl, ev, q2, if_pos z, k_b1S, if_neg (by decide), k_b3S, if_neg (by decide), if_neg (by decide), if_pos rfl]
      have h2 : f_X9_groupMaximum fu 960 16 40 40 1783 (I 53) (F 53) (F 54) (F 55) v1 (I 50) (I 61) (I 62) (I 63) (F 59) (F 60) = some (0, 2, ic', nI N, zI (GT (JF flt cur) g), st', cs') := by
        unfold f_X9_groupMaximum f_X9_fails
        rw [f1', k_b7S, if_neg (by decide), if_pos (show nI N = 0 by rw [z]; rfl), k_b2S]
      exact ⟨_, _, h1, h2, rfl, fun q => absurd (show (2 : Int32) = 0 from q) (by decide), cur, plan, old, sav, hs, flt, sfl, wat, swa, tn, ch, dep, nx, tx, fa, sv, ha, c1, c2, c3, c4, c5, c6, m1, m2, m3, m4, ⟨m5.1, m5.2.1, m5.2.2.1, m5.2.2.2.1, cl⟩⟩
    · obtain ⟨r, t', e1, e2⟩ := f_both (fu := fu) hfu c5.1 j0 hg (by omega) (o := N - 1) (by omega) (F 44) hcs'
      have en : nI N - 1 = nI (N - 1) := by rw [q_1, q_sub (by omega)]
      have h1 : f_L_groupMaximum fu 1140 1140 6 1783 1 (I 36) (F 32) (F 33) (F 36) v1 (F 44) out = some (0, t', vp_updL out (0 : Int32).toNatClampNeg r.toInt64) := by
        unfold f_L_groupMaximum f_X8_groupMaximum f_X6_totals
        rw [q1, k_b1S, if_pos rfl, ev, q2, if_neg z, k_b1S, if_pos rfl, k_b1S, q3, k_b1S, en, e1, k_b2S, k_b3S, if_pos rfl, if_pos (by decide)]
      have h2 : f_X9_groupMaximum fu 960 16 40 40 1783 (I 53) (F 53) (F 54) (F 55) v1 (I 50) (I 61) (I 62) (I 63) (F 59) (F 60) = some (r, 0, ic', nI N, zI (GT (JF flt cur) g), st', cs') := by
        unfold f_X9_groupMaximum
        rw [f1', k_b7S, if_neg (by decide), if_neg (show ¬ nI N = 0 from nI_ne0 (by omega) (by omega)), en, e2, k_b1S]
      exact ⟨_, _, h1, h2, rfl, fun _ => rfl, cur, plan, old, sav, hs, flt, sfl, wat, swa, tn, ch, dep, nx, tx, fa, sv, ha, c1, c2, c3, c4, c5, c6, m1, m2, m3, m4, ⟨m5.1, m5.2.1, m5.2.2.1, m5.2.2.2.1, cl⟩⟩
  · have q1 := reqI6n no
    have h1 : f_L_groupMaximum fu 1140 1140 6 1783 1 (I 36) (F 32) (F 33) (F 36) v1 (F 44) out = some (1, F 44, out) := by
      unfold f_L_groupMaximum f_X8_groupMaximum
      rw [q1, k_b1S, if_neg (by decide), k_b3S, if_neg (by decide), if_pos rfl]
    have h2 : f_X9_groupMaximum fu 960 16 40 40 1783 (I 53) (F 53) (F 54) (F 55) v1 (I 50) (I 61) (I 62) (I 63) (F 59) (F 60) = some (0, 1, I 61, I 62, I 63, F 59, F 60) := by
      unfold f_X9_groupMaximum
      rw [f1, k_b7S, if_pos rfl]
    exact ⟨_, _, h1, h2, rfl, fun q => absurd (show (1 : Int32) = 0 from q) (by decide), cur, plan, old, sav, hs, flt, sfl, wat, swa, tn, ch, dep, nx, tx, fa, sv, ha, c1, c2, c3, c4, c5, c6, m1, m2, m3, m4, m5⟩

theorem P_groupElement {fu : Nat} (hfu : 100000 ≤ fu) {I : Nat → Int32} {F : Nat → Nat → Int32} (hI : Inv I F) (out : Nat → Int64) (v1 : Int32) (v2 : Int32) : ∃ (c9 : Int32 × (Nat → Int32) × (Nat → Int64)) (u9 : Int32 × Int32 × Int32 × Int32 × Int32 × (Nat → Int32) × (Nat → Int32)), f_L_groupElement fu 1140 1140 6 1783 1 (I 36) (F 32) (F 33) (F 36) v1 v2 (F 44) out = some c9 ∧ f_X9_groupElement fu 960 16 40 40 1783 (I 53) (F 53) (F 54) (F 55) v1 v2 (I 50) (I 61) (I 62) (I 63) (F 59) (F 60) = some u9 ∧ u9.2.1 = c9.1 ∧ (c9.1 = 0 → c9.2.2 0 = u9.1.toInt64) ∧ Inv (gI [I 0, I 1, I 2, I 3, I 4, I 5, I 6, I 7, I 8, I 9, I 10, I 11, I 12, I 13, I 14, I 15, I 16, I 17, I 18, I 19, I 20, I 21, I 22, I 23, I 24, I 25, I 26, I 27, I 28, I 29, I 30, I 31, I 32, I 33, I 34, I 35, I 36, I 37, I 38, I 39, I 40, I 41, I 42, I 43, I 44, I 45, I 46, I 47, I 48, I 49, u9.2.1, I 51, I 52, I 53, I 54, I 55, I 56, I 57, I 58, I 59, I 60, u9.2.2.1, u9.2.2.2.1, u9.2.2.2.2.1, I 64, I 65, I 66, I 67, I 68, I 69, I 70]) (gF [F 0, F 1, F 2, F 3, F 4, F 5, F 6, F 7, F 8, F 9, F 10, F 11, F 12, F 13, F 14, F 15, F 16, F 17, F 18, F 19, F 20, F 21, F 22, F 23, F 24, F 25, F 26, F 27, F 28, F 29, F 30, F 31, F 32, F 33, F 34, F 35, F 36, F 37, F 38, F 39, F 40, F 41, F 42, F 43, c9.2.1, F 45, F 46, F 47, F 48, F 49, F 50, F 51, F 52, F 53, F 54, F 55, F 56, F 57, F 58, u9.2.2.2.2.2.1, u9.2.2.2.2.2.2, F 61, F 62, F 63, F 64, F 65, F 66, F 67]) := by
  obtain ⟨cur, plan, old, sav, hs, flt, sfl, wat, swa, tn, ch, dep, nx, tx, fa, sv, ha, c1, c2, c3, c4, c5, c6, m1, m2, m3, m4, m5⟩ := hI
  have tb := R2.tb m1.1
  have j0 : ∀ c, 0 ≤ JF flt cur c := fun c => (JJ_bd tb.1 tb.2 (mtF flt) c).1
  rcases f_finds hfu m1.1 (HM9.of hfu ha.1 m2.1) v1 (I 50) m5.2.2.2.2 (I 62) (I 63) (F 59) with ⟨g, ic', st', cs', hg, ev, f1, cl, hcs⟩ | ⟨no, f1⟩
  · have gb : 0 ≤ GS (JF flt cur) g ∧ GS (JF flt cur) g ≤ 3600 := GS_bd tb.1 tb.2 (mtF flt) g
    have hcs' : ∀ p, p < 1783 → cs' p = zI (TL (JF flt cur) g p) := hcs
    obtain ⟨N, hN⟩ : ∃ N : Nat, GS (JF flt cur) g = N := ⟨(GS (JF flt cur) g).toNat, by omega⟩
    have f1' : f_X9_finds fu 960 16 40 40 1783 (I 53) (F 53) (F 54) (F 55) v1 (I 50) (I 61) (I 62) (I 63) (F 59) (F 60) = some (1, 0, ic', nI N, zI (GT (JF flt cur) g), st', cs') := by rw [← zI_nat, ← hN]; exact f1
    have q1 := reqI6 hg ev
    have q3 : f_X3_sizeOf 6 (F 36) (nI g) = some (nI N) := by rw [f_sizeOf hg c5.2.1, hN, zI_nat]
    rcases bw_ix1 (n := N) (by omega) v2 with ⟨b2, o, ho, eo⟩ | ⟨b2, no2⟩
    · obtain ⟨r, t', e1, e2⟩ := f_both (fu := fu) hfu c5.1 j0 hg (by omega) (o := o) (by omega) (F 44) hcs'
      have h1 : f_L_groupElement fu 1140 1140 6 1783 1 (I 36) (F 32) (F 33) (F 36) v1 v2 (F 44) out = some (0, t', vp_updL out (0 : Int32).toNatClampNeg r.toInt64) := by
        unfold f_L_groupElement f_X8_groupElement f_X6_totals
        rw [q1, k_b1S, if_pos rfl, eo, if_neg (nI_pos (by omega)), k_b1S, ev, q3, k_b1S, if_pos (nI_lt ho (by omega)), e1, k_b2S, k_b3S, if_pos rfl, if_pos (by decide)]
      have h2 : f_X9_groupElement fu 960 16 40 40 1783 (I 53) (F 53) (F 54) (F 55) v1 v2 (I 50) (I 61) (I 62) (I 63) (F 59) (F 60) = some (r, 0, ic', nI N, zI (GT (JF flt cur) g), st', cs') := by
        unfold f_X9_groupElement
        rw [f1', k_b7S, if_neg (by decide), f_between, b2, k_b1S, if_neg (by decide), eo, e2, k_b1S]
      exact ⟨_, _, h1, h2, rfl, fun _ => rfl, cur, plan, old, sav, hs, flt, sfl, wat, swa, tn, ch, dep, nx, tx, fa, sv, ha, c1, c2, c3, c4, c5, c6, m1, m2, m3, m4, ⟨m5.1, m5.2.1, m5.2.2.1, m5.2.2.2.1, cl⟩⟩
    · have h1 : f_L_groupElement fu 1140 1140 6 1783 1 (I 36) (F 32) (F 33) (F 36) v1 v2 (F 44) out = some (2, F 44, out) := by
        unfold f_L_groupElement f_X8_groupElement f_X6_totals
        rw [q1, k_b1S, if_pos rfl]
        by_cases hneg : v2 < 0
        · rw [if_pos hneg, k_b3S, if_neg (by decide), if_neg (by decide), if_pos rfl]
        · obtain ⟨o, ho, eo⟩ := i_nat hneg
          rw [if_neg hneg, k_b1S, ev, q3, k_b1S, if_neg (show ¬ v2 < nI N from fun q => no2 ⟨o, by rw [eo, q_lt (by omega) (by omega)] at q; exact q, eo⟩), k_b3S, if_neg (by decide), if_neg (by decide), if_pos rfl]
      have h2 : f_X9_groupElement fu 960 16 40 40 1783 (I 53) (F 53) (F 54) (F 55) v1 v2 (I 50) (I 61) (I 62) (I 63) (F 59) (F 60) = some (0, 2, ic', nI N, zI (GT (JF flt cur) g), st', cs') := by
        unfold f_X9_groupElement f_X9_fails
        rw [f1', k_b7S, if_neg (by decide), f_between, b2, k_b1S, if_pos (by decide), k_b2S]
      exact ⟨_, _, h1, h2, rfl, fun q => absurd (show (2 : Int32) = 0 from q) (by decide), cur, plan, old, sav, hs, flt, sfl, wat, swa, tn, ch, dep, nx, tx, fa, sv, ha, c1, c2, c3, c4, c5, c6, m1, m2, m3, m4, ⟨m5.1, m5.2.1, m5.2.2.1, m5.2.2.2.1, cl⟩⟩
  · have q1 := reqI6n no
    have h1 : f_L_groupElement fu 1140 1140 6 1783 1 (I 36) (F 32) (F 33) (F 36) v1 v2 (F 44) out = some (1, F 44, out) := by
      unfold f_L_groupElement f_X8_groupElement
      rw [q1, k_b1S, if_neg (by decide), k_b3S, if_neg (by decide), if_pos rfl]
    have h2 : f_X9_groupElement fu 960 16 40 40 1783 (I 53) (F 53) (F 54) (F 55) v1 v2 (I 50) (I 61) (I 62) (I 63) (F 59) (F 60) = some (0, 1, I 61, I 62, I 63, F 59, F 60) := by
      unfold f_X9_groupElement
      rw [f1, k_b7S, if_pos rfl]
    exact ⟨_, _, h1, h2, rfl, fun q => absurd (show (1 : Int32) = 0 from q) (by decide), cur, plan, old, sav, hs, flt, sfl, wat, swa, tn, ch, dep, nx, tx, fa, sv, ha, c1, c2, c3, c4, c5, c6, m1, m2, m3, m4, m5⟩

theorem P_groupDistinct {fu : Nat} (hfu : 100000 ≤ fu) {I : Nat → Int32} {F : Nat → Nat → Int32} (hI : Inv I F) (out : Nat → Int64) (v1 : Int32) : ∃ (c9 : Int32 × (Nat → Int32) × (Nat → Int64)) (u9 : Int32 × Int32 × Int32 × Int32 × Int32 × (Nat → Int32) × (Nat → Int32)), f_L_groupDistinct fu 1140 1140 1783 1 (I 36) (F 32) (F 33) v1 (F 44) out = some c9 ∧ f_X9_groupDistinct fu 960 16 40 40 1783 (I 53) (F 53) (F 54) (F 55) v1 (I 50) (I 61) (I 62) (I 63) (F 59) (F 60) = some u9 ∧ u9.2.1 = c9.1 ∧ (c9.1 = 0 → c9.2.2 0 = u9.1.toInt64) ∧ Inv (gI [I 0, I 1, I 2, I 3, I 4, I 5, I 6, I 7, I 8, I 9, I 10, I 11, I 12, I 13, I 14, I 15, I 16, I 17, I 18, I 19, I 20, I 21, I 22, I 23, I 24, I 25, I 26, I 27, I 28, I 29, I 30, I 31, I 32, I 33, I 34, I 35, I 36, I 37, I 38, I 39, I 40, I 41, I 42, I 43, I 44, I 45, I 46, I 47, I 48, I 49, u9.2.1, I 51, I 52, I 53, I 54, I 55, I 56, I 57, I 58, I 59, I 60, u9.2.2.1, u9.2.2.2.1, u9.2.2.2.2.1, I 64, I 65, I 66, I 67, I 68, I 69, I 70]) (gF [F 0, F 1, F 2, F 3, F 4, F 5, F 6, F 7, F 8, F 9, F 10, F 11, F 12, F 13, F 14, F 15, F 16, F 17, F 18, F 19, F 20, F 21, F 22, F 23, F 24, F 25, F 26, F 27, F 28, F 29, F 30, F 31, F 32, F 33, F 34, F 35, F 36, F 37, F 38, F 39, F 40, F 41, F 42, F 43, c9.2.1, F 45, F 46, F 47, F 48, F 49, F 50, F 51, F 52, F 53, F 54, F 55, F 56, F 57, F 58, u9.2.2.2.2.2.1, u9.2.2.2.2.2.2, F 61, F 62, F 63, F 64, F 65, F 66, F 67]) := by
  obtain ⟨cur, plan, old, sav, hs, flt, sfl, wat, swa, tn, ch, dep, nx, tx, fa, sv, ha, c1, c2, c3, c4, c5, c6, m1, m2, m3, m4, m5⟩ := hI
  have tb := R2.tb m1.1
  have j0 : ∀ c, 0 ≤ JF flt cur c := fun c => (JJ_bd tb.1 tb.2 (mtF flt) c).1
  rcases f_finds hfu m1.1 (HM9.of hfu ha.1 m2.1) v1 (I 50) m5.2.2.2.2 (I 62) (I 63) (F 59) with ⟨g, ic', st', cs', hg, ev, f1, cl, hcs⟩ | ⟨no, f1⟩
  · have gb : 0 ≤ GS (JF flt cur) g ∧ GS (JF flt cur) g ≤ 3600 := GS_bd tb.1 tb.2 (mtF flt) g
    have hcs' : ∀ p, p < 1783 → cs' p = zI (TL (JF flt cur) g p) := hcs
    have T0 : ∀ p, 0 ≤ TL (JF flt cur) g p := fun p => si_nonneg _ (fun i _ => by
      by_cases x : jg i = g ∧ i % 1783 = p
      · rw [if_pos x]; exact j0 i
      · rw [if_neg x]; exact Int.le_refl _)
    have T1 : ∀ p, 0 ≤ TL (JF flt cur) g p ∧ TL (JF flt cur) g p ≤ 1000000 := fun p => ⟨T0 p, by
      have a : TL (JF flt cur) g p ≤ GS (JF flt cur) g := si_mono 106980 (fun c _ => by
        by_cases x : jg c = g
        · rw [if_pos x]
          by_cases y : c % 1783 = p
          · rw [if_pos ⟨x, y⟩]; exact Int.le_refl _
          · rw [if_neg (fun q => y q.2)]; exact j0 c
        · rw [if_neg x, if_neg (fun q => x q.1)]; exact Int.le_refl _)
      omega⟩
    have f1' : f_X9_finds fu 960 16 40 40 1783 (I 53) (F 53) (F 54) (F 55) v1 (I 50) (I 61) (I 62) (I 63) (F 59) (F 60) = some (1, 0, ic', zI (GS (JF flt cur) g), zI (GT (JF flt cur) g), st', cs') := f1
    have q1 := reqI6 hg ev
    obtain ⟨t', e1, z1⟩ := f_tally hfu c5.1 hg (F 44)
    have e3 := f_dif_loop (fu := fu) (size := I 36) (v1 := nI g) (codes := F 32) (counts := F 33) z1 T1 1783 fu 0 (by omega) (by omega)
    have e4 := f_dif9_loop (fu := fu) (fsize := I 53) (v1 := v1) (thr := 0) (ic := ic') (gr := zI (GS (JF flt cur) g)) (gt := zI (GT (JF flt cur) g)) (rows := F 53) (size := F 54) (filter := F 55) (stack := st') hcs' T1 1783 fu 0 (by omega) (by omega)
    have h1 : f_L_groupDistinct fu 1140 1140 1783 1 (I 36) (F 32) (F 33) v1 (F 44) out = some (0, t', vp_updL out (0 : Int32).toNatClampNeg (nI (fb_ct (NZ (TL (JF flt cur) g)) 1783)).toInt64) := by
      have e3' : f_X6_differentProducts fu 1140 1140 1783 (I 36) (F 32) (F 33) (nI g) (F 44) = some (nI (fb_ct (NZ (TL (JF flt cur) g)) 1783), t') := by
        unfold f_X6_differentProducts
        rw [e1, k_b1S]; exact e3
      unfold f_L_groupDistinct f_X8_groupDistinct
      rw [q1, k_b1S, if_pos rfl, ev, e3', k_b2S, k_b3S, if_pos rfl, if_pos (by decide)]
    have h2 : f_X9_groupDistinct fu 960 16 40 40 1783 (I 53) (F 53) (F 54) (F 55) v1 (I 50) (I 61) (I 62) (I 63) (F 59) (F 60) = some (nI (fb_ct (NZ (TL (JF flt cur) g)) 1783), 0, ic', zI (GS (JF flt cur) g), zI (GT (JF flt cur) g), st', cs') := by
      unfold f_X9_groupDistinct
      rw [f1', k_b7S, if_neg (by decide)]; exact e4
    exact ⟨_, _, h1, h2, rfl, fun _ => rfl, cur, plan, old, sav, hs, flt, sfl, wat, swa, tn, ch, dep, nx, tx, fa, sv, ha, c1, c2, c3, c4, c5, c6, m1, m2, m3, m4, ⟨m5.1, m5.2.1, m5.2.2.1, m5.2.2.2.1, cl⟩⟩
  · have q1 := reqI6n no
    have h1 : f_L_groupDistinct fu 1140 1140 1783 1 (I 36) (F 32) (F 33) v1 (F 44) out = some (1, F 44, out) := by
      unfold f_L_groupDistinct f_X8_groupDistinct
      rw [q1, k_b1S, if_neg (by decide), k_b3S, if_neg (by decide), if_pos rfl]
    have h2 : f_X9_groupDistinct fu 960 16 40 40 1783 (I 53) (F 53) (F 54) (F 55) v1 (I 50) (I 61) (I 62) (I 63) (F 59) (F 60) = some (0, 1, I 61, I 62, I 63, F 59, F 60) := by
      unfold f_X9_groupDistinct
      rw [f1, k_b7S, if_pos rfl]
    exact ⟨_, _, h1, h2, rfl, fun q => absurd (show (1 : Int32) = 0 from q) (by decide), cur, plan, old, sav, hs, flt, sfl, wat, swa, tn, ch, dep, nx, tx, fa, sv, ha, c1, c2, c3, c4, c5, c6, m1, m2, m3, m4, m5⟩
