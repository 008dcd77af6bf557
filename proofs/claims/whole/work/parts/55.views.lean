/-- rows that no right row matches -/
def DG (mt : Nat → Nat → Bool) (mL mR : Nat → Int) (c : Nat) : Int := if PW mt mR c = 0 then mL c else 0
def DM (mt : Nat → Nat → Bool) (mL mR : Nat → Int) (T c : Nat) : Int := if c < T ∧ PW mt mR c = 0 then mL c else 0
/-- what the filter's evaluation gives, for the class -/
def HM (fu : Nat) (mt : Nat → Nat → Bool) (fsize : Int32) (fsteps fnums : Nat → Int32) : Prop :=
  (∀ l r, lk l ≠ rk r → mt l r = false) ∧ ∀ l r, l < 11940 → r < 190 → lk l = rk r → f_X1_holds fu 40 40 fsize fsteps fnums (nI (lk l)) (nI (lg l)) (zI (lv l)) (zI (rf r)) = some (nI (bv (mt l r)))
section RB
variable {fu nL nR : Nat} {mL mR : Nat → Int} {kL kR : Nat → Nat} {c1 d1 c3 d3 fsteps fnums : Nat → Int32} {fsize : Int32} {mt : Nat → Nat → Bool}
theorem f_rebuild_loop (hfu : 100000 ≤ fu) (hL : CRk 60 11940 mL nL kL c1 d1) (hR : CRk 60 190 mR nR kR c3 d3) (hLb : TB 11940 mL) (hRb : TB 190 mR) (hH : HM fu mt fsize fsteps fnums) :
    ∀ (d G j n nd T : Nat) (k kd : Nat → Nat) (total dtotal : Int32) (codes counts ts tu dcodes dcounts : Nat → Int32), d + j = nL → d < G → CRk 1140 106980 (fun c => fb_si (fun i => mL (kL i) * RW mt mR (kL i) c) j) n k codes counts → n ≤ 19 * j → total = zI (fb_si (fun c => fb_si (fun i => mL (kL i) * RW mt mR (kL i) c) j) 106980) → CRk 60 11940 (DM mt mL mR T) nd kd dcodes dcounts → nd ≤ j → dtotal = zI (fb_si (DM mt mL mR T) 11940) → (∀ i, i < nd → kd i < T) → (∀ i, i < j → kL i < T) → (∀ i, j ≤ i → i < nL → T ≤ kL i) →
    ∃ js jt jcod jcnt ts' tu' ds dt dcod dcnt, f_X6_rebuild_16 fu 1140 1140 6 6 60 60 60 60 60 60 40 40 (nI nL) c1 d1 (nI nR) c3 d3 fsize fsteps fnums G (nI j) (nI n) total codes counts ts tu (nI nd) dtotal dcodes dcounts = some (js, jt, jcod, jcnt, ts', tu', ds, dt, dcod, dcnt) ∧ CR 1140 106980 (JJ mt mL mR) js jt jcod jcnt ∧ TT (JJ mt mL mR) ts' tu' ∧ CR 60 11940 (DG mt mL mR) ds dt dcod dcnt := by
  have hnL := hL.1
  have hnR := hR.1
  intro d
  induction d with
  | zero =>
    intro G j n nd T k kd total dtotal codes counts ts tu dcodes dcounts h1 h2 h3 h4 h5 h6 h7 h8 h9 h10 h11
    obtain ⟨G', rfl⟩ : ∃ G', G = G' + 1 := ⟨G - 1, by omega⟩
    have ej : j = nL := by omega
    subst ej
    have eJ : (fun c => fb_si (fun i => mL (kL i) * RW mt mR (kL i) c) j) = JJ mt mL mR := by
      funext c
      exact (hL.sum (g := fun l => mL l * RW mt mR l c) (fun l q z => q (by rw [z, Int.zero_mul]))).symm
    have eD : DM mt mL mR T = DG mt mL mR := by
      funext c
      unfold DM DG
      by_cases x : c < T
      · by_cases y : PW mt mR c = 0
        · rw [if_pos ⟨x, y⟩, if_pos y]
        · rw [if_neg (fun q => y q.2), if_neg y]
      · have z := hL.past (p := j) (T := T) (Nat.le_refl _) h10 (c := c) (by omega) (fun i a b => by omega)
        rw [if_neg (fun q => x q.1), z]; split <;> rfl
    rw [eJ] at h3 h5
    rw [eD] at h6 h8
    have hJ : CR 1140 106980 (JJ mt mL mR) (nI n) total codes counts := ⟨n, k, rfl, h5, h3⟩
    obtain ⟨s1, s2, g1, g2⟩ := f_sumUp hfu hJ ts tu
    refine ⟨nI n, total, codes, counts, s1, s2, nI nd, dtotal, dcodes, dcounts, ?_, hJ, g2, ⟨nd, kd, rfl, h8, h6⟩⟩
    rw [fs_X6_rebuild_16]
    unfold f_X0_size
    rw [k_b1S, if_pos (by rw [q_le (by omega) (by omega)]; omega)]
    unfold f_X6_rebuild_80
    rw [g1, k_b2S]
  | succ d ih =>
    intro G j n nd T k kd total dtotal codes counts ts tu dcodes dcounts h1 h2 h3 h4 h5 h6 h7 h8 h9 h10 h11
    obtain ⟨G', rfl⟩ : ∃ G', G = G' + 1 := ⟨G - 1, by omega⟩
    have hj := hL.2.1 j (by omega)
    have hab := hLb.le (kL j)
    have ha1 : 1 ≤ mL (kL j) := by have := hj.2.2.1; omega
    have hmb : ∀ c, 0 ≤ fb_si (fun i => mL (kL i) * RW mt mR (kL i) c) j ∧ fb_si (fun i => mL (kL i) * RW mt mR (kL i) c) j ≤ 1000000 := fun c => by
      have b1 : ∀ i, 0 ≤ mL (kL i) * RW mt mR (kL i) c ∧ mL (kL i) * RW mt mR (kL i) c ≤ 3600 := fun i => by
        have x1 := hLb.le (kL i)
        have x2 := RW_bd hRb mt (kL i) c
        exact ⟨Int.mul_nonneg x1.1 x2.1, by have := Int.mul_le_mul x1.2 x2.2 x2.1 (by decide); omega⟩
      refine ⟨si_nonneg _ (fun i _ => (b1 i).1), ?_⟩
      have b2 := fb_si_bound (f := fun i => mL (kL i) * RW mt mR (kL i) c) (c := 3600) (by decide) (n := j) (fun i _ => ⟨by have := (b1 i).1; omega, (b1 i).2⟩)
      have b3 : (j : Int) ≤ 60 := by omega
      omega
    obtain ⟨n', k', codes', counts', f1, f2, f3⟩ := f_jlr (fu := fu) (l := kL j) (total := total) (a := mL (kL j)) hfu hj.2.2.2 hR hRb ⟨ha1, hab.2⟩ hmb (hH.1 (kL j)) (fun r hr => hH.2 (kL j) r hj.2.2.2 hr) (by omega) h3
    rw [fs_X6_rebuild_16]
    unfold f_X0_size
    rw [k_b1S, if_neg (by rw [q_le (by omega) (by omega)]; omega), f_codeAt (by omega) hnL (by omega), k_b1S, f_countAt (by omega) hnL (by omega), k_b1S, if_pos (show j < nL by omega), if_pos (show j < nL by omega), hj.1, hj.2.1, f1]
    show ∃ js jt jcod jcnt ts' tu' ds dt dcod dcnt, (if zI (mL (kL j) * PW mt mR (kL j)) = 0 then _ else _) = _ ∧ _
    have e3 : (fun c => fb_si (fun i => mL (kL i) * RW mt mR (kL i) c) (j + 1)) = fun c => fb_si (fun i => mL (kL i) * RW mt mR (kL i) c) j + mL (kL j) * RW mt mR (kL j) c := by
      funext c; rw [fb_si_succ]
    have e4 : total + zI (mL (kL j) * PW mt mR (kL j)) = zI (fb_si (fun c => fb_si (fun i => mL (kL i) * RW mt mR (kL i) c) (j + 1)) 106980) := by
      rw [e3, fb_si_add, fb_si_mul, show fb_si (fun k => RW mt mR (kL j) k) 106980 = PW mt mR (kL j) from RW_sum mt mR hj.2.2.2, h5, zI_add]
    have hT : T ≤ kL j := h11 j (Nat.le_refl _) (by omega)
    have hPb := PW_bd hRb mt (kL j)
    have n10 : ∀ i, i < j + 1 → kL i < kL j + 1 := fun i hi => by
      rcases Nat.lt_or_ge i j with x | x
      · have := h10 i x; omega
      · have : i = j := by omega
        rw [this]; omega
    have n11 : ∀ i, j + 1 ≤ i → i < nL → kL j + 1 ≤ kL i := fun i x y => by have := hL.2.2.1 j i (by omega) y; omega
    have past : ∀ c, T ≤ c → c < kL j → mL c = 0 := fun c x y => hL.past (p := j) (by omega) h10 x (fun i u v => by
      rcases Nat.lt_or_ge j i with w | w
      · have := hL.2.2.1 j i w v; omega
      · have : i = j := by omega
        rw [this]; omega)
    by_cases z : PW mt mR (kL j) = 0
    · rw [if_pos (by rw [z, Int.mul_zero]; rfl), f_append (by decide) (by omega), k_b4S]
      unfold f_X6_rebuild_74
      rw [k_letS, q_1, q_add]
      have eD : DM mt mL mR (kL j + 1) = mu (DM mt mL mR T) (kL j) (mL (kL j)) := by
        funext c
        unfold mu DM
        by_cases x : c = kL j
        · rw [if_pos x, x, if_pos ⟨by omega, z⟩, if_neg (fun q => by omega)]; omega
        · rw [if_neg x]
          by_cases y : c < T
          · by_cases w : PW mt mR c = 0
            · rw [if_pos ⟨by omega, w⟩, if_pos ⟨y, w⟩]
            · rw [if_neg (fun q => w q.2), if_neg (fun q => w q.2)]
          · rw [if_neg (show ¬ (c < T ∧ PW mt mR c = 0) from fun q => y q.1)]
            by_cases w : c < kL j + 1
            · rw [past c (by omega) (by omega)]; split <;> rfl
            · rw [if_neg (show ¬ (c < kL j + 1 ∧ PW mt mR c = 0) from fun q => w q.1)]
      have h0 : DM mt mL mR T (kL j) = 0 := if_neg (fun q => by omega)
      refine ih G' (j + 1) n' (nd + 1) (kL j + 1) k' _ _ _ codes' counts' ts tu _ _ (by omega) (by omega) (by rw [e3]; exact f2) (by omega) e4 (by rw [eD]; exact h6.push (fun i hi => by have := h9 i hi; omega) hj.2.2.2 (by omega) (by omega) h0) (by omega) (by rw [eD, mu_si _ _ hj.2.2.2, h8, zI_add]) (fun i hi => ?_) n10 n11
      show (if i < nd then kd i else kL j) < kL j + 1
      by_cases x : i < nd
      · rw [if_pos x]; have := h9 i x; omega
      · rw [if_neg x]; omega
    · have hne : ¬ zI (mL (kL j) * PW mt mR (kL j)) = 0 := by
        have u1 : 1 ≤ mL (kL j) * PW mt mR (kL j) := by have := Int.mul_le_mul ha1 (show 1 ≤ PW mt mR (kL j) by omega) (by decide) (by omega); omega
        have u2 : mL (kL j) * PW mt mR (kL j) ≤ 3600 := by have := Int.mul_le_mul hab.2 hPb.2 hPb.1 (by decide); omega
        intro q
        have := (zI_z (by omega) (by omega)).mp q
        omega
      rw [if_neg hne]
      unfold f_X6_rebuild_74
      rw [k_letS, q_1, q_add]
      have eD : DM mt mL mR (kL j + 1) = DM mt mL mR T := by
        funext c
        unfold DM
        by_cases w : PW mt mR c = 0
        · by_cases y : c < T
          · rw [if_pos ⟨by omega, w⟩, if_pos ⟨y, w⟩]
          · rw [if_neg (show ¬ (c < T ∧ PW mt mR c = 0) from fun q => y q.1)]
            by_cases v : c < kL j + 1
            · have : c ≠ kL j := fun q => z (by rw [← q]; exact w)
              rw [past c (by omega) (by omega)]; split <;> rfl
            · rw [if_neg (fun q => v q.1)]
        · rw [if_neg (fun q => w q.2), if_neg (fun q => w q.2)]
      exact ih G' (j + 1) n' nd (kL j + 1) k' kd _ dtotal codes' counts' ts tu dcodes dcounts (by omega) (by omega) (by rw [e3]; exact f2) (by omega) e4 (by rw [eD]; exact h6) (by omega) (by rw [eD]; exact h8) (fun i hi => by have := h9 i hi; omega) n10 n11
theorem f_rebuild {lsize ltotal rsize rtotal s1 t1 s2 t2 : Int32} {x1 x2 ts tu y1 y2 : Nat → Int32} (hfu : 100000 ≤ fu) (hL : CR 60 11940 mL lsize ltotal c1 d1) (hR : CR 60 190 mR rsize rtotal c3 d3) (hLb : TB 11940 mL) (hRb : TB 190 mR) (hH : HM fu mt fsize fsteps fnums) :
    ∃ js jt jcod jcnt ts' tu' ds dt dcod dcnt, f_X6_rebuild fu 1140 1140 6 6 60 60 60 60 60 60 40 40 lsize c1 d1 rsize c3 d3 fsize fsteps fnums s1 t1 x1 x2 ts tu s2 t2 y1 y2 = some (js, jt, jcod, jcnt, ts', tu', ds, dt, dcod, dcnt) ∧ CR 1140 106980 (JJ mt mL mR) js jt jcod jcnt ∧ TT (JJ mt mL mR) ts' tu' ∧ CR 60 11940 (DG mt mL mR) ds dt dcod dcnt := by
  obtain ⟨nL, kL, rfl, _, hL⟩ := hL
  obtain ⟨nR, kR, rfl, _, hR⟩ := hR
  unfold f_X6_rebuild f_X0_clear
  rw [k_b2S, k_b2S]
  have e0 : (fun c => fb_si (fun i => mL (kL i) * RW mt mR (kL i) c) 0) = fun _ => 0 := rfl
  have e1 : DM mt mL mR 0 = fun _ => 0 := by funext c; exact if_neg (fun q => by omega)
  have hnL := hL.1
  exact f_rebuild_loop hfu hL hR hLb hRb hH nL fu 0 0 0 0 (fun _ => 0) (fun _ => 0) 0 0 x1 x2 ts tu y1 y2 (by omega) (by omega) (by rw [e0]; exact CRk.empty _ _ _ _) (by omega) (by rw [e0, si_zero]; rfl) (by rw [e1]; exact CRk.empty _ _ _ _) (by omega) (by rw [e1, si_zero]; rfl) (fun i h => by omega) (fun i h => by omega) (fun i _ _ => by omega)
end RB
