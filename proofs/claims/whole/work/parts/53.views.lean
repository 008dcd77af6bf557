/-! Pure facts: rows of the tables and of the join. -/
def lk (l : Nat) : Nat := l / 199 / 6
def lg (l : Nat) : Nat := l / 199 % 6
def lv (l : Nat) : Int := ((l % 199 : Nat) : Int) - 99
def rk (r : Nat) : Nat := r / 19
def rf (r : Nat) : Int := ((r % 19 : Nat) : Int) - 9
def jc (l r : Nat) : Nat := l / 199 * 1783 + (lv l * rf r + 891).toNat
theorem lv_bd (l : Nat) : -99 ≤ lv l ∧ lv l ≤ 99 := by unfold lv; omega
theorem rf_bd (r : Nat) : -9 ≤ rf r ∧ rf r ≤ 9 := by unfold rf; omega
theorem pr_bd (l r : Nat) : -891 ≤ lv l * rf r ∧ lv l * rf r ≤ 891 := mul_bd (lv_bd l).1 (lv_bd l).2 (rf_bd r).1 (rf_bd r).2
theorem jc_lt {l : Nat} (h : l < 11940) (r : Nat) : jc l r < 106980 := by
  have := pr_bd l r
  unfold jc; omega
theorem g_leftKey {l : Nat} (h : l < 11940) : f_X8_leftKey (nI l) = some (nI (lk l)) := by
  unfold f_X8_leftKey lk
  rw [show (199 : Int32) = nI 199 from rfl, show (6 : Int32) = nI 6 from rfl, q_div (by omega) (by decide) (by decide), q_div (by omega) (by decide) (by decide)]
theorem g_leftGroup {l : Nat} (h : l < 11940) : f_X8_leftGroup (nI l) = some (nI (lg l)) := by
  unfold f_X8_leftGroup lg
  rw [show (199 : Int32) = nI 199 from rfl, show (6 : Int32) = nI 6 from rfl, q_div (by omega) (by decide) (by decide), pk_rem (by omega) (by decide) (by decide), k_letS]
theorem nI_sub_z (w k : Nat) : nI w - nI k = zI ((w : Int) - k) := by rw [← zI_nat, ← zI_nat, zI_sub]
theorem g_leftValue {l : Nat} (h : l < 11940) : f_X8_leftValue (nI l) = some (zI (lv l)) := by
  unfold f_X8_leftValue lv
  rw [show (199 : Int32) = nI 199 from rfl, pk_rem (by omega) (by decide) (by decide), k_letS, show (99 : Int32) = nI 99 from rfl, nI_sub_z]
  rfl
theorem g_rightFactor {r : Nat} (h : r < 190) : f_X8_rightFactor (nI r) = some (zI (rf r)) := by
  unfold f_X8_rightFactor rf
  rw [show (19 : Int32) = nI 19 from rfl, pk_rem (by omega) (by decide) (by decide), k_letS, show (9 : Int32) = nI 9 from rfl, nI_sub_z]
  rfl
theorem g_rightCode (a : Nat) : f_X8_rightCode (nI a) (-9) = some (nI (a * 19)) := by
  unfold f_X8_rightCode
  refine congrArg some ?_
  rw [← zI_nat, ← zI_nat]
  show zI a * zI 19 + zI (-9) + zI 9 = zI ((a * 19 : Nat) : Int)
  rw [zI_mul, zI_add, zI_add]; congr 1; omega
theorem g_joinCode (l r : Nat) : f_X8_joinCode (nI (lk l)) (nI (lg l)) (zI (lv l) * zI (rf r)) = some (nI (jc l r)) := by
  unfold f_X8_joinCode
  refine congrArg some ?_
  rw [← zI_nat, ← zI_nat, ← zI_nat, zI_mul]
  show (zI (lk l) * zI 6 + zI (lg l)) * zI 1783 + zI (lv l * rf r) + zI 891 = zI ((jc l r : Nat) : Int)
  rw [zI_mul, zI_add, zI_mul, zI_add, zI_add]
  congr 1
  have := pr_bd l r
  have e : lk l * 6 + lg l = l / 199 := by unfold lk lg; omega
  unfold jc
  have e2 : ((lk l : Int) * 6 + (lg l : Int)) = ((l / 199 : Nat) : Int) := by rw [← e]; simp
  rw [e2]; omega
def ix (mt : Nat → Nat → Bool) (l c r : Nat) : Int := if mt l r = true ∧ jc l r = c then 1 else 0
def ib (mt : Nat → Nat → Bool) (l r : Nat) : Int := if mt l r = true then 1 else 0
theorem ix_0 {mt : Nat → Nat → Bool} {l r : Nat} (c : Nat) (h : mt l r = false) : ix mt l c r = 0 := if_neg (fun q => by rw [h] at q; cases q.1)
theorem ib_0 {mt : Nat → Nat → Bool} {l r : Nat} (h : mt l r = false) : ib mt l r = 0 := if_neg (fun q => by rw [h] at q; cases q)
theorem ib_1 {mt : Nat → Nat → Bool} {l r : Nat} (h : mt l r = true) : ib mt l r = 1 := if_pos h
theorem si_cut {f : Nat → Int} {e n : Nat} (h : e ≤ n) (h0 : ∀ i, e ≤ i → i < n → f i = 0) : fb_si f n = fb_si f e := by
  have h1 := fb_si_split f e (n - e)
  rw [show e + (n - e) = n by omega] at h1
  rw [h1]
  have h2 : fb_si (fun k => f (e + k)) (n - e) = fb_si (fun _ => 0) (n - e) := fb_si_cong (fun k hk => h0 _ (by omega) (by omega))
  rw [h2, si_zero]; omega
theorem si_0 {f : Nat → Int} {n : Nat} (h0 : ∀ i, i < n → f i = 0) : fb_si f n = 0 := by
  have h2 : fb_si f n = fb_si (fun _ => 0) n := fb_si_cong (fun k hk => h0 _ hk)
  rw [h2, si_zero]
theorem mono_ge {n : Nat} {k : Nat → Nat} (hm : ∀ i j, i < j → j < n → k i < k j) (s : Nat) : ∀ t, s + t < n → k s + t ≤ k (s + t)
  | 0, _ => Nat.le_refl _
  | t + 1, h => by
    have h1 := mono_ge hm s t (by omega)
    have h2 := hm (s + t) (s + (t + 1)) (by omega) h
    omega
section JLR
variable {fu l nR n0 s e : Nat} {mR m : Nat → Int} {kR : Nat → Nat} {c3 d3 fsteps fnums : Nat → Int32} {fsize total0 : Int32} {mt : Nat → Nat → Bool} {a : Int}
theorem f_jlr_loop (hfu : 100000 ≤ fu) (hl : l < 11940) (hR : CRk 60 190 mR nR kR c3 d3) (hRb : ∀ c, 0 ≤ mR c ∧ mR c ≤ 60) (ha : 1 ≤ a ∧ a ≤ 60) (hm : ∀ c, 0 ≤ m c ∧ m c ≤ 1000000)
    (hmt2 : ∀ r, r < 190 → lk l = rk r → f_X1_holds fu 40 40 fsize fsteps fnums (nI (lk l)) (nI (lg l)) (zI (lv l)) (zI (rf r)) = some (nI (bv (mt l r)))) (he : e ≤ nR) (hse : ∀ i, s ≤ i → i < e → lk l = rk (kR i)) (hroom : n0 + (e - s) ≤ 1140) :
    ∀ (d G j n : Nat) (k : Nat → Nat) (codes counts : Nat → Int32), d + j = e → s ≤ j → d < G → CRk 1140 106980 (fun c => m c + a * fb_si (fun i => mR (kR i) * ix mt l c (kR i)) j) n k codes counts → n ≤ n0 + (j - s) →
    ∃ (n' : Nat) (k' : Nat → Nat) (codes' counts' : Nat → Int32), f_X6_joinLeftRow_53 fu 1140 1140 60 60 40 40 (nI nR) c3 d3 fsize fsteps fnums (nI l) (zI a) G (nI (lk l)) (nI (lg l)) (zI (lv l)) (nI e) (zI (a * fb_si (fun i => mR (kR i) * ib mt l (kR i)) j)) (nI j) (nI n) (total0 + zI (a * fb_si (fun i => mR (kR i) * ib mt l (kR i)) j)) codes counts = some (zI (a * fb_si (fun i => mR (kR i) * ib mt l (kR i)) e), nI n', total0 + zI (a * fb_si (fun i => mR (kR i) * ib mt l (kR i)) e), codes', counts') ∧ CRk 1140 106980 (fun c => m c + a * fb_si (fun i => mR (kR i) * ix mt l c (kR i)) e) n' k' codes' counts' ∧ n' ≤ n0 + (e - s) := by
  have hnR := hR.1
  intro d
  induction d with
  | zero =>
    intro G j n k codes counts h1 h2 h3 h4 h5
    obtain ⟨G', rfl⟩ : ∃ G', G = G' + 1 := ⟨G - 1, by omega⟩
    have ej : j = e := by omega
    subst ej
    exact ⟨n, k, codes, counts, by rw [fs_X6_joinLeftRow_53, if_pos (by rw [q_le (by omega) (by omega)]; omega)], h4, h5⟩
  | succ d ih =>
    intro G j n k codes counts h1 h2 h3 h4 h5
    obtain ⟨G', rfl⟩ : ∃ G', G = G' + 1 := ⟨G - 1, by omega⟩
    have hj := hR.2.1 j (by omega)
    have hkey := hse j h2 (by omega)
    rw [fs_X6_joinLeftRow_53, if_neg (by rw [q_le (by omega) (by omega)]; omega), f_codeAt (by omega) hnR (by omega), k_b1S, if_pos (show j < nR by omega), hj.1, g_rightFactor hj.2.2.2, k_b1S, hmt2 _ hj.2.2.2 hkey, k_b1S]
    cases hb : mt l (kR j) with
    | false =>
      rw [if_pos (by decide)]
      unfold f_X6_joinLeftRow_125
      rw [k_letS, q_1, q_add]
      have e1 : ∀ c, fb_si (fun i => mR (kR i) * ix mt l c (kR i)) (j + 1) = fb_si (fun i => mR (kR i) * ix mt l c (kR i)) j := fun c => by
        rw [fb_si_succ, ix_0 c hb, Int.mul_zero, Int.add_zero]
      have e2 : fb_si (fun i => mR (kR i) * ib mt l (kR i)) (j + 1) = fb_si (fun i => mR (kR i) * ib mt l (kR i)) j := by
        rw [fb_si_succ, ib_0 hb, Int.mul_zero, Int.add_zero]
      rw [← e2]
      exact ih G' (j + 1) n k codes counts (by omega) (by omega) (by omega) (by simp only [e1]; exact h4) (by omega)
    | true =>
      rw [if_neg (by decide), f_countAt (by omega) hnR (by omega), k_b1S, if_pos (show j < nR by omega), hj.2.1, zI_mul, k_letS, g_joinCode, k_b1S]
      have hmr := hRb (kR j)
      have hmr0 : 1 ≤ mR (kR j) := by have := hj.2.2.1; omega
      have hpos : 1 ≤ a * mR (kR j) ∧ a * mR (kR j) ≤ 3600 := by
        constructor
        · have := Int.mul_le_mul ha.1 hmr0 (by decide) (by omega); omega
        · have := Int.mul_le_mul ha.2 hmr.2 (by omega) (by decide); omega
      have qb : ∀ c, 0 ≤ fb_si (fun i => mR (kR i) * ix mt l c (kR i)) j ∧ fb_si (fun i => mR (kR i) * ix mt l c (kR i)) j ≤ 3600 := fun c => by
        have h7 : ∀ i, i < j → 0 ≤ mR (kR i) * ix mt l c (kR i) ∧ mR (kR i) * ix mt l c (kR i) ≤ 60 := fun i hi => by
          have := hRb (kR i)
          unfold ix
          by_cases x : mt l (kR i) = true ∧ jc l (kR i) = c
          · rw [if_pos x, Int.mul_one]; exact this
          · rw [if_neg x, Int.mul_zero]; omega
        have h8 : ∀ t, t ≤ j → 0 ≤ fb_si (fun i => mR (kR i) * ix mt l c (kR i)) t ∧ fb_si (fun i => mR (kR i) * ix mt l c (kR i)) t ≤ 60 * t := by
          intro t
          induction t with
          | zero => intro _; exact ⟨by show (0 : Int) ≤ 0; decide, by show (0 : Int) ≤ 60 * 0; decide⟩
          | succ t iht =>
            intro ht
            have a1 := iht (by omega)
            have a2 := h7 t (by omega)
            rw [fb_si_succ]
            constructor
            · omega
            · have : ((t + 1 : Nat) : Int) = (t : Int) + 1 := by omega
              rw [this]; omega
        have := h8 j (Nat.le_refl _)
        omega
      have hbd : -2000000000 ≤ (m (jc l (kR j)) + a * fb_si (fun i => mR (kR i) * ix mt l (jc l (kR j)) (kR i)) j) + a * mR (kR j) ∧ (m (jc l (kR j)) + a * fb_si (fun i => mR (kR i) * ix mt l (jc l (kR j)) (kR i)) j) + a * mR (kR j) ≤ 2000000000 := by
        have b1 := hm (jc l (kR j))
        have b2 := qb (jc l (kR j))
        have b3 := Int.mul_le_mul ha.2 b2.2 b2.1 (by decide)
        have b4 := Int.mul_nonneg (show 0 ≤ a by omega) b2.1
        omega
      obtain ⟨n', k', codes', counts', f1, f2, f3⟩ := f_add (fu := fu) (total := total0 + zI (a * fb_si (fun i => mR (kR i) * ib mt l (kR i)) j)) hfu (by decide) (by decide) (jc_lt hl (kR j)) h4 (a := a * mR (kR j)) hbd (fun _ => ⟨by omega, by omega⟩)
      rw [f1, k_b4S, zI_add, k_letS]
      unfold f_X6_joinLeftRow_125
      rw [k_letS, q_1, q_add]
      have e2 : a * fb_si (fun i => mR (kR i) * ib mt l (kR i)) (j + 1) = a * fb_si (fun i => mR (kR i) * ib mt l (kR i)) j + a * mR (kR j) := by
        rw [fb_si_succ, ib_1 hb, Int.mul_one, Int.mul_add]
      have e3 : total0 + zI (a * fb_si (fun i => mR (kR i) * ib mt l (kR i)) j) + zI (a * mR (kR j)) = total0 + zI (a * fb_si (fun i => mR (kR i) * ib mt l (kR i)) (j + 1)) := by
        rw [e2, ← zI_add, Int32.add_assoc]
      rw [e3, ← e2]
      refine ih G' (j + 1) n' k' codes' counts' (by omega) (by omega) (by omega) ?_ ?_
      · have e4 : (fun c => m c + a * fb_si (fun i => mR (kR i) * ix mt l c (kR i)) (j + 1)) = mu (fun c => m c + a * fb_si (fun i => mR (kR i) * ix mt l c (kR i)) j) (jc l (kR j)) (a * mR (kR j)) := by
          funext c
          show m c + a * fb_si (fun i => mR (kR i) * ix mt l c (kR i)) (j + 1) = if c = jc l (kR j) then (m c + a * fb_si (fun i => mR (kR i) * ix mt l c (kR i)) j) + a * mR (kR j) else m c + a * fb_si (fun i => mR (kR i) * ix mt l c (kR i)) j
          rw [fb_si_succ]
          by_cases x : c = jc l (kR j)
          · rw [if_pos x]
            have : ix mt l c (kR j) = 1 := if_pos ⟨hb, x.symm⟩
            rw [this, Int.mul_one, Int.mul_add]; omega
          · rw [if_neg x]
            have : ix mt l c (kR j) = 0 := if_neg (fun q => x q.2.symm)
            rw [this, Int.mul_zero, Int.add_zero]
        rw [e4]; exact f2
      · have f4 : n' ≤ n + 1 := by
          refine Nat.le_trans f3 ?_
          split <;> omega
        omega
end JLR
