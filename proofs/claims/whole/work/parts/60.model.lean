/-! Pure facts: the reference's tables: rows with repetition, in order, sixty places a table. -/
def RTk (t B : Nat) (m : Nat → Int) (n : Nat) (r : Nat → Nat) (rows : Nat → Int32) : Prop :=
  n ≤ 60 ∧ (∀ i, i < n → rows (60 * t + i) = nI (r i) ∧ r i < B) ∧ (∀ i j, i ≤ j → j < n → r i ≤ r j) ∧ (∀ c, m c = (fb_ct (fun i => decide (r i = c)) n : Int))
def RT (t B : Nat) (m : Nat → Int) (rows size : Nat → Int32) : Prop := ∃ (n : Nat) (r : Nat → Nat), size t = nI n ∧ RTk t B m n r rows
theorem ct_dec {p : Prop} [Decidable p] : (if decide p = true then 1 else 0 : Nat) = if p then 1 else 0 := by by_cases h : p <;> simp [h]
theorem ct_ins {r : Nat → Nat} {n p c : Nat} (hp : p ≤ n) (d : Nat) : fb_ct (fun i => decide ((if i < p then r i else if i = p then c else r (i - 1)) = d)) (n + 1) = fb_ct (fun i => decide (r i = d)) n + (if c = d then 1 else 0) := by
  have h1 := fb_ct_split (fun i => decide ((if i < p then r i else if i = p then c else r (i - 1)) = d)) p (1 + (n - p))
  rw [show p + (1 + (n - p)) = n + 1 by omega] at h1
  have h2 := fb_ct_split (fun i => decide ((if p + i < p then r (p + i) else if p + i = p then c else r (p + i - 1)) = d)) 1 (n - p)
  have h3 := fb_ct_split (fun i => decide (r i = d)) p (n - p)
  rw [show p + (n - p) = n by omega] at h3
  rw [h1, h2, h3]
  have a1 : fb_ct (fun i => decide ((if i < p then r i else if i = p then c else r (i - 1)) = d)) p = fb_ct (fun i => decide (r i = d)) p := fb_ct_cong (fun k hk => by rw [if_pos hk])
  have a2 : fb_ct (fun i => decide ((if p + i < p then r (p + i) else if p + i = p then c else r (p + i - 1)) = d)) 1 = (if c = d then 1 else 0) := by
    show 0 + (if decide ((if p + 0 < p then r (p + 0) else if p + 0 = p then c else r (p + 0 - 1)) = d) = true then 1 else 0) = _
    rw [ct_dec, if_neg (show ¬ p + 0 < p by omega), if_pos (show p + 0 = p by omega)]; omega
  have a3 : fb_ct (fun i => decide ((if p + (1 + i) < p then r (p + (1 + i)) else if p + (1 + i) = p then c else r (p + (1 + i) - 1)) = d)) (n - p) = fb_ct (fun i => decide (r (p + i) = d)) (n - p) := fb_ct_cong (fun k hk => by
    rw [if_neg (by omega), if_neg (by omega), show p + (1 + k) - 1 = p + k by omega])
  rw [a1, a2, a3]; omega
theorem ct_del {r : Nat → Nat} {n p c : Nat} (hp : p < n) (hc : r p = c) (d : Nat) : fb_ct (fun i => decide (r i = d)) n = fb_ct (fun i => decide ((if i < p then r i else r (i + 1)) = d)) (n - 1) + (if c = d then 1 else 0) := by
  have h := ct_ins (r := fun i => if i < p then r i else r (i + 1)) (n := n - 1) (p := p) (c := c) (by omega) d
  rw [show n - 1 + 1 = n by omega] at h
  rw [← h]
  refine fb_ct_cong (fun k hk => ?_)
  by_cases x : k < p
  · rw [if_pos x, if_pos x]
  · rw [if_neg x]
    by_cases y : k = p
    · rw [if_pos y, y, hc]
    · rw [if_neg y, if_neg (by omega), show k - 1 + 1 = k by omega]
theorem ct_tot {B : Nat} : ∀ (n : Nat) (r : Nat → Nat), (∀ i, i < n → r i < B) → fb_si (fun c => (fb_ct (fun i => decide (r i = c)) n : Int)) B = n
  | 0, r, _ => by
    rw [si_0 (f := fun c => (fb_ct (fun i => decide (r i = c)) 0 : Int)) (fun c _ => rfl)]; rfl
  | n + 1, r, h => by
    have ih := ct_tot n r (fun i hi => h i (by omega))
    have e : fb_si (fun c => (fb_ct (fun i => decide (r i = c)) (n + 1) : Int)) B = fb_si (fun c => (fb_ct (fun i => decide (r i = c)) n : Int) + (if c = r n then 1 else 0)) B := fb_si_cong (fun c _ => by
      rw [fb_ct_succ, ct_dec]
      by_cases x : r n = c
      · rw [if_pos x, if_pos x.symm]; omega
      · rw [if_neg x, if_neg (fun y => x y.symm)]; omega)
    rw [e, fb_si_add, ih, si_one 1 (h n (by omega))]; omega
/-- a sum over a table's rows -/
theorem ct_sum {B : Nat} (g : Nat → Int) : ∀ (n : Nat) (r : Nat → Nat), (∀ i, i < n → r i < B) → fb_si (fun i => g (r i)) n = fb_si (fun c => (fb_ct (fun i => decide (r i = c)) n : Int) * g c) B
  | 0, r, _ => by
    rw [si_0 (f := fun c => (fb_ct (fun i => decide (r i = c)) 0 : Int) * g c) (fun c _ => Int.zero_mul _)]; rfl
  | n + 1, r, h => by
    have ih := ct_sum g n r (fun i hi => h i (by omega))
    have e : fb_si (fun c => (fb_ct (fun i => decide (r i = c)) (n + 1) : Int) * g c) B = fb_si (fun c => (fb_ct (fun i => decide (r i = c)) n : Int) * g c + (if c = r n then g (r n) else 0)) B := fb_si_cong (fun c _ => by
      rw [fb_ct_succ, ct_dec]
      by_cases x : r n = c
      · rw [if_pos x, if_pos x.symm, x]
        have : ((fb_ct (fun i => decide (r i = c)) n + 1 : Nat) : Int) = (fb_ct (fun i => decide (r i = c)) n : Int) + 1 := by omega
        rw [this, Int.add_mul, Int.one_mul]
      · rw [if_neg x, if_neg (fun y => x y.symm)]; simp)
    rw [e, fb_si_add, ← ih, si_one _ (h n (by omega)), fb_si_succ]
section RTS
variable {t B n fu c : Nat} {m : Nat → Int} {r : Nat → Nat} {rows size : Nat → Int32}
theorem RTk.sum (h : RTk t B m n r rows) (g : Nat → Int) : fb_si (fun i => g (r i)) n = fb_si (fun c => m c * g c) B := by
  rw [ct_sum g n r (fun i hi => (h.2.1 i hi).2)]
  exact fb_si_cong (fun c _ => by rw [h.2.2.2 c])
theorem RTk.tb (h : RTk t B m n r rows) : TB B m ∧ fb_si m B = n := by
  have e : fb_si m B = n := by
    rw [← ct_tot n r (fun i hi => (h.2.1 i hi).2)]
    exact fb_si_cong (fun c _ => h.2.2.2 c)
  refine ⟨⟨fun c => by rw [h.2.2.2 c]; omega, fun c hc => ?_, by rw [e]; have := h.1; omega⟩, e⟩
  rw [h.2.2.2 c]
  have : fb_ct (fun i => decide (r i = c)) n = 0 := fb_ct_zero.mpr (fun k hk => by
    have := (h.2.1 k hk).2
    exact decide_eq_false (by omega))
  rw [this]; rfl
theorem q_60 (t i : Nat) : (60 : Int32) * nI t + nI i = nI (60 * t + i) := by
  rw [show (60 : Int32) = nI 60 from rfl, q_mul, q_add]
theorem f_countOf9_loop (ht : t < 16) (hs : size t = nI n) (h : RTk t B m n r rows) (hB : B ≤ 1000000) (hc : c < B) : ∀ (d G j : Nat), d + j = n → d < G → f_X9_countOf_5 fu 960 16 rows size (nI t) (nI c) G (nI (fb_ct (fun i => decide (r i = c)) j)) (nI j) = some (nI (fb_ct (fun i => decide (r i = c)) n)) := by
  have hn := h.1
  intro d
  induction d with
  | zero =>
    intro G j h1 h2
    obtain ⟨G', rfl⟩ : ∃ G', G = G' + 1 := ⟨G - 1, by omega⟩
    have : j = n := by omega
    subst this
    rw [fs_X9_countOf_5, if_pos (nI_in ht (by decide)), q_cl (by omega), hs, k_letS, if_pos (by rw [q_le (by omega) (by omega)]; omega)]
  | succ d ih =>
    intro G j h1 h2
    obtain ⟨G', rfl⟩ : ∃ G', G = G' + 1 := ⟨G - 1, by omega⟩
    have hj := h.2.1 j (by omega)
    have nx := ih G' (j + 1) (by omega) (by omega)
    rw [fb_ct_succ, ct_dec] at nx
    rw [fs_X9_countOf_5, if_pos (nI_in ht (by decide)), q_cl (by omega), hs, k_letS, if_neg (by rw [q_le (by omega) (by omega)]; omega), q_60, k_letS, if_pos (nI_in (by omega) (by decide)), q_cl (by omega), hj.1, k_letS]
    unfold f_X9_countOf_38
    by_cases x : r j = c
    · rw [if_pos (by rw [x]), q_1, q_add, k_letS, q_add, k_letS]
      rw [if_pos x] at nx; exact nx
    · rw [if_neg (by rw [q_eq (by omega) (by omega)]; exact x), q_0, q_1, q_add, k_letS, q_add, k_letS]
      rw [if_neg x] at nx; exact nx
theorem f_countOf9 (hfu : 100000 ≤ fu) (ht : t < 16) (hs : size t = nI n) (h : RTk t B m n r rows) (hB : B ≤ 1000000) (hc : c < B) : f_X9_countOf fu 960 16 rows size (nI t) (nI c) = some (zI (m c)) := by
  unfold f_X9_countOf
  have hn := h.1
  have := f_countOf9_loop (fu := fu) ht hs h hB hc n fu 0 (by omega) (by omega)
  rw [h.2.2.2 c, zI_nat]; exact this
theorem f_puts_loop (ht : t < 16) (hs : size t = nI n) (h : RTk t B m n r rows) (hB : B ≤ 1000000) (hc : c < B) (hn60 : n < 60) : ∀ (i G : Nat) (rows1 : Nat → Int32), i ≤ n → i < G → (∀ j, rows1 j = if 60 * t + i < j ∧ j ≤ 60 * t + n then rows (j - 1) else rows j) → (∀ j, i ≤ j → j < n → c < r j) →
    ∃ p, p ≤ i ∧ (∀ j, j < p → r j ≤ c) ∧ (∀ j, p ≤ j → j < n → c < r j) ∧ ∃ rows', f_X9_puts_7 fu 960 16 (nI t) (nI c) G (nI i) rows1 size = some (rows', upd size t (nI (n + 1))) ∧ ∀ j, rows' j = if j = 60 * t + p then nI c else if 60 * t + p < j ∧ j ≤ 60 * t + n then rows (j - 1) else rows j := by
  have hn := h.1
  have stop : ∀ (i : Nat) (rows1 : Nat → Int32), i ≤ n → (∀ j, rows1 j = if 60 * t + i < j ∧ j ≤ 60 * t + n then rows (j - 1) else rows j) → ∃ rows', f_X9_puts_58 fu 960 16 (nI t) (nI c) (nI i) rows1 size = some (rows', upd size t (nI (n + 1))) ∧ ∀ j, rows' j = if j = 60 * t + i then nI c else if 60 * t + i < j ∧ j ≤ 60 * t + n then rows (j - 1) else rows j := by
    intro i rows1 hi h1
    refine ⟨upd rows1 (60 * t + i) (nI c), ?_, fun j => by rw [q_upd, h1 j]⟩
    unfold f_X9_puts_58
    rw [q_60, if_pos (nI_in (by omega) (by decide)), if_pos (nI_in ht (by decide)), q_cl (show t < 2147483648 by omega), hs, k_letS, if_pos (q_in ht (by decide)), q_cl (by omega), q_1, q_add]
  intro i
  induction i with
  | zero =>
    intro G rows1 h0 h1 h2 h3
    obtain ⟨G', rfl⟩ : ∃ G', G = G' + 1 := ⟨G - 1, by omega⟩
    obtain ⟨rows', e1, e2⟩ := stop 0 rows1 h0 h2
    refine ⟨0, Nat.le_refl _, fun j hj => by omega, h3, rows', ?_, e2⟩
    rw [fs_X9_puts_7, if_pos (show nI 0 ≤ 0 by decide)]; exact e1
  | succ i ih =>
    intro G rows1 h0 h1 h2 h3
    obtain ⟨G', rfl⟩ : ∃ G', G = G' + 1 := ⟨G - 1, by omega⟩
    have e0 : nI (60 * t + (i + 1)) - 1 = nI (60 * t + i) := nI_pred (60 * t + i)
    have hr : rows1 (60 * t + i) = nI (r i) := by
      rw [h2, if_neg (by omega)]; exact (h.2.1 i (by omega)).1
    have hrb := (h.2.1 i (by omega)).2
    rw [fs_X9_puts_7, if_neg (nI_nle (by omega) (by omega)), q_60, e0, k_letS, if_pos (nI_in (by omega) (by decide)), q_cl (by omega), hr, k_letS]
    by_cases x : r i ≤ c
    · obtain ⟨rows', e1, e2⟩ := stop (i + 1) rows1 h0 h2
      refine ⟨i + 1, Nat.le_refl _, fun j hj => ?_, h3, rows', ?_, e2⟩
      · have := h.2.2.1 j i (by omega) (by omega); omega
      · rw [if_pos (by rw [q_le (by omega) (by omega)]; exact x)]; exact e1
    · rw [if_neg (by rw [q_le (by omega) (by omega)]; exact x), k_letS, if_pos (nI_in (by omega) (by decide)), q_cl (show 60 * t + i < 2147483648 by omega), hr, k_letS, if_pos (nI_in (by omega) (by decide)), q_cl (show 60 * t + (i + 1) < 2147483648 by omega), pk_m1, k_letS]
      obtain ⟨p, p1, p2, p3, p4⟩ := ih G' (upd rows1 (60 * t + (i + 1)) (nI (r i))) (by omega) (by omega) (fun j => by
        rw [q_upd]
        by_cases y : j = 60 * t + (i + 1)
        · rw [if_pos y, if_pos (by omega), y, show 60 * t + (i + 1) - 1 = 60 * t + i by omega, (h.2.1 i (by omega)).1]
        · rw [if_neg y, h2]
          by_cases z : 60 * t + (i + 1) < j ∧ j ≤ 60 * t + n
          · rw [if_pos z, if_pos (by omega)]
          · rw [if_neg z, if_neg (by omega)]) (fun j a b => by
        rcases Nat.lt_or_ge i j with y | y
        · exact h3 j (by omega) b
        · have : j = i := by omega
          rw [this]; omega)
      exact ⟨p, by omega, p2, p3, p4⟩
theorem f_puts (hfu : 100000 ≤ fu) (ht : t < 16) (h : RT t B m rows size) (hB : B ≤ 1000000) (hc : c < B) (hlt : fb_si m B < 60) : ∃ rows' size', f_X9_puts fu 960 16 (nI t) (nI c) rows size = some (rows', size') ∧ RT t B (mu m c 1) rows' size' ∧ (∀ j, j < 60 * t ∨ 60 * t + 60 ≤ j → rows' j = rows j) ∧ (∀ j, j ≠ t → size' j = size j) := by
  obtain ⟨n, r, hs, h⟩ := h
  have hn := h.1
  have hn60 : n < 60 := by have := h.tb.2; omega
  unfold f_X9_puts
  rw [if_pos (nI_in ht (by decide)), q_cl (by omega), hs, k_letS]
  obtain ⟨p, p1, p2, p3, rows', e1, e2⟩ := f_puts_loop (fu := fu) ht hs h hB hc hn60 n fu rows (Nat.le_refl _) (by omega) (fun j => by rw [if_neg (by omega)]) (fun j a b => by omega)
  refine ⟨rows', _, e1, ⟨n + 1, fun i => if i < p then r i else if i = p then c else r (i - 1), by rw [q_upd, if_pos rfl], by omega, fun i hi => ?_, fun i j hij hj => ?_, fun d => ?_⟩, fun j hj => ?_, fun j hj => by rw [q_upd, if_neg hj]⟩
  · rw [e2]
    by_cases x : i < p
    · rw [if_neg (by omega), if_neg (by omega)]
      simp only [if_pos x]
      exact h.2.1 i (by omega)
    · by_cases y : i = p
      · subst y
        rw [if_pos rfl]
        simp only [if_neg x, eq_self, if_true]
        exact ⟨trivial, hc⟩
      · rw [if_neg (by omega), if_pos (by omega), show 60 * t + i - 1 = 60 * t + (i - 1) by omega]
        simp only [if_neg x, if_neg y]
        exact h.2.1 (i - 1) (by omega)
  · show (if i < p then r i else if i = p then c else r (i - 1)) ≤ (if j < p then r j else if j = p then c else r (j - 1))
    by_cases x : i < p
    · rw [if_pos x]
      by_cases y : j < p
      · rw [if_pos y]; exact h.2.2.1 i j hij (by omega)
      · rw [if_neg y]
        by_cases z : j = p
        · rw [if_pos z]; exact p2 i x
        · rw [if_neg z]; exact h.2.2.1 i (j - 1) (by omega) (by omega)
    · rw [if_neg x, if_neg (show ¬ j < p by omega)]
      by_cases z : i = p
      · rw [if_pos z]
        by_cases w : j = p
        · rw [if_pos w]; omega
        · rw [if_neg w]; have := p3 (j - 1) (by omega) (by omega); omega
      · rw [if_neg z, if_neg (by omega)]; exact h.2.2.1 (i - 1) (j - 1) (by omega) (by omega)
  · rw [ct_ins p1 d]
    unfold mu
    by_cases x : d = c
    · rw [if_pos x, if_pos x.symm, h.2.2.2 d]; omega
    · rw [if_neg x, if_neg (fun y => x y.symm), h.2.2.2 d]; omega
  · rw [e2, if_neg (by omega), if_neg (by omega)]
end RTS
