section RTT
variable {t B n fu c : Nat} {m : Nat → Int} {r : Nat → Nat} {rows size : Nat → Int32}
theorem f_takes_shift (ht : t < 16) (hs : size t = nI n) (hn : n ≤ 59) {p : Nat} (hp : p ≤ n) : ∀ (d G i : Nat) (rows1 : Nat → Int32), d + i = n → d < G → p ≤ i → (∀ j, rows1 j = if 60 * t + p ≤ j ∧ j < 60 * t + i then rows (j + 1) else rows j) →
    ∃ rows', f_X9_takes_36 fu 960 16 (nI t) (nI c) G (nI i) rows1 size = some (rows', size) ∧ ∀ j, rows' j = if 60 * t + p ≤ j ∧ j < 60 * t + n then rows (j + 1) else rows j := by
  intro d
  induction d with
  | zero =>
    intro G i rows1 h1 h2 h3 h4
    obtain ⟨G', rfl⟩ : ∃ G', G = G' + 1 := ⟨G - 1, by omega⟩
    have : i = n := by omega
    subst this
    refine ⟨rows1, ?_, h4⟩
    rw [fs_X9_takes_36, if_pos (nI_in ht (by decide)), q_cl (by omega), hs, k_letS, if_pos (by rw [q_le (by omega) (by omega)]; omega)]
  | succ d ih =>
    intro G i rows1 h1 h2 h3 h4
    obtain ⟨G', rfl⟩ : ∃ G', G = G' + 1 := ⟨G - 1, by omega⟩
    rw [fs_X9_takes_36, if_pos (nI_in ht (by decide)), q_cl (by omega), hs, k_letS, if_neg (by rw [q_le (by omega) (by omega)]; omega), q_60, q_1, q_add, k_letS, if_pos (nI_in (by omega) (by decide)), q_cl (show 60 * t + i + 1 < 2147483648 by omega), k_letS, if_pos (nI_in (by omega) (by decide)), q_cl (show 60 * t + i < 2147483648 by omega), q_add, k_letS]
    refine ih G' (i + 1) _ (by omega) (by omega) (by omega) (fun j => ?_)
    rw [q_upd]
    by_cases x : j = 60 * t + i
    · rw [if_pos x, if_pos (by omega), h4, if_neg (by omega), x]
    · rw [if_neg x, h4]
      by_cases y : 60 * t + p ≤ j ∧ j < 60 * t + i
      · rw [if_pos y, if_pos (by omega)]
      · rw [if_neg y, if_neg (by omega)]
theorem f_takes_find (ht : t < 16) (h : RTk t B m n r rows) (hB : B ≤ 1000000) (hc : c < B) {p : Nat} (hp : p < n) (hpc : r p = c) (hbe : ∀ i, i < p → r i ≠ c) : ∀ (d G i : Nat), d + i = p → d < G → f_X9_takes_2 fu 960 16 (nI t) (nI c) G (nI i) rows size = f_X9_takes_23 fu 960 16 (nI t) (nI c) (nI p) rows size := by
  have hn := h.1
  intro d
  induction d with
  | zero =>
    intro G i h1 h2
    obtain ⟨G', rfl⟩ : ∃ G', G = G' + 1 := ⟨G - 1, by omega⟩
    have : i = p := by omega
    subst this
    rw [fs_X9_takes_2, q_60, k_letS, if_pos (nI_in (by omega) (by decide)), q_cl (by omega), (h.2.1 i hp).1, k_letS, if_pos (by rw [hpc])]
  | succ d ih =>
    intro G i h1 h2
    obtain ⟨G', rfl⟩ : ∃ G', G = G' + 1 := ⟨G - 1, by omega⟩
    have hi := h.2.1 i (by omega)
    have := hbe i (by omega)
    rw [fs_X9_takes_2, q_60, k_letS, if_pos (nI_in (by omega) (by decide)), q_cl (by omega), hi.1, k_letS, if_neg (by rw [q_eq (by omega) (by omega)]; exact this), q_1, q_add, k_letS]
    exact ih G' (i + 1) (by omega) (by omega)
theorem f_takes (hfu : 100000 ≤ fu) (ht : t < 16) (h : RT t B m rows size) (hB : B ≤ 1000000) (hc : c < B) (hpos : m c ≠ 0) : ∃ rows' size', f_X9_takes fu 960 16 (nI t) (nI c) rows size = some (rows', size') ∧ RT t B (mu m c (-1)) rows' size' ∧ (∀ j, j < 60 * t ∨ 60 * t + 60 ≤ j → rows' j = rows j) ∧ (∀ j, j ≠ t → size' j = size j) := by
  obtain ⟨n, r, hs, h⟩ := h
  have hn := h.1
  have hex : ∃ i, i < n ∧ r i = c := by
    have h1 : 0 < fb_ct (fun i => decide (r i = c)) n := by
      have := h.2.2.2 c
      omega
    obtain ⟨i, hi, e⟩ := fb_ct_pos.mp h1
    exact ⟨i, hi, of_decide_eq_true e⟩
  obtain ⟨p, hp, hpc, hbe⟩ := fb_first (p := fun i => r i = c) hex
  unfold f_X9_takes
  have e0 := f_takes_find (fu := fu) (size := size) ht h hB hc hp hpc hbe p fu 0 (by omega) (by omega)
  have e0' : f_X9_takes_2 fu 960 16 (nI t) (nI c) fu 0 rows size = f_X9_takes_23 fu 960 16 (nI t) (nI c) (nI p) rows size := e0
  rw [e0']
  unfold f_X9_takes_23
  rw [if_pos (nI_in ht (by decide)), q_cl (by omega), hs, k_letS, if_pos (q_in ht (by decide)), q_1, q_sub (by omega)]
  obtain ⟨rows', e1, e2⟩ := f_takes_shift (fu := fu) (c := c) (t := t) (n := n - 1) (rows := rows) (size := upd size t (nI (n - 1))) ht (by rw [q_upd, if_pos rfl]) (by omega) (p := p) (by omega) (n - 1 - p) fu p rows (by omega) (by omega) (Nat.le_refl _) (fun j => by rw [if_neg (by omega)])
  refine ⟨rows', _, e1, ⟨n - 1, fun i => if i < p then r i else r (i + 1), by rw [q_upd, if_pos rfl], by omega, fun i hi => ?_, fun i j hij hj => ?_, fun d => ?_⟩, fun j hj => by rw [e2, if_neg (by omega)], fun j hj => by rw [q_upd, if_neg hj]⟩
  · rw [e2]
    by_cases x : i < p
    · rw [if_neg (by omega)]
      simp only [if_pos x]
      exact h.2.1 i (by omega)
    · rw [if_pos (by omega), show 60 * t + i + 1 = 60 * t + (i + 1) by omega]
      simp only [if_neg x]
      exact h.2.1 (i + 1) (by omega)
  · show (if i < p then r i else r (i + 1)) ≤ (if j < p then r j else r (j + 1))
    by_cases x : i < p
    · rw [if_pos x]
      by_cases y : j < p
      · rw [if_pos y]; exact h.2.2.1 i j hij (by omega)
      · rw [if_neg y]; exact h.2.2.1 i (j + 1) (by omega) (by omega)
    · rw [if_neg x, if_neg (by omega)]; exact h.2.2.1 (i + 1) (j + 1) (by omega) (by omega)
  · have h3 := ct_del hp hpc d
    have h4 := h.2.2.2 d
    unfold mu
    show (if d = c then m d + -1 else m d) = (fb_ct (fun i => decide ((if i < p then r i else r (i + 1)) = d)) (n - 1) : Int)
    by_cases x : d = c
    · rw [if_pos x.symm] at h3
      rw [if_pos x]; omega
    · rw [if_neg (fun y => x y.symm)] at h3
      rw [if_neg x]; omega
theorem f_copies_loop {a b : Nat} (ha : a + 1 < 16) (hb : b + 1 < 16) (hab : a + 1 < b ∨ b + 1 < a) : ∀ (d G i : Nat) (rows1 : Nat → Int32), d + i = 120 → d < G → (∀ j, rows1 j = if 60 * b ≤ j ∧ j < 60 * b + i then rows (60 * a + (j - 60 * b)) else rows j) →
    ∃ rows', f_X9_copies_2 fu 960 16 (nI a) (nI b) G (nI i) rows1 size = some (rows', upd (upd size b (size a)) (b + 1) (size (a + 1))) ∧ ∀ j, rows' j = if 60 * b ≤ j ∧ j < 60 * b + 120 then rows (60 * a + (j - 60 * b)) else rows j := by
  intro d
  induction d with
  | zero =>
    intro G i rows1 h1 h2 h3
    obtain ⟨G', rfl⟩ : ∃ G', G = G' + 1 := ⟨G - 1, by omega⟩
    have : i = 120 := by omega
    subst this
    refine ⟨rows1, ?_, h3⟩
    rw [fs_X9_copies_2, if_pos (show (120 : Int32) ≤ nI 120 by decide)]
    unfold f_X9_copies_36
    rw [if_pos (nI_in (by omega) (by decide)), q_cl (show a < 2147483648 by omega), k_letS, if_pos (nI_in (by omega) (by decide)), q_cl (show b < 2147483648 by omega), q_1, q_add, k_letS, if_pos (nI_in (by omega) (by decide)), q_cl (show a + 1 < 2147483648 by omega), k_letS, q_add, if_pos (nI_in (by omega) (by decide)), q_cl (show b + 1 < 2147483648 by omega), q_upd, if_neg (by omega)]
  | succ d ih =>
    intro G i rows1 h1 h2 h3
    obtain ⟨G', rfl⟩ : ∃ G', G = G' + 1 := ⟨G - 1, by omega⟩
    rw [fs_X9_copies_2, if_neg (by rw [show (120 : Int32) = nI 120 from rfl, q_le (by omega) (by omega)]; omega), q_60, k_letS, if_pos (nI_in (by omega) (by decide)), q_cl (show 60 * a + i < 2147483648 by omega), k_letS, q_60, if_pos (nI_in (by omega) (by decide)), q_cl (show 60 * b + i < 2147483648 by omega), q_1, q_add, k_letS]
    refine ih G' (i + 1) _ (by omega) (by omega) (fun j => ?_)
    rw [q_upd]
    by_cases x : j = 60 * b + i
    · rw [if_pos x, if_pos (by omega), h3, if_neg (by omega), x, show 60 * b + i - 60 * b = i by omega]
    · rw [if_neg x, h3]
      by_cases y : 60 * b ≤ j ∧ j < 60 * b + i
      · rw [if_pos y, if_pos (by omega)]
      · rw [if_neg y, if_neg (by omega)]
/-- two tables copied: what stands where -/
def CP (a b : Nat) (rows size rows' size' : Nat → Int32) : Prop := (∀ j, rows' j = if 60 * b ≤ j ∧ j < 60 * b + 120 then rows (60 * a + (j - 60 * b)) else rows j) ∧ ∀ j, size' j = if j = b then size a else if j = b + 1 then size (a + 1) else size j
theorem f_copies {a b : Nat} (hfu : 100000 ≤ fu) (ha : a + 1 < 16) (hb : b + 1 < 16) (hab : a + 1 < b ∨ b + 1 < a) : ∃ rows' size', f_X9_copies fu 960 16 (nI a) (nI b) rows size = some (rows', size') ∧ CP a b rows size rows' size' := by
  unfold f_X9_copies
  obtain ⟨rows', e1, e2⟩ := f_copies_loop (fu := fu) (rows := rows) (size := size) ha hb hab 120 fu 0 rows (by omega) (by omega) (fun j => by rw [if_neg (by omega)])
  refine ⟨rows', _, e1, e2, fun j => ?_⟩
  rw [q_upd, q_upd]
  by_cases x : j = b
  · rw [if_pos x, if_neg (by omega), if_pos x]
  · by_cases y : j = b + 1
    · rw [if_pos y, if_neg x, if_pos y]
    · rw [if_neg y, if_neg x, if_neg x, if_neg y]
/-- the two tables at a place -/
def R2 (t : Nat) (mL mR : Nat → Int) (rows size : Nat → Int32) : Prop := RT t 11940 mL rows size ∧ RT (t + 1) 190 mR rows size
theorem RT.cong {rows' size' : Nat → Int32} {t' : Nat} (h : RT t B m rows size) (h1 : ∀ i, i < 60 → rows' (60 * t' + i) = rows (60 * t + i)) (h2 : size' t' = size t) : RT t' B m rows' size' := by
  obtain ⟨n, r, hs, h⟩ := h
  have hn := h.1
  exact ⟨n, r, by rw [h2, hs], hn, fun i hi => by rw [h1 i (by omega)]; exact h.2.1 i hi, h.2.2⟩
theorem R2.copied {a b : Nat} {mL mR : Nat → Int} {rows' size' : Nat → Int32} (h : R2 a mL mR rows size) (hc : CP a b rows size rows' size') : R2 b mL mR rows' size' := by
  refine ⟨h.1.cong (fun i hi => ?_) ?_, h.2.cong (fun i hi => ?_) ?_⟩
  · rw [hc.1, if_pos (by omega), show 60 * b + i - 60 * b = i by omega]
  · rw [hc.2, if_pos rfl]
  · rw [hc.1, if_pos (by omega)]; congr 1; omega
  · rw [hc.2, if_neg (by omega), if_pos rfl]
theorem R2.other {a b u : Nat} {mL mR : Nat → Int} {rows' size' : Nat → Int32} (h : R2 u mL mR rows size) (hc : CP a b rows size rows' size') (hu : u + 1 < b ∨ b + 1 < u) : R2 u mL mR rows' size' := by
  refine ⟨h.1.cong (fun i hi => ?_) ?_, h.2.cong (fun i hi => ?_) ?_⟩
  · rw [hc.1, if_neg (by omega)]
  · rw [hc.2, if_neg (by omega), if_neg (by omega)]
  · rw [hc.1, if_neg (by omega)]
  · rw [hc.2, if_neg (by omega), if_neg (by omega)]
end RTT
