/-- a sum over all codes is one over the list's places -/
theorem si_keys : ∀ (B n : Nat) (k : Nat → Nat) (h : Nat → Int), (∀ i, i < n → k i < B) → (∀ i j, i < j → j < n → k i < k j) → (∀ c, c < B → h c ≠ 0 → ∃ i, i < n ∧ k i = c) → fb_si h B = fb_si (fun i => h (k i)) n := by
  intro B
  induction B with
  | zero =>
    intro n k h h1 h2 h3
    have : n = 0 := by
      rcases Nat.eq_zero_or_pos n with e | e
      · exact e
      · have := h1 0 e; omega
    subst this
    rfl
  | succ B ih =>
    intro n k h h1 h2 h3
    rw [fb_si_succ]
    by_cases e : n = 0
    · subst e
      have h0 : h B = 0 := by
        by_cases z : h B = 0
        · exact z
        · obtain ⟨i, hi, _⟩ := h3 B (by omega) z
          omega
      rw [ih 0 k h (fun i hi => by omega) (fun i j _ hj => by omega) (fun c hc z => h3 c (by omega) z), h0]
      rfl
    · obtain ⟨n', rfl⟩ : ∃ n', n = n' + 1 := ⟨n - 1, by omega⟩
      by_cases e2 : k n' = B
      · rw [ih n' k h (fun i hi => by have := h2 i n' hi (by omega); omega) (fun i j a b => h2 i j a (by omega)) (fun c hc z => by
          obtain ⟨i, hi, ei⟩ := h3 c (by omega) z
          refine ⟨i, ?_, ei⟩
          rcases Nat.lt_or_ge i n' with x | x
          · exact x
          · have : i = n' := by omega
            rw [this] at ei; omega), fb_si_succ, e2]
      · have hlt : k n' < B := by have := h1 n' (by omega); omega
        have h0 : h B = 0 := by
          by_cases z : h B = 0
          · exact z
          · obtain ⟨i, hi, ei⟩ := h3 B (by omega) z
            rcases Nat.lt_or_ge i n' with x | x
            · have := h2 i n' x (by omega); omega
            · have : i = n' := by omega
              rw [this] at ei; omega
        rw [ih (n' + 1) k h (fun i hi => by
          rcases Nat.lt_or_ge i n' with x | x
          · have := h2 i n' x (by omega); omega
          · have : i = n' := by omega
            rw [this]; exact hlt) h2 (fun c hc z => h3 c (by omega) z), h0]
        omega
section CRB
variable {lim lim2 B n fu c : Nat} {m : Nat → Int} {k : Nat → Nat} {codes counts : Nat → Int32} {size total : Int32}
theorem CRk.sum (h : CRk lim B m n k codes counts) {g : Nat → Int} (hg : ∀ c, g c ≠ 0 → m c ≠ 0) : fb_si g B = fb_si (fun i => g (k i)) n :=
  si_keys B n k g (fun i hi => (h.2.1 i hi).2.2.2) h.2.2.1 (fun c _ z => h.2.2.2 c (hg c z))
theorem f_append {lim n : Nat} {v1 v2 total : Int32} {codes counts : Nat → Int32} (hl : lim < 100000) (hn : n < lim) : f_X0_append lim lim v1 v2 (nI n) total codes counts = some (nI (n + 1), total + v2, upd codes n v1, upd counts n v2) := by
  unfold f_X0_append
  simp (disch := omega) only [q_0, q_1, q_add, q_lt, q_le, q_cl, if_pos, if_neg]
theorem CRk.push (h : CRk lim B m n k codes counts) (h1 : ∀ i, i < n → k i < c) (hc : c < B) (hn : n < lim) {a : Int} (ha : a ≠ 0) (h0 : m c = 0) : CRk lim B (mu m c a) (n + 1) (fun i => if i < n then k i else c) (upd codes n (nI c)) (upd counts n (zI a)) := by
  refine ⟨by omega, fun i hi => ?_, fun i j hij hj => ?_, fun e he => ?_⟩
  · by_cases x : i < n
    · have y := h.2.1 i x
      have z := h1 i x
      simp only [q_upd, if_pos x]
      rw [if_neg (by omega), if_neg (by omega), mu_ne _ _ (by omega)]
      exact y
    · have : i = n := by omega
      subst this
      simp only [q_upd, if_neg x, eq_self, if_true]
      rw [mu_same, h0]
      exact ⟨trivial, by congr 1; omega, by omega, hc⟩
  · show (if i < n then k i else c) < (if j < n then k j else c)
    rw [if_pos (show i < n by omega)]
    by_cases x : j < n
    · rw [if_pos x]; exact h.2.2.1 i j hij x
    · rw [if_neg x]; exact h1 i (by omega)
  · by_cases ec : e = c
    · refine ⟨n, by omega, ?_⟩
      show (if n < n then k n else c) = e
      rw [if_neg (by omega), ec]
    · rw [mu_ne _ _ ec] at he
      obtain ⟨i, hi, ei⟩ := h.2.2.2 e he
      refine ⟨i, by omega, ?_⟩
      show (if i < n then k i else c) = e
      rw [if_pos hi, ei]
theorem CRk.empty (lim B : Nat) (codes counts : Nat → Int32) : CRk lim B (fun _ => 0) 0 (fun _ => 0) codes counts := ⟨Nat.zero_le _, fun i h => by omega, fun i j _ h => by omega, fun c h => absurd rfl h⟩
theorem si_zero : ∀ B, fb_si (fun _ => 0) B = 0
  | 0 => rfl
  | B + 1 => by rw [fb_si_succ, si_zero B]; rfl
theorem CR.empty (lim B : Nat) (codes counts : Nat → Int32) : CR lim B (fun _ => 0) 0 0 codes counts := ⟨0, fun _ => 0, rfl, by rw [si_zero]; rfl, CRk.empty lim B codes counts⟩
theorem f_copy_loop {codes1 counts1 : Nat → Int32} (hl : lim < 100000) (hl2 : lim2 < 100000) (h : CRk lim B m n k codes1 counts1) (hn2 : n ≤ lim2) : ∀ (d g j : Nat) (total : Int32) (codes counts : Nat → Int32), d + j = n → d < g → total = zI (fb_si (fun i => m (k i)) j) → (∀ i, i < j → codes i = codes1 i ∧ counts i = counts1 i) →
    ∃ codes' counts', f_X0_copyFrom_6 fu lim2 lim2 lim lim (nI n) codes1 counts1 g (nI j) (nI j) total codes counts = some (nI n, zI (fb_si (fun i => m (k i)) n), codes', counts') ∧ ∀ i, i < n → codes' i = codes1 i ∧ counts' i = counts1 i := by
  have hn := h.1
  intro d
  induction d with
  | zero =>
    intro g j total codes counts h1 h2 h3 h4
    obtain ⟨g', rfl⟩ : ∃ g', g = g' + 1 := ⟨g - 1, by omega⟩
    have e : j = n := by omega
    subst e
    refine ⟨codes, counts, ?_, h4⟩
    rw [fs_X0_copyFrom_6, if_pos (by rw [q_le (by omega) (by omega)]; omega), h3]
  | succ d ih =>
    intro g j total codes counts h1 h2 h3 h4
    obtain ⟨g', rfl⟩ : ∃ g', g = g' + 1 := ⟨g - 1, by omega⟩
    rw [fs_X0_copyFrom_6, if_neg (by rw [q_le (by omega) (by omega)]; omega), f_codeAt (by omega) hn (by omega), k_b1S, f_countAt (by omega) hn (by omega), k_b1S, if_pos (show j < n by omega), if_pos (show j < n by omega), f_append hl2 (by omega), k_b4S, q_1, q_add, k_letS]
    refine ih g' (j + 1) _ _ _ (by omega) (by omega) ?_ (fun i hi => ?_)
    · rw [h3, (h.2.1 j (by omega)).2.1, zI_add, fb_si_succ]
    · rw [q_upd, q_upd]
      by_cases x : i = j
      · rw [if_pos x, if_pos x, x]; exact ⟨rfl, rfl⟩
      · rw [if_neg x, if_neg x]; exact h4 i (by omega)
theorem f_copy {codes1 counts1 : Nat → Int32} {size1 total1 : Int32} (hfu : 100000 ≤ fu) (hl : lim < 100000) (hl2 : lim ≤ lim2 ∧ lim2 < 100000) (h : CR lim B m size1 total1 codes1 counts1) : ∃ size' total' codes' counts', f_X0_copyFrom fu lim2 lim2 lim lim size1 codes1 counts1 size total codes counts = some (size', total', codes', counts') ∧ CR lim2 B m size' total' codes' counts' := by
  obtain ⟨n, k, e1, e2, h⟩ := h
  subst e1
  have hn := h.1
  unfold f_X0_copyFrom f_X0_clear
  rw [k_b2S]
  obtain ⟨codes', counts', h1, h2⟩ := f_copy_loop (fu := fu) hl hl2.2 h (by omega) n fu 0 0 codes counts (by omega) (by omega) rfl (fun i hi => by omega)
  refine ⟨_, _, codes', counts', h1, n, k, rfl, ?_, by omega, fun i hi => ?_, h.2.2⟩
  · rw [h.sum (g := m) (fun c z => z)]
  · rw [(h2 i hi).1, (h2 i hi).2]; exact h.2.1 i hi
end CRB
