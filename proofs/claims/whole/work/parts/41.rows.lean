/-! Pure facts: the class's list of counted rows (X0). -/
theorem f_countAt {lim n i : Nat} {counts : Nat → Int32} (hl : lim < 1000000) (hn : n ≤ lim) (hi : i < 1000000) : f_X0_countAt lim (nI n) counts (nI i) = some (if i < n then counts i else nI 0) := by
  unfold f_X0_countAt
  by_cases h : i < n
  · simp (disch := omega) only [q_0, q_lt, q_le, q_cl, k_letS, if_pos, if_neg]
  · simp (disch := omega) only [q_0, q_lt, q_le, q_cl, k_letS, if_pos, if_neg]
theorem f_first_loop {lim n c fu : Nat} {k : Nat → Nat} {codes : Nat → Int32} (hl : lim < 100000) (hn : n ≤ lim) (hc : c < 2000000) (hk : ∀ i, i < n → codes i = nI (k i) ∧ k i < 1000000) (hm : ∀ i j, i < j → j < n → k i < k j) : ∀ (d g lo hi h : Nat), d + h = 32 → hi ≤ n → lo ≤ hi → hi - lo < 2 ^ d → (∀ i, i < lo → k i < c) → (∀ i, hi ≤ i → i < n → c ≤ k i) → d < g →
    ∃ p, p ≤ n ∧ (∀ i, i < p → k i < c) ∧ (∀ i, p ≤ i → i < n → c ≤ k i) ∧ f_X0_firstNotLess_10 fu lim (nI n) codes (nI c) g (nI lo) (nI hi) (nI h) = some (nI p) := by
  intro d
  induction d with
  | zero =>
    intro g lo hi h h1 h2 h3 h4 h5 h6 h7
    obtain ⟨g', rfl⟩ : ∃ g', g = g' + 1 := ⟨g - 1, by omega⟩
    have e : hi = lo := by omega
    refine ⟨lo, by omega, h5, fun i a b => h6 i (by omega) b, ?_⟩
    rw [fs_X0_firstNotLess_10, if_pos (by rw [q_32, q_le (by omega) (by omega)]; omega)]
  | succ d ih =>
    intro g lo hi h h1 h2 h3 h4 h5 h6 h7
    obtain ⟨g', rfl⟩ : ∃ g', g = g' + 1 := ⟨g - 1, by omega⟩
    rw [fs_X0_firstNotLess_10, if_neg (by rw [q_32, q_le (by omega) (by omega)]; omega)]
    by_cases e : hi ≤ lo
    · refine ⟨lo, by omega, h5, fun i a b => h6 i (by omega) b, ?_⟩
      rw [if_pos (by rw [q_le (by omega) (by omega)]; exact e)]
    · rw [if_neg (by rw [q_le (by omega) (by omega)]; exact e)]
      have e2 : (nI lo + nI hi) / 2 = nI ((lo + hi) / 2) := by rw [q_add, q_2, q_div (by omega) (by omega) (by omega)]
      have hp : 2 ^ (d + 1) = 2 * 2 ^ d := by rw [Nat.pow_succ]; omega
      rw [e2, k_letS, f_codeAt (by omega) hn (by omega), k_b1S, if_pos (show (lo + hi) / 2 < n by omega), (hk _ (show (lo + hi) / 2 < n by omega)).1]
      have hb := (hk _ (show (lo + hi) / 2 < n by omega)).2
      by_cases e3 : c ≤ k ((lo + hi) / 2)
      · rw [if_pos (by rw [q_le (by omega) (by omega)]; exact e3)]
        unfold f_X0_firstNotLess_50
        rw [k_letS, q_1, q_add]
        refine ih g' lo ((lo + hi) / 2) (h + 1) (by omega) (by omega) (by omega) (by omega) h5 (fun i a b => ?_) (by omega)
        rcases Nat.lt_or_ge ((lo + hi) / 2) i with x | x
        · have := hm _ _ x b; omega
        · have : i = (lo + hi) / 2 := by omega
          rw [this]; exact e3
      · rw [if_neg (by rw [q_le (by omega) (by omega)]; exact e3), q_1, q_add, k_letS]
        unfold f_X0_firstNotLess_50
        rw [k_letS, q_1, q_add]
        refine ih g' ((lo + hi) / 2 + 1) hi (h + 1) (by omega) h2 (by omega) (by omega) (fun i a => ?_) h6 (by omega)
        rcases Nat.lt_or_ge i ((lo + hi) / 2) with x | x
        · have := hm _ _ x (show (lo + hi) / 2 < n by omega); omega
        · have : i = (lo + hi) / 2 := by omega
          rw [this]; omega
theorem f_first {lim n c fu : Nat} {k : Nat → Nat} {codes : Nat → Int32} (hfu : 100000 ≤ fu) (hl : lim < 100000) (hn : n ≤ lim) (hc : c < 2000000) (hk : ∀ i, i < n → codes i = nI (k i) ∧ k i < 1000000) (hm : ∀ i j, i < j → j < n → k i < k j) : ∃ p, p ≤ n ∧ (∀ i, i < p → k i < c) ∧ (∀ i, p ≤ i → i < n → c ≤ k i) ∧ f_X0_firstNotLess fu lim (nI n) codes (nI c) = some (nI p) := by
  unfold f_X0_firstNotLess
  exact f_first_loop hl hn hc hk hm 32 fu 0 n 0 rfl (Nat.le_refl _) (Nat.zero_le _) (by omega) (fun i h => by omega) (fun i a b => by omega) (by omega)
/-- n codes k in rising order, counts m of them, no others counted -/
def CRk (lim B : Nat) (m : Nat → Int) (n : Nat) (k : Nat → Nat) (codes counts : Nat → Int32) : Prop :=
  n ≤ lim ∧ (∀ i, i < n → codes i = nI (k i) ∧ counts i = zI (m (k i)) ∧ m (k i) ≠ 0 ∧ k i < B) ∧ (∀ i j, i < j → j < n → k i < k j) ∧ (∀ c, m c ≠ 0 → ∃ i, i < n ∧ k i = c)
def CR (lim B : Nat) (m : Nat → Int) (size total : Int32) (codes counts : Nat → Int32) : Prop :=
  ∃ (n : Nat) (k : Nat → Nat), size = nI n ∧ total = zI (fb_si m B) ∧ CRk lim B m n k codes counts
section CRS
variable {lim B n fu c : Nat} {m : Nat → Int} {k : Nat → Nat} {codes counts : Nat → Int32} {size total : Int32}
theorem CRk.keys (h : CRk lim B m n k codes counts) (hB : B ≤ 1000000) : ∀ i, i < n → codes i = nI (k i) ∧ k i < 1000000 := fun i hi => ⟨(h.2.1 i hi).1, by have := (h.2.1 i hi).2.2.2; omega⟩
/-- the place of a code that is there, and what stands around one that isn't -/
theorem CRk.place (h : CRk lim B m n k codes counts) {p : Nat} (h1 : p ≤ n) (h2 : ∀ i, i < p → k i < c) (h3 : ∀ i, p ≤ i → i < n → c ≤ k i) : (m c ≠ 0 ∧ p < n ∧ k p = c) ∨ (m c = 0 ∧ ∀ i, p ≤ i → i < n → c < k i) := by
  by_cases e : m c = 0
  · right
    refine ⟨e, fun i a b => ?_⟩
    have h4 := h3 i a b
    have h5 := (h.2.1 i b).2.2.1
    rcases Nat.lt_or_ge c (k i) with x | x
    · exact x
    · have : k i = c := by omega
      rw [this] at h5; exact absurd e h5
  · left
    obtain ⟨i, hi, ei⟩ := h.2.2.2 c e
    have hpi : p ≤ i := by
      rcases Nat.lt_or_ge i p with x | x
      · have := h2 i x; omega
      · exact x
    have : p = i := by
      rcases Nat.lt_or_ge p i with x | x
      · have a1 := h.2.2.1 p i x hi
        have a2 := h3 p (Nat.le_refl _) (by omega)
        omega
      · omega
    subst this
    exact ⟨e, hi, ei⟩
theorem f_countOf (hfu : 100000 ≤ fu) (hl : lim < 100000) (hB : B ≤ 1000000) (hc : c < B) (h : CRk lim B m n k codes counts) : f_X0_countOf fu lim lim (nI n) codes counts (nI c) = some (zI (m c)) := by
  unfold f_X0_countOf
  obtain ⟨p, h1, h2, h3, e1⟩ := f_first (fu := fu) (c := c) hfu hl h.1 (by omega) (h.keys hB) h.2.2.1
  have hn := h.1
  rw [e1, k_b1S, f_codeAt (by omega) hn (by omega), k_b1S]
  rcases h.place h1 h2 h3 with ⟨a, b, d⟩ | ⟨a, b⟩
  · rw [if_pos b, (h.2.1 p b).1, d, if_pos rfl, f_countAt (by omega) hn (by omega), k_b1S, if_pos b, (h.2.1 p b).2.1, d]
  · have : ¬ ((if p < n then codes p else nI 1000000) = nI c) := by
      by_cases x : p < n
      · have h4 := (h.2.1 p x).2.2.2
        rw [if_pos x, (h.2.1 p x).1, q_eq (by omega) (by omega)]
        have := b p (Nat.le_refl _) x
        omega
      · rw [if_neg x, q_eq (by omega) (by omega)]; omega
    rw [if_neg this, a]
    rfl
end CRS
