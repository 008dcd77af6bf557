theorem f_open {lim n p : Nat} {v2 : Int32} {codes counts : Nat → Int32} (hl : lim < 100000) (hp : p ≤ n) (hn : n < lim) : f_X0_openPlace lim lim (nI p) v2 (nI n) codes counts = some (nI (n + 1), upd (va_cpy codes codes p (p + 1) (n - p)) p v2, upd (va_cpy counts counts p (p + 1) (n - p)) p (nI 0)) := by
  unfold f_X0_openPlace
  simp (disch := omega) only [q_0, q_1, q_add, q_sub, q_lt, q_le, q_cl, if_pos, if_neg]
theorem f_close {lim n p : Nat} {codes counts : Nat → Int32} (hl : lim < 100000) (hp : p < n) (hn : n ≤ lim) : f_X0_closePlace lim lim (nI p) (nI n) codes counts = some (nI (n - 1), va_cpy codes codes (p + 1) p (n - p - 1), va_cpy counts counts (p + 1) p (n - p - 1)) := by
  unfold f_X0_closePlace
  simp (disch := omega) only [q_0, q_1, q_add, q_sub, q_lt, q_le, q_cl, if_pos, if_neg]
theorem q_upd (f : Nat → Int32) (i : Nat) (x : Int32) (j : Nat) : upd f i x j = if j = i then x else f j := rfl
theorem q_cpy (f g : Nat → Int32) (sp dp n j : Nat) : va_cpy f g sp dp n j = if dp ≤ j ∧ j < dp + n then f (sp + (j - dp)) else g j := rfl
/-- one count changed -/
def mu (m : Nat → Int) (c : Nat) (a : Int) : Nat → Int := fun d => if d = c then m d + a else m d
theorem mu_same (m : Nat → Int) (c : Nat) (a : Int) : mu m c a c = m c + a := if_pos rfl
theorem mu_ne (m : Nat → Int) {c d : Nat} (a : Int) (h : d ≠ c) : mu m c a d = m d := if_neg h
theorem mu_si (m : Nat → Int) {c B : Nat} (a : Int) (h : c < B) : fb_si (mu m c a) B = fb_si m B + a := by
  have h1 := fb_si_upd m (m c + a) h
  have h2 : fb_si (mu m c a) B = fb_si (fun k => if k = c then m c + a else m k) B := fb_si_cong (fun k _ => by
    unfold mu
    by_cases e : k = c
    · rw [if_pos e, if_pos e, e]
    · rw [if_neg e, if_neg e])
  rw [h2, h1]; omega
section CRA
variable {lim B n fu c : Nat} {m : Nat → Int} {k : Nat → Nat} {codes counts : Nat → Int32} {total : Int32}
theorem f_add (hfu : 100000 ≤ fu) (hl : lim < 100000) (hB : B ≤ 1000000) (hc : c < B) (h : CRk lim B m n k codes counts) {a : Int} (hb : -2000000000 ≤ m c + a ∧ m c + a ≤ 2000000000) (hr : m c = 0 → n < lim ∧ a ≠ 0) :
    ∃ (n' : Nat) (k' : Nat → Nat) (codes' counts' : Nat → Int32), f_X0_add fu lim lim (nI c) (zI a) (nI n) total codes counts = some (nI n', total + zI a, codes', counts') ∧ CRk lim B (mu m c a) n' k' codes' counts' ∧ n' ≤ n + (if m c = 0 then 1 else 0) := by
  unfold f_X0_add
  obtain ⟨p, h1, h2, h3, e1⟩ := f_first (fu := fu) (c := c) hfu hl h.1 (by omega) (h.keys hB) h.2.2.1
  have hn := h.1
  rw [e1, k_b1S, f_codeAt (by omega) hn (by omega), k_b1S]
  rcases h.place h1 h2 h3 with ⟨a1, b, d⟩ | ⟨a1, b⟩
  · rw [if_pos b, (h.2.1 p b).1, d, if_pos rfl]
    unfold f_X0_add_21
    rw [f_codeAt (by omega) hn (by omega), k_b1S, if_pos b, (h.2.1 p b).1, d, if_pos rfl]
    simp (disch := omega) only [q_0, q_lt, q_le, q_cl, k_letS, if_pos, if_neg]
    have e2 : counts p + zI a = zI (m c + a) := by rw [(h.2.1 p b).2.1, d, zI_add]
    rw [q_upd, if_pos rfl, e2]
    by_cases z : m c + a = 0
    · rw [if_pos (show zI (m c + a) = nI 0 by rw [z]; rfl), f_close hl b hn, k_b3S]
      refine ⟨n - 1, fun i => if i < p then k i else k (i + 1), _, _, rfl, ⟨by omega, fun i hi => ?_, fun i j hij hj => ?_, fun e he => ?_⟩, by (try rw [if_neg a1]); omega⟩
      · have hne : ∀ j, j < n → j ≠ p → k j ≠ c := by
          intro j hj hjp e
          rcases Nat.lt_or_gt_of_ne hjp with x | x
          · have := h.2.2.1 j p x b; omega
          · have := h.2.2.1 p j x hj; omega
        by_cases x : i < p
        · have y := h.2.1 i (by omega)
          have z1 := hne i (by omega) (by omega)
          simp only [q_cpy, q_upd, if_pos x]
          rw [if_neg (by omega), if_neg (by omega), if_neg (by omega), mu_ne _ _ z1]
          exact y
        · have y := h.2.1 (i + 1) (by omega)
          have z1 := hne (i + 1) (by omega) (by omega)
          simp only [q_cpy, q_upd, if_neg x]
          rw [if_pos (by omega), if_pos (by omega), show p + 1 + (i - p) = i + 1 by omega, if_neg (by omega), mu_ne _ _ z1]
          exact y
      · show (if i < p then k i else k (i + 1)) < (if j < p then k j else k (j + 1))
        by_cases x : i < p
        · rw [if_pos x]
          by_cases y : j < p
          · rw [if_pos y]; exact h.2.2.1 i j hij (by omega)
          · rw [if_neg y]; exact h.2.2.1 i (j + 1) (by omega) (by omega)
        · rw [if_neg x, if_neg (by omega)]; exact h.2.2.1 (i + 1) (j + 1) (by omega) (by omega)
      · by_cases ec : e = c
        · subst ec; rw [mu_same] at he; exact absurd z he
        · rw [mu_ne _ _ ec] at he
          obtain ⟨i, hi, ei⟩ := h.2.2.2 e he
          have hip : i ≠ p := fun q => ec (by rw [← ei, q, d])
          rcases Nat.lt_or_gt_of_ne hip with x | x
          · refine ⟨i, by omega, ?_⟩
            show (if i < p then k i else k (i + 1)) = e
            rw [if_pos x]; exact ei
          · refine ⟨i - 1, by omega, ?_⟩
            show (if i - 1 < p then k (i - 1) else k (i - 1 + 1)) = e
            rw [if_neg (by omega), show i - 1 + 1 = i by omega]; exact ei
    · rw [if_neg (show ¬ zI (m c + a) = nI 0 from fun q => z ((zI_z (by omega) (by omega)).mp q))]
      refine ⟨n, k, _, _, rfl, ⟨hn, fun i hi => ?_, h.2.2.1, fun e he => ?_⟩, by omega⟩
      · have y := h.2.1 i hi
        by_cases x : i = p
        · subst x
          rw [d, q_upd, if_pos rfl, mu_same]
          rw [d] at y
          exact ⟨y.1, rfl, z, y.2.2.2⟩
        · have z1 : k i ≠ c := by
            intro e
            rcases Nat.lt_or_gt_of_ne x with w | w
            · have := h.2.2.1 i p w b; omega
            · have := h.2.2.1 p i w hi; omega
          rw [q_upd, if_neg x, mu_ne _ _ z1]; exact y
      · by_cases ec : e = c
        · subst ec; exact ⟨p, b, d⟩
        · rw [mu_ne _ _ ec] at he; exact h.2.2.2 e he
  · have hne : ¬ ((if p < n then codes p else nI 1000000) = nI c) := by
      by_cases x : p < n
      · have h4 := (h.2.1 p x).2.2.2
        rw [if_pos x, (h.2.1 p x).1, q_eq (by omega) (by omega)]
        have := b p (Nat.le_refl _) x
        omega
      · rw [if_neg x, q_eq (by omega) (by omega)]; omega
    obtain ⟨r1, r2⟩ := hr a1
    rw [if_neg hne, f_open hl h1 r1, k_b3S]
    unfold f_X0_add_21
    rw [f_codeAt (by omega) (by omega) (by omega), k_b1S, if_pos (show p < n + 1 by omega), q_upd, if_pos rfl, if_pos rfl]
    simp (disch := omega) only [q_0, q_lt, q_le, q_cl, k_letS, if_pos, if_neg]
    have e2 : (upd (va_cpy counts counts p (p + 1) (n - p)) p (nI 0)) p + zI a = zI a := by
      rw [q_upd, if_pos rfl]
      show zI 0 + zI a = zI a
      rw [zI_add]; congr 1; omega
    rw [e2]
    have e3 : (upd (upd (va_cpy counts counts p (p + 1) (n - p)) p (nI 0)) p (zI a)) p = zI a := by rw [q_upd, if_pos rfl]
    rw [e3, if_neg (show ¬ zI a = nI 0 from fun q => r2 ((zI_z (by omega) (by omega)).mp q))]
    refine ⟨n + 1, fun i => if i < p then k i else if i = p then c else k (i - 1), _, _, rfl, ⟨by omega, fun i hi => ?_, fun i j hij hj => ?_, fun e he => ?_⟩, by (try rw [if_pos a1]); omega⟩
    · by_cases x : i < p
      · have y := h.2.1 i (by omega)
        have z1 : k i ≠ c := by have := h2 i x; omega
        simp only [q_cpy, q_upd, if_pos x]
        rw [if_neg (by omega), if_neg (by omega), if_neg (by omega), if_neg (by omega), if_neg (by omega), mu_ne _ _ z1]
        exact y
      · by_cases x2 : i = p
        · subst x2
          simp only [q_cpy, q_upd, if_neg x, eq_self, if_true]
          rw [mu_same, a1]
          refine ⟨trivial, by congr 1; omega, by omega, hc⟩
        · have y := h.2.1 (i - 1) (by omega)
          have z1 : k (i - 1) ≠ c := by have := b (i - 1) (by omega) (by omega); omega
          simp only [q_cpy, q_upd, if_neg x, if_neg x2]
          rw [if_pos (by omega), if_pos (by omega), show p + (i - (p + 1)) = i - 1 by omega, mu_ne _ _ z1]
          exact y
    · show (if i < p then k i else if i = p then c else k (i - 1)) < (if j < p then k j else if j = p then c else k (j - 1))
      by_cases x : i < p
      · rw [if_pos x]
        by_cases y : j < p
        · rw [if_pos y]; exact h.2.2.1 i j hij (by omega)
        · rw [if_neg y]
          by_cases z : j = p
          · rw [if_pos z]; exact h2 i x
          · rw [if_neg z]; exact h.2.2.1 i (j - 1) (by omega) (by omega)
      · rw [if_neg x, if_neg (show ¬ j < p by omega), if_neg (show ¬ j = p by omega)]
        by_cases z : i = p
        · rw [if_pos z]; exact b (j - 1) (by omega) (by omega)
        · rw [if_neg z]; exact h.2.2.1 (i - 1) (j - 1) (by omega) (by omega)
    · by_cases ec : e = c
      · refine ⟨p, by omega, ?_⟩
        show (if p < p then k p else if p = p then c else k (p - 1)) = e
        rw [if_neg (by omega), if_pos rfl, ec]
      · rw [mu_ne _ _ ec] at he
        obtain ⟨i, hi, ei⟩ := h.2.2.2 e he
        by_cases x : i < p
        · refine ⟨i, by omega, ?_⟩
          show (if i < p then k i else if i = p then c else k (i - 1)) = e
          rw [if_pos x]; exact ei
        · refine ⟨i + 1, by omega, ?_⟩
          show (if i + 1 < p then k (i + 1) else if i + 1 = p then c else k (i + 1 - 1)) = e
          rw [if_neg (by omega), if_neg (by omega), show i + 1 - 1 = i by omega]; exact ei
end CRA
