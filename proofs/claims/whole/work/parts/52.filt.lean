/-- the reference's code of a step -/
def enc (t : Nat) (z : Int) : Nat := if t = 3 then 1 else if t = 2 then 2 else if t = 1 then 3 else 10 + 6000 * ((t - 4) / 3) + 2000 * ((t - 4) % 3) + (z + 999).toNat
def FM (N : Nat) (st : Nat → Nat) (nu : Nat → Int) (size : Int32) (filter : Nat → Int32) : Prop := size = nI N ∧ ∀ i, i < N → filter i = nI (enc (st i) (nu i))
theorem enc_cmp {t : Nat} {z : Int} (h : 4 ≤ t) (h2 : t ≤ 18) (h3 : -999 ≤ z) (h4 : z ≤ 999) : enc t z = 10 + (6000 * ((t - 4) / 3) + 2000 * ((t - 4) % 3) + (z + 999).toNat) := by
  unfold enc
  rw [if_neg (by omega), if_neg (by omega), if_neg (by omega)]; omega
def SR : List Bool → (Nat → Int32) → Prop
  | [], _ => True
  | b :: r, s => s r.length = nI (bv b) ∧ SR r s
theorem SR_upd : ∀ (r : List Bool) (s : Nat → Int32) (j : Nat) (x : Int32), r.length ≤ j → SR r s → SR r (upd s j x)
  | [], _, _, _, _, _ => trivial
  | b :: r, s, j, x, h, hs => by
    simp only [List.length_cons] at h
    refine ⟨?_, SR_upd r s j x (by omega) hs.2⟩
    rw [q_upd, if_neg (by omega)]; exact hs.1
theorem bv0 (b : Bool) : (nI (bv b) = 0) = (b = false) := by cases b <;> decide
theorem vnar (b : Bool) : vp_nar .boolean (nI (bv b)) = nI (bv b) := by cases b <;> decide +kernel
theorem f_compares9 {a r : Nat} (ha : a ≤ 4) (hr : r ≤ 2) {k g v f z : Int} (hK : KV k g v f) (h3 : -999 ≤ z) (h4 : z ≤ 999) : f_X9_compares (nI (6000 * a + 2000 * r + (z + 999).toNat)) (zI k) (zI g) (zI v) (zI f) = some (nI (bv (cmp r (opn a k g v f) z))) := by
  unfold f_X9_compares
  generalize hw : (z + 999).toNat = w
  have hw2 : (w : Int) = z + 999 := by omega
  have e1 : nI (6000 * a + 2000 * r + w) - nI (6000 * a + 2000 * r + w) / 2000 * 2000 = nI w := by
    have := pk_rem (a := 6000 * a + 2000 * r + w) (d := 2000) (by omega) (by decide) (by decide)
    refine Eq.trans this ?_
    congr 1; omega
  have e2 : nI w - 999 = zI z := by
    rw [← zI_nat]
    show zI w - zI 999 = zI z
    rw [zI_sub]; congr 1; omega
  have e3 : nI (6000 * a + 2000 * r + w) / 2000 = nI (3 * a + r) := by
    have := q_div (a := 6000 * a + 2000 * r + w) (d := 2000) (by omega) (by decide) (by decide)
    refine Eq.trans this ?_
    congr 1; omega
  have e4 : nI (3 * a + r) - nI (3 * a + r) / 3 * 3 = nI r := by
    have := pk_rem (a := 3 * a + r) (d := 3) (by omega) (by decide) (by decide)
    refine Eq.trans this ?_
    congr 1; omega
  have e5 : nI (6000 * a + 2000 * r + w) / 6000 = nI a := by
    have := q_div (a := 6000 * a + 2000 * r + w) (d := 6000) (by omega) (by decide) (by decide)
    refine Eq.trans this ?_
    congr 1; omega
  rw [e1, k_letS, e2, k_letS, e3, e4, k_letS, e5, k_letS]
  have core : ∀ x : Int, -1000000 ≤ x ∧ x ≤ 1000000 → f_X9_compares_71 (nI (6000 * a + 2000 * r + w)) (zI k) (zI g) (zI v) (zI f) (zI z) (nI r) (zI x) = some (nI (bv (cmp r x z))) := by
    intro x hx
    unfold f_X9_compares_71
    rcases (show r = 0 ∨ r = 1 ∨ r = 2 by omega) with h | h | h
    · subst h
      show _ = some (nI (bv (decide (x < z))))
      rw [if_pos (show nI 0 = 0 by decide)]
      by_cases h : x < z
      · rw [if_neg (by rw [zI_le (by omega) (by omega) (by omega) (by omega)]; omega), if_pos nar1, decide_eq_true h]; rfl
      · rw [if_pos (by rw [zI_le (by omega) (by omega) (by omega) (by omega)]; omega), if_pos nar0, decide_eq_false h]; rfl
    · subst h
      show _ = some (nI (bv (decide (x = z))))
      rw [if_neg (show ¬ nI 1 = 0 by decide), if_pos (show nI 1 = 1 by decide)]
      by_cases h : x = z
      · rw [if_pos (show zI x = zI z by rw [h]), if_pos nar1, decide_eq_true h]; rfl
      · rw [if_neg (show ¬ zI x = zI z by rw [zI_eq (by omega) (by omega) (by omega) (by omega)]; omega), if_pos nar0, decide_eq_false h]; rfl
    · subst h
      show _ = some (nI (bv (decide (z < x))))
      rw [if_neg (show ¬ nI 2 = 0 by decide), if_neg (show ¬ nI 2 = 1 by decide)]
      by_cases h : z < x
      · rw [if_neg (by rw [zI_le (by omega) (by omega) (by omega) (by omega)]; omega), if_pos nar1, decide_eq_true h]; rfl
      · rw [if_pos (by rw [zI_le (by omega) (by omega) (by omega) (by omega)]; omega), if_pos nar0, decide_eq_false h]; rfl
  have ob := opn_bd hK
  rcases (show a = 0 ∨ a = 1 ∨ a = 2 ∨ a = 3 ∨ a = 4 by omega) with h | h | h | h | h
  · rw [if_pos (show nI a = 0 by rw [h]; rfl)]
    have := core (opn a k g v f) (ob a)
    rw [h] at this ⊢; exact this
  · rw [if_neg (show ¬ nI a = 0 by rw [h]; decide), if_pos (show nI a = 1 by rw [h]; rfl)]
    have := core (opn a k g v f) (ob a)
    rw [h] at this ⊢; exact this
  · rw [if_neg (show ¬ nI a = 0 by rw [h]; decide), if_neg (show ¬ nI a = 1 by rw [h]; decide), if_pos (show nI a = 2 by rw [h]; rfl)]
    have := core (opn a k g v f) (ob a)
    rw [h] at this ⊢; exact this
  · rw [if_neg (show ¬ nI a = 0 by rw [h]; decide), if_neg (show ¬ nI a = 1 by rw [h]; decide), if_neg (show ¬ nI a = 2 by rw [h]; decide), if_pos (show nI a = 3 by rw [h]; rfl)]
    have := core (opn a k g v f) (ob a)
    rw [h] at this ⊢; exact this
  · rw [if_neg (show ¬ nI a = 0 by rw [h]; decide), if_neg (show ¬ nI a = 1 by rw [h]; decide), if_neg (show ¬ nI a = 2 by rw [h]; decide), if_neg (show ¬ nI a = 3 by rw [h]; decide), zI_mul]
    have := core (opn a k g v f) (ob a)
    rw [h] at this ⊢; exact this
section FML
variable {N fu : Nat} {st : Nat → Nat} {nu : Nat → Int} {filter : Nat → Int32} {k g v f : Int}
theorem f_holds9_loop (hF : FW N st nu) (hC : ∀ i, i < N → filter i = nI (enc (st i) (nu i))) (hK : KV k g v f) (hN : 0 < N) : ∀ (d G i : Nat) (stack : Nat → Int32), d + i = N → d < G → SR (evF k g v f st nu i) stack →
    ∃ stack', f_X9_holds_6 fu 40 40 (nI N) filter (zI k) (zI g) (zI v) (zI f) G (nI (evF k g v f st nu i).length) (nI i) stack = some (nI (bv ((evF k g v f st nu N).headD false)), stack') := by
  have hN40 := hF.1
  intro d
  induction d with
  | zero =>
    intro G i stack h1 h2 hS
    obtain ⟨G', rfl⟩ : ∃ G', G = G' + 1 := ⟨G - 1, by omega⟩
    have e : i = N := by omega
    subst e
    rw [fs_X9_holds_6, if_pos (by rw [q_le (by omega) (by omega)]; omega)]
    unfold f_X9_holds_195
    have hlen := evF_len hF k g v f i (Nat.le_refl _)
    rw [hF.2.2.2 hN] at hlen
    cases e : evF k g v f st nu i with
    | nil => rw [e] at hlen; simp at hlen
    | cons x r =>
      rw [e] at hlen hS
      have hr : r = [] := by
        simp only [List.length_cons] at hlen
        exact List.length_eq_zero_iff.mp (by omega)
      subst hr
      have h0 : stack (0 : Int32).toNatClampNeg = nI (bv x) := hS.1
      rw [if_neg (show ¬ nI i = 0 from nI_ne0 (by omega) (by omega)), if_pos (by decide), h0, k_letS]
      cases x
      · exact ⟨stack, by rw [if_pos (by decide), if_pos nar0]; rfl⟩
      · exact ⟨stack, by rw [if_neg (by decide), if_pos nar1]; rfl⟩
  | succ d ih =>
    intro G i stack h1 h2 hS
    obtain ⟨G', rfl⟩ : ∃ G', G = G' + 1 := ⟨G - 1, by omega⟩
    rw [fs_X9_holds_6, if_neg (by rw [q_le (by omega) (by omega)]; omega), if_pos (nI_in (by omega) (by omega)), q_cl (by omega), k_letS, hC i (by omega)]
    have nx := fun s => ih G' (i + 1) s (by omega) (by omega)
    have hlen := evF_len hF k g v f i (by omega)
    have hd := hF.2.2.1 i (by omega)
    have hd2 := hF.2.2.1 (i + 1) (by omega)
    have en : evF k g v f st nu (i + 1) = ev1 k g v f (st i) (nu i) (evF k g v f st nu i) := rfl
    rw [en] at nx
    unfold ev1 at nx
    rcases hF.2.1 i (by omega) with ⟨a, a2, a3, a4⟩ | ⟨a, b⟩ | ⟨a, b⟩
    · rw [if_pos a] at nx
      rw [enc_cmp a a2 a3 a4]
      rw [if_neg (by rw [q_1, q_eq (by omega) (by omega)]; omega), if_neg (by rw [q_2, q_eq (by omega) (by omega)]; omega), if_neg (by rw [show (3 : Int32) = nI 3 from rfl, q_eq (by omega) (by omega)]; omega), if_pos (q_in (by omega) (by omega)), k_letS]
      have e1 : nI (10 + (6000 * ((st i - 4) / 3) + 2000 * ((st i - 4) % 3) + (nu i + 999).toNat)) - 10 = nI (6000 * ((st i - 4) / 3) + 2000 * ((st i - 4) % 3) + (nu i + 999).toNat) := by
        have := pk_sub (a := 10 + (6000 * ((st i - 4) / 3) + 2000 * ((st i - 4) % 3) + (nu i + 999).toNat)) (b := 10) (by omega)
        refine Eq.trans this ?_
        congr 1; omega
      rw [e1, f_compares9 (by omega) (by omega) hK a3 a4, k_b1S, vnar]
      have hl20 : (evF k g v f st nu i).length ≤ 20 := by omega
      rw [if_pos (nI_in (by omega) (by omega)), q_cl (by omega), k_letS, q_1, q_add]
      unfold f_X9_holds_189
      rw [k_letS, q_1, q_add]
      refine nx _ ⟨?_, ?_⟩
      · rw [q_upd, if_pos rfl]; rfl
      · exact SR_upd _ _ _ _ (Nat.le_refl _) hS
    · rw [if_neg (by omega), if_pos a] at nx
      have ee : enc (st i) (nu i) = 1 := by unfold enc; rw [if_pos a]
      rw [ee, if_pos (show nI 1 = 1 from rfl)]
      cases e : evF k g v f st nu i with
      | nil => rw [e] at hlen; simp at hlen; omega
      | cons x r =>
        rw [e] at nx hS hlen
        have hl : r.length ≤ 20 := by simp only [List.length_cons] at hlen; omega
        have e2 : nI (x :: r).length - 1 = nI r.length := nI_pred r.length
        rw [e2, k_letS, if_pos (nI_in (by omega) (by omega)), q_cl (by omega), k_letS, hS.1]
        unfold f_X9_holds_73 f_X9_holds_189
        have nx2 := nx (upd stack r.length (nI (bv (!x)))) ⟨by rw [q_upd, if_pos rfl], SR_upd _ _ _ _ (Nat.le_refl _) hS.2⟩
        cases x
        · rw [if_pos (by decide), if_pos (nI_in (by omega) (by omega)), q_cl (by omega), k_letS, q_1, q_add, show vp_nar .boolean (nI 1) = nI (bv (!false)) by decide +kernel]
          exact nx2
        · rw [if_neg (by decide), if_pos (nI_in (by omega) (by omega)), q_cl (by omega), k_letS, q_1, q_add, show vp_nar .boolean (0 : Int32) = nI (bv (!true)) by decide +kernel]
          exact nx2
    · rw [if_neg (by omega), if_neg (by omega)] at nx
      cases e : evF k g v f st nu i with
      | nil => rw [e] at hlen; simp at hlen; omega
      | cons y r0 =>
        cases r0 with
        | nil => rw [e] at hlen; simp at hlen; omega
        | cons x r =>
          rw [e] at nx hS hlen
          dsimp only at nx
          have hl : r.length ≤ 20 := by simp only [List.length_cons] at hlen; omega
          have e2 : nI (y :: x :: r).length + (-1) = nI (r.length + 1) := pk_m1 (r.length + 1)
          have e3 : nI (r.length + 1) - 1 = nI r.length := nI_pred r.length
          have sx : stack r.length = nI (bv x) := hS.2.1
          have sy : stack (r.length + 1) = nI (bv y) := hS.1
          rcases a with a | a
          · have ee : enc (st i) (nu i) = 3 := by unfold enc; rw [if_neg (by omega), if_neg (by omega), if_pos a]
            rw [if_neg (by omega)] at nx
            rw [ee, if_neg (by decide), if_neg (by decide), if_pos (show nI 3 = 3 from rfl), e2, k_letS, e3, k_letS, if_pos (nI_in (by omega) (by omega)), q_cl (by omega), k_letS, sx]
            have nx2 := nx (upd stack r.length (nI (bv (x || y)))) ⟨by rw [q_upd, if_pos rfl], SR_upd _ _ _ _ (Nat.le_refl _) hS.2.2⟩
            unfold f_X9_holds_152 f_X9_holds_157 f_X9_holds_189
            cases x
            · rw [if_pos (by decide), if_pos (nI_in (by omega) (by omega)), q_cl (by omega), k_letS, sy]
              cases y
              · rw [if_pos (by decide), if_pos (nI_in (by omega) (by omega)), q_cl (by omega), k_letS, q_1, q_add, show vp_nar .boolean (0 : Int32) = nI (bv (false || false)) by decide +kernel]
                exact nx2
              · rw [if_neg (by decide), if_pos (nI_in (by omega) (by omega)), q_cl (by omega), k_letS, q_1, q_add, show vp_nar .boolean (nI 1) = nI (bv (false || true)) by decide +kernel]
                exact nx2
            · rw [if_neg (by decide), if_pos (nI_in (by omega) (by omega)), q_cl (by omega), k_letS, q_1, q_add, show vp_nar .boolean (nI 1) = nI (bv (true || y)) by cases y <;> decide +kernel]
              exact nx2
          · have ee : enc (st i) (nu i) = 2 := by unfold enc; rw [if_neg (by omega), if_pos a]
            rw [if_pos a] at nx
            rw [ee, if_neg (by decide), if_pos (show nI 2 = 2 from rfl), e2, k_letS, e3, k_letS, if_pos (nI_in (by omega) (by omega)), q_cl (by omega), k_letS, sx]
            have nx2 := nx (upd stack r.length (nI (bv (x && y)))) ⟨by rw [q_upd, if_pos rfl], SR_upd _ _ _ _ (Nat.le_refl _) hS.2.2⟩
            unfold f_X9_holds_114 f_X9_holds_115 f_X9_holds_189
            cases x
            · rw [if_pos (by decide), if_pos (nI_in (by omega) (by omega)), q_cl (by omega), k_letS, q_1, q_add, show vp_nar .boolean (0 : Int32) = nI (bv (false && y)) by cases y <;> decide +kernel]
              exact nx2
            · rw [if_neg (by decide), if_pos (nI_in (by omega) (by omega)), q_cl (by omega), k_letS, sy]
              cases y
              · rw [if_pos (by decide), if_pos (nI_in (by omega) (by omega)), q_cl (by omega), k_letS, q_1, q_add, show vp_nar .boolean (0 : Int32) = nI (bv (true && false)) by decide +kernel]
                exact nx2
              · rw [if_neg (by decide), if_pos (nI_in (by omega) (by omega)), q_cl (by omega), k_letS, q_1, q_add, show vp_nar .boolean (nI 1) = nI (bv (true && true)) by decide +kernel]
                exact nx2
theorem f_holds9 (hfu : 100000 ≤ fu) (hF : FW N st nu) {size : Int32} (hC : FM N st nu size filter) (hK : KV k g v f) (stack : Nat → Int32) : ∃ stack', f_X9_holds fu 40 40 size filter (zI k) (zI g) (zI v) (zI f) stack = some (nI (bv (HF N st nu k g v f)), stack') := by
  obtain ⟨rfl, hC⟩ := hC
  have hN40 := hF.1
  unfold f_X9_holds HF
  by_cases h : N = 0
  · subst h
    obtain ⟨G, rfl⟩ : ∃ G, fu = G + 1 := ⟨fu - 1, by omega⟩
    rw [fs_X9_holds_6, if_pos (show nI 0 ≤ 0 by decide)]
    unfold f_X9_holds_195
    exact ⟨stack, by rw [if_pos (show nI 0 = 0 from rfl), if_pos nar1]; rfl⟩
  · rw [if_neg h]
    exact f_holds9_loop hF hC hK (by omega) N fu 0 stack (by omega) (by omega) trivial
end FML
