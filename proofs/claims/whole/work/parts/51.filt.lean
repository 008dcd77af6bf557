theorem q_in {i N : Nat} (h : i < N) (hN : N < 2147483648) : ¬ (nI i < 0 ∨ N ≤ i) := fun q => q.elim (fun h => nI_pos (by omega) h) (fun h => by omega)
section FCL
variable {N fu : Nat} {st : Nat → Nat} {nu : Nat → Int} {steps numbers : Nat → Int32} {k g v f : Int}
theorem f_holds1_loop (hF : FW N st nu) (hC : ∀ i, i < N → steps i = nI (st i) ∧ numbers i = zI (nu i)) (hK : KV k g v f) (hN : 0 < N) : ∀ (d G i : Nat), d + i = N → d < G →
    f_X1_holds_17 fu 40 40 (nI N) steps numbers (zI k) (zI g) (zI v) (zI f) G (nI (bits (evF k g v f st nu i))) (nI i) = some (nI (bv ((evF k g v f st nu N).headD false))) := by
  have hN40 := hF.1
  intro d
  induction d with
  | zero =>
    intro G i h1 h2
    obtain ⟨G', rfl⟩ : ∃ G', G = G' + 1 := ⟨G - 1, by omega⟩
    have e : i = N := by omega
    subst e
    rw [fs_X1_holds_17, if_pos (by rw [q_le (by omega) (by omega)]; omega)]
    unfold f_X1_holds_151
    have hlen := evF_len hF k g v f i (Nat.le_refl _)
    rw [hF.2.2.2 hN] at hlen
    cases e : evF k g v f st nu i with
    | nil => rw [e] at hlen; simp at hlen
    | cons x r =>
      rw [e] at hlen
      have hr : r = [] := by
        simp only [List.length_cons] at hlen
        exact List.length_eq_zero_iff.mp (by omega)
      subst hr
      show (if nI (2 * 0 + bv x) &&& 1 = 1 then _ else _) = some (nI (bv x))
      rw [b_low x (by omega)]
      cases x
      · rw [if_neg (by decide), if_pos nar0]; rfl
      · rw [if_pos (by decide), if_pos nar1]; rfl
  | succ d ih =>
    intro G i h1 h2
    obtain ⟨G', rfl⟩ : ∃ G', G = G' + 1 := ⟨G - 1, by omega⟩
    rw [fs_X1_holds_17, if_neg (by rw [q_le (by omega) (by omega)]; omega), f_isFilled1 hN40 (by omega), k_b1S, if_neg (by decide), if_pos (nI_in (by omega) (by omega)), q_cl (by omega), k_letS, (hC i (by omega)).1]
    have nx := ih G' (i + 1) (by omega) (by omega)
    have hlen := evF_len hF k g v f i (by omega)
    have hd := hF.2.2.1 i (by omega)
    have hb : bits (evF k g v f st nu i) < 1073741824 := by
      have := bits_lt (evF k g v f st nu i)
      rw [hlen] at this
      have h3 : 2 ^ dpt st i ≤ 2 ^ 20 := Nat.pow_le_pow_right (by decide) hd
      have h4 : (2 : Nat) ^ 20 = 1048576 := by decide
      omega
    have en : evF k g v f st nu (i + 1) = ev1 k g v f (st i) (nu i) (evF k g v f st nu i) := rfl
    rw [en] at nx
    unfold ev1 at nx
    rcases hF.2.1 i (by omega) with ⟨a, a2, a3, a4⟩ | ⟨a, b⟩ | ⟨a, b⟩
    · rw [if_pos a] at nx
      rw [if_neg (show ¬ nI (st i) < 4 from nI_nlt (b := 4) a (by omega))]
      unfold f_X1_nameOf f_X1_relationOf
      have e1 : nI (st i) - 4 = nI (st i - 4) := pk_sub (b := 4) a
      have e2 : nI (st i - 4) / 3 = nI ((st i - 4) / 3) := q_div (d := 3) (by omega) (by decide) (by decide)
      have e3 : nI (st i - 4) - nI (st i - 4) / 3 * 3 = nI ((st i - 4) % 3) := pk_rem (d := 3) (by omega) (by decide) (by decide)
      rw [k_b1S, e1, e3, e2, f_operand (by omega), k_b1S, k_letS, k_b1S, if_pos (q_in (by omega) (by omega)), k_letS, (hC i (by omega)).2, f_compare1 (by omega) (opn_bd hK _) (by omega), k_b1S]
      show k_let (nI (bits (evF k g v f st nu i)) <<< ((1 : Int32) &&& 31) ||| nI (bv (tokB k g v f (st i) (nu i)))) _ = _
      rw [b_push _ hb, k_letS]
      unfold f_X1_holds_145
      rw [k_letS, q_1, q_add]
      exact nx
    · rw [if_neg (by omega), if_pos a] at nx
      rw [if_pos (show nI (st i) < 4 from nI_lt (b := 4) (by omega) (by decide)), if_pos (show nI (st i) = 3 by rw [a]; rfl)]
      cases e : evF k g v f st nu i with
      | nil => rw [e] at hlen; simp at hlen; omega
      | cons x r =>
        rw [e] at nx
        show k_let (nI (2 * bits r + bv x) ^^^ 1) _ = _
        rw [b_not, k_letS]
        unfold f_X1_holds_145
        rw [k_letS, q_1, q_add]
        exact nx
    · rw [if_neg (by omega), if_neg (by omega)] at nx
      rw [if_pos (show nI (st i) < 4 from nI_lt (b := 4) (by omega) (by decide)), if_neg (show ¬ nI (st i) = 3 by rw [show (3 : Int32) = nI 3 from rfl, q_eq (by omega) (by omega)]; omega)]
      cases e : evF k g v f st nu i with
      | nil => rw [e] at hlen; simp at hlen; omega
      | cons y r0 =>
        cases r0 with
        | nil => rw [e] at hlen; simp at hlen; omega
        | cons x r =>
          rw [e] at nx hb
          have hb1 : bits (x :: r) < 1073741824 := by
            have : bits (y :: x :: r) = 2 * bits (x :: r) + bv y := rfl
            omega
          have hb2 : bits r < 1073741824 := by
            have : bits (x :: r) = 2 * bits r + bv x := rfl
            omega
          show k_let (nI (2 * bits (x :: r) + bv y) &&& 1) (fun x_14 => k_let ((nI (2 * bits (x :: r) + bv y)).toUInt32 >>> ((1 : Int32).toUInt32 &&& Int32.toUInt32 31)).toInt32 _) = _
          rw [b_low y hb1, k_letS, b_shr y hb1, k_letS]
          have ex : bits (x :: r) = 2 * bits r + bv x := rfl
          unfold f_X1_holds_143 f_X1_holds_145
          rcases a with a | a
          · dsimp only at nx
            rw [if_neg (show ¬ st i = 2 by omega)] at nx
            rw [if_neg (show ¬ nI (st i) = 2 by rw [q_2, q_eq (by omega) (by omega)]; omega), k_letS, q_1, q_add, ex, b_or]
            exact nx
          · dsimp only at nx
            rw [if_pos a] at nx
            rw [if_pos (show nI (st i) = 2 by rw [a]; rfl), k_letS, q_1, q_add, ex, b_and x y hb2]
            exact nx
theorem f_holds1 (hfu : 100000 ≤ fu) (hF : FW N st nu) {size : Int32} (hC : FC N st nu size steps numbers) (hK : KV k g v f) : f_X1_holds fu 40 40 size steps numbers (zI k) (zI g) (zI v) (zI f) = some (nI (bv (HF N st nu k g v f))) := by
  obtain ⟨rfl, hC⟩ := hC
  have hN40 := hF.1
  unfold f_X1_holds HF
  by_cases h : N = 0
  · subst h
    rw [if_pos rfl, if_pos (show nI 0 = 0 from rfl)]
    unfold f_X1_holds_12
    obtain ⟨G, rfl⟩ : ∃ G, fu = G + 1 := ⟨fu - 1, by omega⟩
    rw [fs_X1_holds_17, if_pos (show nI 0 ≤ 0 by decide)]
    unfold f_X1_holds_151
    rw [if_pos (by decide), if_pos nar1]; rfl
  · rw [if_neg h, if_neg (show ¬ nI N = 0 from nI_ne0 (by omega) (by omega))]
    unfold f_X1_holds_12
    exact f_holds1_loop hF hC hK (by omega) N fu 0 (by omega) (by omega)
end FCL
