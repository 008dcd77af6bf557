theorem si_ge {f : Nat → Int} (h : ∀ i, 0 ≤ f i) : ∀ {n j : Nat}, j < n → f j ≤ fb_si f n := by
  intro n
  induction n with
  | zero => intro j hj; omega
  | succ n ih =>
    intro j hj
    rw [fb_si_succ]
    have h1 := h n
    by_cases e : j = n
    · subst e
      have := si_nonneg (f := f) j (fun i _ => h i)
      omega
    · have := ih (show j < n by omega)
      omega
theorem ib_v (mt : Nat → Nat → Bool) (l r : Nat) : ib mt l r = if mt l r = true then 1 else 0 := rfl
theorem f_isD_loop {fu nr l : Nat} {mR : Nat → Int} {rr : Nat → Nat} {rows size filter : Nat → Int32} {fsize : Int32} {mt : Nat → Nat → Bool} (hR : RTk 1 190 mR nr rr rows) (hs : size 1 = nI nr) (hM : HM9 fu mt fsize filter) (hl : l < 11940) : ∀ (d G j : Nat) (stack : Nat → Int32), d + j = nr → d < G → (∀ i, i < j → mt l (rr i) = false) →
    ∃ st', f_X9_isDangling_2 fu 960 16 40 40 fsize rows size filter (nI l) G (nI j) stack = some ((if PW mt mR l = 0 then 1 else 0), st') := by
  have hn := hR.1
  have hP : PW mt mR l = fb_si (fun i => ib mt l (rr i)) nr := (hR.sum (ib mt l)).symm
  have i1 : (1 : Int32).toNatClampNeg = 1 := rfl
  intro d
  induction d with
  | zero =>
    intro G j stack h1 h2 h3
    obtain ⟨G', rfl⟩ : ∃ G', G = G' + 1 := ⟨G - 1, by omega⟩
    have z : PW mt mR l = 0 := by
      rw [hP]
      exact si_0 (fun i hi => by rw [ib_v, h3 i (by omega)]; rfl)
    refine ⟨stack, ?_⟩
    rw [fs_X9_isDangling_2, if_pos (by decide), i1, hs, k_letS, if_pos (show nI nr ≤ nI j by rw [q_le (by omega) (by omega)]; omega), if_pos nar1, if_pos z]
  | succ d ih =>
    intro G j stack h1 h2 h3
    obtain ⟨G', rfl⟩ : ∃ G', G = G' + 1 := ⟨G - 1, by omega⟩
    have hj := hR.2.1 j (by omega)
    obtain ⟨st1, e1⟩ := hM l (rr j) stack hl hj.2
    have e60 : (60 : Int32) + nI j = nI (60 * 1 + j) := q_add 60 j
    rw [fs_X9_isDangling_2, if_pos (by decide), i1, hs, k_letS, if_neg (show ¬ nI nr ≤ nI j by rw [q_le (by omega) (by omega)]; omega), e60, k_letS, if_pos (nI_in (c := 60 * 1 + j) (N := 960) (by omega) (by decide)), q_cl (by omega), hj.1, k_letS, e1, k_b2S]
    cases hm : mt l (rr j) with
    | false =>
      rw [if_pos (by decide), k_letS, q_1, q_add]
      exact ih G' (j + 1) st1 (by omega) (by omega) (fun i hi => by
        by_cases e : i = j
        · rw [e]; exact hm
        · exact h3 i (by omega))
    | true =>
      have z : ¬ PW mt mR l = 0 := by
        have a := si_ge (f := fun i => ib mt l (rr i)) (fun i => by rw [ib_v]; by_cases x : mt l (rr i) = true <;> simp [x]) (show j < nr by omega)
        have b : ib mt l (rr j) = 1 := by rw [ib_v, hm]; rfl
        have a' : ib mt l (rr j) ≤ fb_si (fun i => ib mt l (rr i)) nr := a
        rw [hP]; omega
      exact ⟨st1, by rw [if_neg (by decide), if_pos nar0, if_neg z]⟩
