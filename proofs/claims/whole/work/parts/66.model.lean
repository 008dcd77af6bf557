section PRS
variable {fu nl nr : Nat} {mL mR : Nat → Int} {rl rr : Nat → Nat} {rows size filter : Nat → Int32} {fsize : Int32} {mt : Nat → Nat → Bool}
theorem f_pairs_in (hR : RTk 1 190 mR nr rr rows) (hs : size 1 = nI nr) (hM : HM9 fu mt fsize filter) {l i : Nat} (hl : l < 11940) (hi : i < 60) (hri : rows i = nI l) (K : Int32 → Int32 → (Nat → Int32) → Option (Int32 × (Nat → Int32))) (S : Int) :
    ∀ (d G j : Nat) (stack : Nat → Int32), d + j = nr → d < G → ∃ stack', f_X9_pairs_16 fu 960 16 40 40 fsize rows size filter K G (zI (S + fb_si (fun i2 => ib mt l (rr i2)) j)) (nI i) (nI j) stack = K (zI (S + fb_si (fun i2 => ib mt l (rr i2)) nr)) (nI (i + 1)) stack' := by
  have hn := hR.1
  intro d
  induction d with
  | zero =>
    intro G j stack h1 h2
    obtain ⟨G', rfl⟩ : ∃ G', G = G' + 1 := ⟨G - 1, by omega⟩
    have : j = nr := by omega
    subst this
    refine ⟨stack, ?_⟩
    rw [fs_X9_pairs_16, if_pos (by decide), show (1 : Int32).toNatClampNeg = 1 from rfl, hs, k_letS, if_pos (by rw [q_le (by omega) (by omega)]; omega)]
    unfold f_X9_pairs_62
    rw [k_letS, q_1, q_add]
  | succ d ih =>
    intro G j stack h1 h2
    obtain ⟨G', rfl⟩ : ∃ G', G = G' + 1 := ⟨G - 1, by omega⟩
    have hj := hR.2.1 j (by omega)
    have hj1 : rows (60 + j) = nI (rr j) := hj.1
    obtain ⟨stack1, hd⟩ := hM l (rr j) stack hl hj.2
    have e60 : (60 : Int32) + nI j = nI (60 + j) := q_add 60 j
    obtain ⟨stack', nx⟩ := ih G' (j + 1) stack1 (by omega) (by omega)
    rw [fb_si_succ] at nx
    refine ⟨stack', ?_⟩
    rw [fs_X9_pairs_16, if_pos (by decide), show (1 : Int32).toNatClampNeg = 1 from rfl, hs, k_letS, if_neg (by rw [q_le (by omega) (by omega)]; omega), if_pos (nI_in (by omega) (by decide)), q_cl (show i < 2147483648 by omega), hri, k_letS, e60, k_letS, if_pos (nI_in (by omega) (by decide)), q_cl (show 60 + j < 2147483648 by omega), hj1, k_letS, hd, k_b2S]
    unfold f_X9_pairs_54
    cases hb : mt l (rr j) with
    | false =>
      rw [ib_0 hb, Int.add_zero] at nx
      rw [if_pos (by decide), show zI (S + fb_si (fun i2 => ib mt l (rr i2)) j) + 0 = zI (S + fb_si (fun i2 => ib mt l (rr i2)) j) from Int32.add_zero _, k_letS, q_1, q_add, k_letS]
      exact nx
    | true =>
      rw [ib_1 hb, ← Int.add_assoc] at nx
      rw [if_neg (by decide), show (1 : Int32) = zI 1 from rfl, zI_add, k_letS]
      rw [show zI 1 = nI 1 from rfl, q_add, k_letS]
      exact nx
theorem f_pairs_out (hfu : 100000 ≤ fu) (hL : RTk 0 11940 mL nl rl rows) (hsl : size 0 = nI nl) (hR : RTk 1 190 mR nr rr rows) (hs : size 1 = nI nr) (hM : HM9 fu mt fsize filter) :
    ∀ (d G j : Nat) (stack : Nat → Int32), d + j = nl → d < G → ∃ stack', f_X9_pairs_4 fu 960 16 40 40 fsize rows size filter G (zI (fb_si (fun i => fb_si (fun i2 => ib mt (rl i) (rr i2)) nr) j)) (nI j) stack = some (zI (fb_si (fun i => fb_si (fun i2 => ib mt (rl i) (rr i2)) nr) nl), stack') := by
  have hn := hL.1
  have hnr := hR.1
  intro d
  induction d with
  | zero =>
    intro G j stack h1 h2
    obtain ⟨G', rfl⟩ : ∃ G', G = G' + 1 := ⟨G - 1, by omega⟩
    have : j = nl := by omega
    subst this
    refine ⟨stack, ?_⟩
    rw [fs_X9_pairs_4, if_pos (by decide), show (0 : Int32).toNatClampNeg = 0 from rfl, hsl, k_letS, if_pos (by rw [q_le (by omega) (by omega)]; omega)]
  | succ d ih =>
    intro G j stack h1 h2
    obtain ⟨G', rfl⟩ : ∃ G', G = G' + 1 := ⟨G - 1, by omega⟩
    have hj := hL.2.1 j (by omega)
    have hj1 : rows j = nI (rl j) := by have := hj.1; rw [show 60 * 0 + j = j by omega] at this; exact this
    obtain ⟨st1, e1⟩ := f_pairs_in (fu := fu) hR hs hM hj.2 (show j < 60 by omega) hj1 (f_X9_pairs_4 fu 960 16 40 40 fsize rows size filter G') (fb_si (fun i => fb_si (fun i2 => ib mt (rl i) (rr i2)) nr) j) nr fu 0 stack (by omega) (by omega)
    have z0 : fb_si (fun i => fb_si (fun i2 => ib mt (rl i) (rr i2)) nr) j + fb_si (fun i2 => ib mt (rl j) (rr i2)) 0 = fb_si (fun i => fb_si (fun i2 => ib mt (rl i) (rr i2)) nr) j := Int.add_zero _
    rw [z0] at e1
    have e1' : f_X9_pairs_16 fu 960 16 40 40 fsize rows size filter (f_X9_pairs_4 fu 960 16 40 40 fsize rows size filter G') fu (zI (fb_si (fun i => fb_si (fun i2 => ib mt (rl i) (rr i2)) nr) j)) (nI j) 0 stack = f_X9_pairs_4 fu 960 16 40 40 fsize rows size filter G' (zI (fb_si (fun i => fb_si (fun i2 => ib mt (rl i) (rr i2)) nr) j + fb_si (fun i2 => ib mt (rl j) (rr i2)) nr)) (nI (j + 1)) st1 := e1
    rw [fs_X9_pairs_4, if_pos (by decide), show (0 : Int32).toNatClampNeg = 0 from rfl, hsl, k_letS, if_neg (by rw [q_le (by omega) (by omega)]; omega), e1', ← fb_si_succ (fun i => fb_si (fun i2 => ib mt (rl i) (rr i2)) nr)]
    exact ih G' (j + 1) st1 (by omega) (by omega)
theorem f_pairs (hfu : 100000 ≤ fu) (h : R2 0 mL mR rows size) (hM : HM9 fu mt fsize filter) (stack : Nat → Int32) : ∃ stack', f_X9_pairs fu 960 16 40 40 fsize rows size filter stack = some (zI (fb_si (JJ mt mL mR) 106980), stack') := by
  obtain ⟨⟨nl, rl, hsl, hL⟩, ⟨nr, rr, hsr, hR⟩⟩ := h
  have hn := hL.1
  unfold f_X9_pairs
  obtain ⟨st', e⟩ := f_pairs_out (fu := fu) hfu hL hsl hR hsr hM nl fu 0 stack (by omega) (by omega)
  refine ⟨st', e.trans ?_⟩
  have e2 : fb_si (fun i => fb_si (fun i2 => ib mt (rl i) (rr i2)) nr) nl = fb_si (JJ mt mL mR) 106980 := by
    have h1 := JW mt mL mR (fun _ => 1)
    have h2 : fb_si (JJ mt mL mR) 106980 = fb_si (fun c => 1 * JJ mt mL mR c) 106980 := fb_si_cong (fun c _ => (Int.one_mul _).symm)
    rw [h2, h1, hL.sum (fun l => fb_si (fun i2 => ib mt l (rr i2)) nr)]
    refine fb_si_cong (fun l _ => congrArg (fun z => mL l * z) ?_)
    rw [hR.sum (fun r => ib mt l r)]
    exact fb_si_cong (fun r _ => rfl)
  rw [e2]
end PRS
