theorem ct_si (p : Nat → Bool) : ∀ n, (fb_ct p n : Int) = fb_si (fun c => if p c = true then 1 else 0) n
  | 0 => rfl
  | n + 1 => by
    rw [fb_ct_succ, fb_si_succ, ← ct_si p n]
    cases p n <;> simp
theorem si_cnst1 : ∀ n : Nat, fb_si (fun _ => 1) n = n
  | 0 => rfl
  | n + 1 => by rw [fb_si_succ, si_cnst1 n]; omega
theorem CRk.rk {lim B n : Nat} {m : Nat → Int} {k : Nat → Nat} {codes counts : Nat → Int32} (h : CRk lim B m n k codes counts) {i T : Nat} (hi : i ≤ n) (h1 : ∀ j, j < i → k j < T) (h2 : ∀ j, i ≤ j → j < n → T ≤ k j) : fb_ct (NZ m) T = i := by
  have e : (fb_ct (NZ m) T : Int) = i := by
    rw [ct_si, si_keys T i k (fun c => if NZ m c = true then 1 else 0) h1 (fun a b x y => h.2.2.1 a b x (by omega)) (fun c hc z => by
      have hz : m c ≠ 0 := by
        intro q
        apply z
        exact if_neg (fun w => (of_decide_eq_true w) q)
      obtain ⟨j, hj, ej⟩ := h.2.2.2 c hz
      refine ⟨j, ?_, ej⟩
      rcases Nat.lt_or_ge j i with x | x
      · exact x
      · have := h2 j x hj; omega)]
    rw [← si_cnst1 i]
    refine fb_si_cong (fun j hj => if_pos (decide_eq_true (h.2.1 j (by omega)).2.2.1))
  omega
theorem CRk.cnt {lim B n : Nat} {m : Nat → Int} {k : Nat → Nat} {codes counts : Nat → Int32} (h : CRk lim B m n k codes counts) : fb_ct (NZ m) B = n := h.rk (Nat.le_refl _) (fun j hj => (h.2.1 j hj).2.2.2) (fun j a b => by omega)
theorem CRk.rank {lim B n : Nat} {m : Nat → Int} {k : Nat → Nat} {codes counts : Nat → Int32} (h : CRk lim B m n k codes counts) {i : Nat} (hi : i < n) : fb_ct (NZ m) (k i) = i := h.rk (by omega) (fun j hj => h.2.2.1 j i hj hi) (fun j a b => by
  rcases Nat.lt_or_ge i j with x | x
  · have := h.2.2.1 i j x b; omega
  · have : j = i := by omega
    rw [this]; omega)
section GO2
variable {fu : Nat} {rows size filter : Nat → Int32} {fsize v1 v2 : Int32} {mt : Nat → Nat → Bool} {mL mR oL oR : Nat → Int}
theorem R2.tb {t : Nat} (h : R2 t mL mR rows size) : TB 11940 mL ∧ TB 190 mR := by
  obtain ⟨⟨n, r, _, h1⟩, ⟨n2, r2, _, h2⟩⟩ := h
  exact ⟨h1.tb.1, h2.tb.1⟩
theorem DD_bd (h0 : R2 0 mL mR rows size) (h4 : R2 4 oL oR rows size) (ch : Bool) (c : Nat) : -1000000 ≤ DD ch mt mL mR oL oR c ∧ DD ch mt mL mR oL oR c ≤ 1000000 := by
  have a := JJ_bd h0.tb.1 h0.tb.2 mt c
  have b := JJ_bd h4.tb.1 h4.tb.2 mt c
  unfold DD
  split <;> omega
theorem f_goes (hfu : 100000 ≤ fu) (h0 : R2 0 mL mR rows size) (h4 : R2 4 oL oR rows size) (hM : HM9 fu mt fsize filter) {ch : Bool} (hch : v2 = nI (bv ch)) (fk fg fp fm ic : Int32) (stack cs : Nat → Int32) (hcl : CL ic cs) :
    ∃ (res fk' fg' fp' fm' ic' : Int32) (stack' cs' : Nat → Int32), f_X9_goesTo fu 960 16 40 40 1783 fsize rows size filter v1 v2 fk fg fp fm ic stack cs = some (res, fk', fg', fp', fm', ic', stack', cs') ∧ CL ic' cs' ∧
      ((∃ c, c < 106980 ∧ HIT v1 (DD ch mt mL mR oL oR) c ∧ res = v1 ∧ fk' = nI (c / 1783 / 6) ∧ fg' = nI (c / 1783 % 6) ∧ fp' = zI (jp c) ∧ fm' = zI (DD ch mt mL mR oL oR c)) ∨ ((∀ c, c < 106980 → ¬ HIT v1 (DD ch mt mL mR oL oR) c) ∧ res = nI (fb_ct (NZ (DD ch mt mL mR oL oR)) 106980))) := by
  unfold f_X9_goesTo
  obtain ⟨res, fk', fg', fp', fm', ic', st', cs', a1, a2, a3⟩ := f_goes_out (v1 := v1) hfu h0 h4 hM hch (DD_bd h0 h4 ch) 60 fu 0 fk fg fp fm ic stack cs (by omega) (by omega) hcl
  refine ⟨res, fk', fg', fp', fm', ic', st', cs', a1, a2, ?_⟩
  rcases a3 with a3 | ⟨a3, a4⟩
  · exact Or.inl a3
  · exact Or.inr ⟨fun c hc => a3 c (by omega) hc, a4⟩
theorem f_rowsOf (hfu : 100000 ≤ fu) (h0 : R2 0 mL mR rows size) (h4 : R2 4 oL oR rows size) (hM : HM9 fu mt fsize filter) {ch : Bool} (hch : v2 = nI (bv ch)) (fk fg fp fm ic : Int32) (stack cs : Nat → Int32) (hcl : CL ic cs) :
    ∃ (fk' fg' fp' fm' ic' : Int32) (stack' cs' : Nat → Int32), f_X9_rowsOf fu 960 16 40 40 1783 fsize rows size filter v2 fk fg fp fm ic stack cs = some (nI (fb_ct (NZ (DD ch mt mL mR oL oR)) 106980), fk', fg', fp', fm', ic', stack', cs') ∧ CL ic' cs' := by
  unfold f_X9_rowsOf
  obtain ⟨res, fk', fg', fp', fm', ic', st', cs', a1, a2, a3⟩ := f_goes (v1 := -1) hfu h0 h4 hM hch fk fg fp fm ic stack cs hcl
  rw [a1]
  rcases a3 with ⟨c, hc, hh, _⟩ | ⟨_, a4⟩
  · exfalso
    have h1 := hh.2
    have h2 := fb_ct_le (NZ (DD ch mt mL mR oL oR)) c
    have h3 : (-1 : Int32).toInt = ((fb_ct (NZ (DD ch mt mL mR oL oR)) c : Nat) : Int) := by rw [h1, nI_toInt (by omega)]
    have h4 : (-1 : Int32).toInt = -1 := by decide
    omega
  · exact ⟨fk', fg', fp', fm', ic', st', cs', by rw [← a4]; rfl, a2⟩
/-- a column of a row -/
def colv (D : Nat → Int) (col c : Nat) : Int32 := if col = 0 then nI (c / 1783 / 6) else if col = 1 then nI (c / 1783 % 6) else if col = 2 then zI (jp c) else zI (D c)
theorem f_columnOf (hfu : 100000 ≤ fu) (h0 : R2 0 mL mR rows size) (h4 : R2 4 oL oR rows size) (hM : HM9 fu mt fsize filter) {ch : Bool} (hch : v2 = nI (bv ch)) (a b thr fk fg fp fm ic : Int32) (stack cs : Nat → Int32) (hcl : CL ic cs) {n : Nat} (hn : fb_ct (NZ (DD ch mt mL mR oL oR)) 106980 = n) :
    ∃ (res thr' fk' fg' fp' fm' ic' : Int32) (stack' cs' : Nat → Int32), f_X9_columnOf fu 960 16 40 40 1783 fsize rows size filter a b v2 thr fk fg fp fm ic stack cs = some (res, thr', fk', fg', fp', fm', ic', stack', cs') ∧ CL ic' cs' ∧
      ((thr' = 1 ∧ ¬ ((∃ i, i < n ∧ a = nI i) ∧ ∃ col, col < 4 ∧ b = nI col)) ∨ (thr' = 0 ∧ ∃ i col c, i < n ∧ a = nI i ∧ col < 4 ∧ b = nI col ∧ c < 106980 ∧ HIT (nI i) (DD ch mt mL mR oL oR) c ∧ res = colv (DD ch mt mL mR oL oR) col c)) := by
  have hn2 := fb_ct_le (NZ (DD ch mt mL mR oL oR)) 106980
  unfold f_X9_columnOf f_X9_columnOf_22 f_X9_fails
  by_cases ha : a < 0
  · rw [if_pos ha, k_b2S]
    refine ⟨_, _, _, _, _, _, _, _, _, rfl, hcl, Or.inl ⟨rfl, fun q => ?_⟩⟩
    obtain ⟨⟨i, hi, ei⟩, _⟩ := q
    rw [ei] at ha
    exact nI_pos (by omega) ha
  · rw [if_neg ha, f_between, k_b1S]
    have hbw : bw b 0 3 = true ↔ ∃ col, col < 4 ∧ b = nI col := by
      constructor
      · intro q
        have q2 := bw_int (lo := 0) (hi := 3) (by decide) (by decide) (by decide) (by decide) q
        refine ⟨b.toInt.toNat, by omega, ?_⟩
        rw [← zI_nat, show ((b.toInt.toNat : Nat) : Int) = b.toInt by omega, zI_self]
      · rintro ⟨col, hc, e⟩
        rw [e]
        exact decide_eq_true ⟨nI_pos' (by omega), nI_le (b := 3) (by omega) (by decide)⟩
    cases hb : bw b 0 3 with
    | false =>
      rw [if_pos (by decide), k_b2S]
      refine ⟨_, _, _, _, _, _, _, _, _, rfl, hcl, Or.inl ⟨rfl, fun q => ?_⟩⟩
      rw [hbw.mpr q.2] at hb; cases hb
    | true =>
      obtain ⟨col, hcol, ecol⟩ := hbw.mp hb
      rw [if_neg (by decide)]
      obtain ⟨fk1, fg1, fp1, fm1, ic1, st1, cs1, r1, r2⟩ := f_rowsOf hfu h0 h4 hM hch fk fg fp fm ic stack cs hcl
      rw [r1]
      show ∃ (res thr' fk' fg' fp' fm' ic' : Int32) (stack' cs' : Nat → Int32), (if a < nI (fb_ct (NZ (DD ch mt mL mR oL oR)) 106980) then _ else _) = _ ∧ _
      rw [hn]
      by_cases hx : a < nI n
      · rw [if_pos hx]
        obtain ⟨i, hi, ei⟩ : ∃ i, i < n ∧ a = nI i := by
          rcases pk_ix a (n := n) (by omega) with q | q | q
          · exact absurd q ha
          · exact absurd hx (nle_lt.mpr q)
          · exact q
        obtain ⟨res, fk', fg', fp', fm', ic', st', cs', a1, a2, a3⟩ := f_goes (v1 := a) hfu h0 h4 hM hch fk1 fg1 fp1 fm1 ic1 st1 cs1 r2
        rw [a1]
        rcases a3 with ⟨c, hc, hh, e1, e2, e3, e4, e5⟩ | ⟨no, _⟩
        · have fin : ∀ (rr : Int32), rr = colv (DD ch mt mL mR oL oR) col c → ∃ (res thr' fk'_1 fg'_1 fp'_1 fm'_1 ic'_1 : Int32) (stack' cs'_1 : Nat → Int32), some (rr, (0 : Int32), fk', fg', fp', fm', ic', st', cs') = some (res, thr', fk'_1, fg'_1, fp'_1, fm'_1, ic'_1, stack', cs'_1) ∧ CL ic'_1 cs'_1 ∧ ((thr' = 1 ∧ ¬ ((∃ i, i < n ∧ a = nI i) ∧ ∃ col, col < 4 ∧ b = nI col)) ∨ (thr' = 0 ∧ ∃ i col c, i < n ∧ a = nI i ∧ col < 4 ∧ b = nI col ∧ c < 106980 ∧ HIT (nI i) (DD ch mt mL mR oL oR) c ∧ res = colv (DD ch mt mL mR oL oR) col c)) := fun rr hrr =>
            ⟨rr, 0, fk', fg', fp', fm', ic', st', cs', rfl, a2, Or.inr ⟨rfl, i, col, c, hi, ei, hcol, ecol, hc, by rw [← ei]; exact hh, hrr⟩⟩
          show ∃ (res thr' fk'_1 fg'_1 fp'_1 fm'_1 ic'_1 : Int32) (stack' cs'_1 : Nat → Int32), (if b = 0 then some (fk', (0 : Int32), fk', fg', fp', fm', ic', st', cs') else if b = 1 then some (fg', (0 : Int32), fk', fg', fp', fm', ic', st', cs') else if b = 2 then some (fp', (0 : Int32), fk', fg', fp', fm', ic', st', cs') else some (fm', (0 : Int32), fk', fg', fp', fm', ic', st', cs')) = some (res, thr', fk'_1, fg'_1, fp'_1, fm'_1, ic'_1, stack', cs'_1) ∧ CL ic'_1 cs'_1 ∧ _
          rcases (show col = 0 ∨ col = 1 ∨ col = 2 ∨ col = 3 by omega) with h | h | h | h
          · rw [if_pos (show b = 0 by rw [ecol, h]; rfl)]
            exact fin fk' (by rw [e2, h]; rfl)
          · rw [if_neg (show ¬ b = 0 by rw [ecol, h]; decide), if_pos (show b = 1 by rw [ecol, h]; rfl)]
            exact fin fg' (by rw [e3, h]; rfl)
          · rw [if_neg (show ¬ b = 0 by rw [ecol, h]; decide), if_neg (show ¬ b = 1 by rw [ecol, h]; decide), if_pos (show b = 2 by rw [ecol, h]; rfl)]
            exact fin fp' (by rw [e4, h]; rfl)
          · rw [if_neg (show ¬ b = 0 by rw [ecol, h]; decide), if_neg (show ¬ b = 1 by rw [ecol, h]; decide), if_neg (show ¬ b = 2 by rw [ecol, h]; decide)]
            exact fin fm' (by rw [e5, h]; rfl)
        · exfalso
          obtain ⟨c, hc, h1, h2⟩ := fb_ct_kth (p := NZ (DD ch mt mL mR oL oR)) (k := i) (n := 106980) (by omega)
          exact no c hc ⟨of_decide_eq_true h1, by rw [h2, ei]⟩
      · rw [if_neg hx, k_b2S]
        refine ⟨_, _, _, _, _, _, _, _, _, rfl, r2, Or.inl ⟨rfl, fun q => ?_⟩⟩
        obtain ⟨⟨i, hi, ei⟩, _⟩ := q
        exact hx (by rw [ei]; exact nI_lt hi (by omega))
end GO2
theorem f_reqI {n : Nat} (hn : n < 1000000) (a : Int32) : (f_X8_requireIndex a (nI n) = some 0 ∧ ∃ i, i < n ∧ a = nI i) ∨ (f_X8_requireIndex a (nI n) = some 3 ∧ ¬ ∃ i, i < n ∧ a = nI i) := by
  unfold f_X8_requireIndex
  rcases pk_ix a (n := n) (by omega) with q | q | ⟨i, hi, ei⟩
  · refine Or.inr ⟨by rw [if_pos q], ?_⟩
    rintro ⟨i, hi, ei⟩
    rw [ei] at q; exact nI_pos (by omega) q
  · refine Or.inr ⟨?_, ?_⟩
    · rw [if_neg (nle_lt.mpr (by rw [fa_le] at q ⊢; rw [nI_toInt (by omega)] at q; show (0 : Int32).toInt ≤ a.toInt; have : (0 : Int32).toInt = 0 := rfl; omega)), if_neg (nle_lt.mpr q)]
    · rintro ⟨i, hi, ei⟩
      rw [ei] at q; exact nI_ge hi (by omega) q
  · exact Or.inl ⟨by rw [ei, if_neg (nI_pos (by omega)), if_pos (nI_lt hi (by omega))], i, hi, ei⟩
theorem f_joinColumn {lim n : Nat} {D : Nat → Int} {k : Nat → Nat} {codes counts : Nat → Int32} (hl : lim < 100000) (h : CRk lim 106980 D n k codes counts) {i col : Nat} (hi : i < n) (hc : col < 4) : f_X8_joinColumn lim lim (nI n) codes counts (nI i) (nI col) = some (colv D col (k i)) := by
  have hn := h.1
  have hj := h.2.1 i hi
  unfold f_X8_joinColumn colv
  rw [f_codeAt (by omega) hn (by omega), k_b1S, if_pos hi, hj.1]
  rcases (show col = 0 ∨ col = 1 ∨ col = 2 ∨ col = 3 by omega) with h | h | h | h
  · rw [if_pos (show nI col = 0 by rw [h]; rfl), if_pos h]
    unfold f_X8_joinKey
    rw [show (1783 : Int32) = nI 1783 from rfl, show (6 : Int32) = nI 6 from rfl, q_div (by omega) (by decide) (by decide), q_div (by omega) (by decide) (by decide), k_b1S]
  · rw [if_neg (show ¬ nI col = 0 by rw [h]; decide), if_pos (show nI col = 1 by rw [h]; rfl), g_joinGroup hj.2.2.2, k_b1S, if_neg (by omega), if_pos h]; rfl
  · rw [if_neg (show ¬ nI col = 0 by rw [h]; decide), if_neg (show ¬ nI col = 1 by rw [h]; decide), if_pos (show nI col = 2 by rw [h]; rfl), g_joinProduct hj.2.2.2, k_b1S, if_neg (by omega), if_neg (by omega), if_pos h]
  · rw [if_neg (show ¬ nI col = 0 by rw [h]; decide), if_neg (show ¬ nI col = 1 by rw [h]; decide), if_neg (show ¬ nI col = 2 by rw [h]; decide), f_countAt (by omega) hn (by omega), k_b1S, if_pos hi, hj.2.1, if_neg (by omega), if_neg (by omega), if_neg (by omega)]
