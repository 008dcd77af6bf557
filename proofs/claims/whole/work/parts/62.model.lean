/-! Pure facts: the reference counts pairs by their products. -/
def pp (l r : Nat) : Nat := (lv l * rf r + 891).toNat
theorem pp_lt (l r : Nat) : pp l r < 1783 := by have := pr_bd l r; unfold pp; omega
def ip (mt : Nat → Nat → Bool) (l p r : Nat) : Int := if mt l r = true ∧ pp l r = p then 1 else 0
/-- what the filter's evaluation gives, for the reference -/
def HM9 (fu : Nat) (mt : Nat → Nat → Bool) (fsize : Int32) (filter : Nat → Int32) : Prop := ∀ l r (stack : Nat → Int32), l < 11940 → r < 190 → ∃ stack', f_X9_doMatch fu 40 40 fsize filter (nI l) (nI r) stack = some (nI (bv (mt l r)), stack')
def MT (N : Nat) (st : Nat → Nat) (nu : Nat → Int) (l r : Nat) : Bool := decide (lk l = rk r) && HF N st nu (lk l) (lg l) (lv l) (rf r)
theorem kv_of {l : Nat} (hl : l < 11940) (r : Nat) : KV (lk l) (lg l) (lv l) (rf r) := by
  have a := lv_bd l
  have b := rf_bd r
  refine ⟨by omega, by unfold lk; omega, by omega, by unfold lg; omega, a.1, a.2, b.1, b.2⟩
theorem HM.of {fu N : Nat} {st : Nat → Nat} {nu : Nat → Int} {fsize : Int32} {fsteps fnums : Nat → Int32} (hfu : 100000 ≤ fu) (hF : FW N st nu) (hC : FC N st nu fsize fsteps fnums) : HM fu (MT N st nu) fsize fsteps fnums := by
  refine ⟨fun l r h => ?_, fun l r hl hr h => ?_⟩
  · unfold MT; rw [decide_eq_false h]; rfl
  · have := f_holds1 hfu hF hC (kv_of hl r)
    rw [zI_nat, zI_nat] at this
    rw [this]
    unfold MT; rw [decide_eq_true h]; rfl
theorem HM9.of {fu N : Nat} {st : Nat → Nat} {nu : Nat → Int} {fsize : Int32} {filter : Nat → Int32} (hfu : 100000 ≤ fu) (hF : FW N st nu) (hC : FM N st nu fsize filter) : HM9 fu (MT N st nu) fsize filter := by
  intro l r stack hl hr
  unfold f_X9_doMatch
  have e1 : nI l / 199 / 6 = nI (lk l) := Option.some.inj (g_leftKey hl)
  have e2 : nI r / 19 = nI (rk r) := q_div (d := 19) (by omega) (by decide) (by decide)
  have hlk : lk l < 10 := by unfold lk; omega
  have hrk : rk r < 10 := by unfold rk; omega
  rw [e1, k_letS, e2]
  unfold MT
  by_cases x : lk l = rk r
  · rw [if_pos (by rw [x]), decide_eq_true x]
    have e3 : nI l / 199 - nI l / 199 / 6 * 6 = nI (lg l) := by
      have := g_leftGroup hl
      unfold f_X8_leftGroup at this
      rw [k_letS] at this
      exact Option.some.inj this
    have e4 : nI l - nI l / 199 * 199 - 99 = zI (lv l) := by
      have := g_leftValue hl
      unfold f_X8_leftValue at this
      rw [k_letS] at this
      exact Option.some.inj this
    have e5 : nI r - nI r / 19 * 19 - 9 = zI (rf r) := by
      have := g_rightFactor hr
      unfold f_X8_rightFactor at this
      rw [k_letS] at this
      exact Option.some.inj this
    rw [e1] at e3
    rw [e2] at e5
    rw [e3, k_letS, k_letS, k_letS, e4, e5]
    obtain ⟨stack', h⟩ := f_holds9 hfu hF hC (kv_of hl r) stack
    rw [zI_nat, zI_nat] at h
    rw [h, k_b2S]
    show ∃ stack'_1, _ = some (nI (bv (HF N st nu (lk l) (lg l) (lv l) (rf r))), stack'_1)
    cases HF N st nu (lk l) (lg l) (lv l) (rf r)
    · exact ⟨stack', by rw [if_pos (by decide), if_pos nar0]; rfl⟩
    · exact ⟨stack', by rw [if_neg (by decide), if_pos nar1]; rfl⟩
  · rw [if_neg (by rw [q_eq (by omega) (by omega)]; exact x), decide_eq_false x, if_pos nar0]
    exact ⟨stack, rfl⟩
/-- the state of 'any', 'isClean' and the counts, when the pairs seen make Q -/
def CS (by_ : Int) (ic0 : Int32) (c0 : Nat → Int32) (Q : Nat → Int) (x5 ic : Int32) (cs : Nat → Int32) : Prop :=
  (∀ p, p < 1783 → cs p = c0 p + zI (by_ * Q p)) ∧ ((x5 = 0 ∧ ic = ic0 ∧ ∀ p, Q p = 0) ∨ (x5 = 1 ∧ ic = 0))
section CNT
variable {fu t nl nr : Nat} {mL mR : Nat → Int} {rl rr : Nat → Nat} {rows size filter : Nat → Int32} {fsize v2 v3 ic0 : Int32} {mt : Nat → Nat → Bool} {by_ : Int} {c0 : Nat → Int32}
theorem CS.congr {Q Q' : Nat → Int} {x5 ic : Int32} {cs : Nat → Int32} (h : CS by_ ic0 c0 Q x5 ic cs) (e : ∀ p, Q p = Q' p) : CS by_ ic0 c0 Q' x5 ic cs := by
  have : Q = Q' := funext e
  rw [← this]; exact h
theorem f_counts_in (ht : t + 1 < 16) (hR : RTk (t + 1) 190 mR nr rr rows) (hs : size (t + 1) = nI nr) (hM : HM9 fu mt fsize filter) {l : Nat} (hl : l < 11940) (x6 : Int32) (K : Int32 → Int32 → Int32 → (Nat → Int32) → (Nat → Int32) → Option (Int32 × Int32 × (Nat → Int32) × (Nat → Int32))) (Q : Nat → Int) :
    ∀ (d G j : Nat) (x5 ic : Int32) (stack cs : Nat → Int32), d + j = nr → d < G → CS by_ ic0 c0 (fun p => Q p + fb_si (fun i => ip mt l p (rr i)) j) x5 ic cs →
    ∃ (x5' ic' : Int32) (stack' cs' : Nat → Int32), f_X9_counts_67 fu 960 16 40 40 1783 fsize rows size filter (nI t) v2 v3 (zI by_) K G x5 x6 (nI l) (nI j) ic stack cs = K x5' (x6 + 1) ic' stack' cs' ∧ CS by_ ic0 c0 (fun p => Q p + fb_si (fun i => ip mt l p (rr i)) nr) x5' ic' cs' := by
  have hn := hR.1
  intro d
  induction d with
  | zero =>
    intro G j x5 ic stack cs h1 h2 h3
    obtain ⟨G', rfl⟩ : ∃ G', G = G' + 1 := ⟨G - 1, by omega⟩
    have : j = nr := by omega
    subst this
    refine ⟨x5, ic, stack, cs, ?_, h3⟩
    rw [fs_X9_counts_67, q_1, q_add, k_letS, if_pos (nI_in ht (by decide)), q_cl (by omega), hs, k_letS, if_pos (by rw [q_le (by omega) (by omega)]; omega)]
    unfold f_X9_counts_156
    rw [k_letS]; rfl
  | succ d ih =>
    intro G j x5 ic stack cs h1 h2 h3
    obtain ⟨G', rfl⟩ : ∃ G', G = G' + 1 := ⟨G - 1, by omega⟩
    have hj := hR.2.1 j (by omega)
    obtain ⟨stack1, hd⟩ := hM l (rr j) stack hl hj.2
    rw [fs_X9_counts_67, q_1, q_add, k_letS, if_pos (nI_in ht (by decide)), q_cl (by omega), hs, k_letS, if_neg (by rw [q_le (by omega) (by omega)]; omega), q_60, k_letS, if_pos (nI_in (by omega) (by decide)), q_cl (by omega), hj.1, k_letS, hd, k_b2S]
    cases hb : mt l (rr j) with
    | false =>
      rw [if_pos (by decide)]
      unfold f_X9_counts_150
      rw [k_letS, q_1, q_add]
      refine ih G' (j + 1) x5 ic stack1 cs (by omega) (by omega) (h3.congr (fun p => ?_))
      rw [fb_si_succ, show ip mt l p (rr j) = 0 from if_neg (fun q => by rw [hb] at q; cases q.1), Int.add_zero]
    | true =>
      have e4 : nI l - nI l / 199 * 199 - 99 = zI (lv l) := by
        have := g_leftValue hl
        unfold f_X8_leftValue at this
        rw [k_letS] at this
        exact Option.some.inj this
      have e5 : nI (rr j) - nI (rr j) / 19 * 19 - 9 = zI (rf (rr j)) := by
        have := g_rightFactor hj.2
        unfold f_X8_rightFactor at this
        rw [k_letS] at this
        exact Option.some.inj this
      have e6 : zI (lv l) * zI (rf (rr j)) + 891 = nI (pp l (rr j)) := by
        have := pr_bd l (rr j)
        rw [zI_mul, ← zI_nat]
        show zI _ + zI 891 = _
        rw [zI_add]; congr 1; unfold pp; omega
      have hp := pp_lt l (rr j)
      rw [if_neg (by decide), k_letS, k_letS, e4, e5, e6, k_letS, if_pos (nI_in hp (by decide)), q_cl (by omega), k_letS, if_pos (q_in hp (by decide))]
      unfold f_X9_counts_150
      rw [k_letS, q_1, q_add]
      refine ih G' (j + 1) (nI 1) 0 stack1 _ (by omega) (by omega) ⟨fun p hpp => ?_, Or.inr ⟨rfl, rfl⟩⟩
      have h4 : cs p = c0 p + zI (by_ * (Q p + fb_si (fun i => ip mt l p (rr i)) j)) := h3.1 p hpp
      show upd cs (pp l (rr j)) (cs (pp l (rr j)) + zI by_) p = c0 p + zI (by_ * (Q p + fb_si (fun i => ip mt l p (rr i)) (j + 1)))
      rw [q_upd, fb_si_succ]
      by_cases x : p = pp l (rr j)
      · rw [if_pos x, ← x, h4, show ip mt l p (rr j) = 1 from if_pos ⟨hb, x.symm⟩, Int32.add_assoc, zI_add]
        congr 2
        rw [← Int.add_assoc, Int.mul_add by_ _ 1, Int.mul_one]
      · rw [if_neg x, h4, show ip mt l p (rr j) = 0 from if_neg (fun q => x q.2.symm), Int.add_zero]
theorem f_counts_out (hfu : 100000 ≤ fu) (ht : t + 1 < 16) (hL : RTk t 11940 mL nl rl rows) (hsl : size t = nI nl) (hR : RTk (t + 1) 190 mR nr rr rows) (hs : size (t + 1) = nI nr) (hM : HM9 fu mt fsize filter) (sel : Nat → Bool)
    (hsel : ∀ l, l < 11940 → ∀ (a b : Option (Int32 × Int32 × (Nat → Int32) × (Nat → Int32))), (if nI (lg l) = v3 then (if v2 < 0 then a else (if nI (lk l) = v2 then a else b)) else b) = if sel l = true then a else b) :
    ∀ (d G j : Nat) (x5 ic : Int32) (stack cs : Nat → Int32), d + j = nl → d < G → CS by_ ic0 c0 (fun p => fb_si (fun i => if sel (rl i) = true then fb_si (fun i2 => ip mt (rl i) p (rr i2)) nr else 0) j) x5 ic cs →
    ∃ (x5' ic' : Int32) (stack' cs' : Nat → Int32), f_X9_counts_6 fu 960 16 40 40 1783 fsize rows size filter (nI t) v2 v3 (zI by_) G x5 (nI j) ic stack cs = some (x5', ic', stack', cs') ∧ CS by_ ic0 c0 (fun p => fb_si (fun i => if sel (rl i) = true then fb_si (fun i2 => ip mt (rl i) p (rr i2)) nr else 0) nl) x5' ic' cs' := by
  have hn := hL.1
  have hnr := hR.1
  intro d
  induction d with
  | zero =>
    intro G j x5 ic stack cs h1 h2 h3
    obtain ⟨G', rfl⟩ : ∃ G', G = G' + 1 := ⟨G - 1, by omega⟩
    have : j = nl := by omega
    subst this
    refine ⟨x5, ic, stack, cs, ?_, h3⟩
    have hx : vp_nar .boolean x5 = x5 := by
      rcases h3.2 with ⟨e, _⟩ | ⟨e, _⟩
      · rw [e]; exact nar0
      · rw [e]; exact nar1
    rw [fs_X9_counts_6, if_pos (nI_in (by omega) (by decide)), q_cl (by omega), hsl, k_letS, if_pos (by rw [q_le (by omega) (by omega)]; omega), if_pos hx]
  | succ d ih =>
    intro G j x5 ic stack cs h1 h2 h3
    obtain ⟨G', rfl⟩ : ∃ G', G = G' + 1 := ⟨G - 1, by omega⟩
    have hj := hL.2.1 j (by omega)
    have e1 : nI (rl j) / 199 / 6 = nI (lk (rl j)) := Option.some.inj (g_leftKey hj.2)
    have e3 : nI (rl j) / 199 - nI (rl j) / 199 / 6 * 6 = nI (lg (rl j)) := by
      have := g_leftGroup hj.2
      unfold f_X8_leftGroup at this
      rw [k_letS] at this
      exact Option.some.inj this
    rw [fs_X9_counts_6, if_pos (nI_in (by omega) (by decide)), q_cl (by omega), hsl, k_letS, if_neg (by rw [q_le (by omega) (by omega)]; omega), q_60, k_letS, if_pos (nI_in (by omega) (by decide)), q_cl (by omega), hj.1, k_letS, e3, e1, k_letS, hsel (rl j) hj.2]
    cases hb : sel (rl j) with
    | false =>
      rw [if_neg (by decide)]
      unfold f_X9_counts_156
      rw [k_letS, q_1, q_add]
      refine ih G' (j + 1) x5 ic stack cs (by omega) (by omega) (h3.congr (fun p => ?_))
      rw [fb_si_succ, hb, if_neg (by decide), Int.add_zero]
    | true =>
      rw [if_pos rfl]
      unfold f_X9_counts_64
      obtain ⟨x5', ic', stack', cs', f1, f2⟩ := f_counts_in (fu := fu) (v2 := v2) (v3 := v3) ht hR hs hM hj.2 (nI j) (f_X9_counts_6 fu 960 16 40 40 1783 fsize rows size filter (nI t) v2 v3 (zI by_) G') (fun p => fb_si (fun i => if sel (rl i) = true then fb_si (fun i2 => ip mt (rl i) p (rr i2)) nr else 0) j) nr fu 0 x5 ic stack cs (by omega) (by omega) (h3.congr (fun p => (Int.add_zero _).symm))
      have f1' : f_X9_counts_67 fu 960 16 40 40 1783 fsize rows size filter (nI t) v2 v3 (zI by_) (f_X9_counts_6 fu 960 16 40 40 1783 fsize rows size filter (nI t) v2 v3 (zI by_) G') fu x5 (nI j) (nI (rl j)) 0 ic stack cs = _ := f1
      rw [f1', q_1, q_add]
      refine ih G' (j + 1) x5' ic' stack' cs' (by omega) (by omega) (f2.congr (fun p => ?_))
      rw [fb_si_succ, hb, if_pos rfl]
/-- pairs of selected left rows, by product -/
def CW (mt : Nat → Nat → Bool) (mL mR : Nat → Int) (sel : Nat → Bool) (p : Nat) : Int := fb_si (fun l => mL l * (if sel l = true then fb_si (fun r => mR r * ip mt l p r) 190 else 0)) 11940
theorem f_counts (hfu : 100000 ≤ fu) (ht : t + 1 < 16) (h2 : R2 t mL mR rows size) (hM : HM9 fu mt fsize filter) (sel : Nat → Bool)
    (hsel : ∀ l, l < 11940 → ∀ (a b : Option (Int32 × Int32 × (Nat → Int32) × (Nat → Int32))), (if nI (lg l) = v3 then (if v2 < 0 then a else (if nI (lk l) = v2 then a else b)) else b) = if sel l = true then a else b) (ic : Int32) (stack cs : Nat → Int32) :
    ∃ (x5' ic' : Int32) (stack' cs' : Nat → Int32), f_X9_counts fu 960 16 40 40 1783 fsize rows size filter (nI t) v2 v3 (zI by_) ic stack cs = some (x5', ic', stack', cs') ∧ CS by_ ic cs (CW mt mL mR sel) x5' ic' cs' := by
  obtain ⟨⟨nl, rl, hsl, hL⟩, ⟨nr, rr, hsr, hR⟩⟩ := h2
  have hn := hL.1
  unfold f_X9_counts
  obtain ⟨x5', ic', stack', cs', f1, f2⟩ := f_counts_out (fu := fu) (by_ := by_) (ic0 := ic) (c0 := cs) hfu ht hL hsl hR hsr hM sel hsel nl fu 0 0 ic stack cs (by omega) (by omega) ⟨fun p _ => by
    show cs p = cs p + zI (by_ * 0)
    rw [Int.mul_zero, zI_0]; exact (Int32.add_zero _).symm, Or.inl ⟨rfl, rfl, fun p => rfl⟩⟩
  refine ⟨x5', ic', stack', cs', f1, f2.congr (fun p => ?_)⟩
  rw [hL.sum (fun l => if sel l = true then fb_si (fun i2 => ip mt l p (rr i2)) nr else 0)]
  unfold CW
  refine fb_si_cong (fun l _ => ?_)
  rw [hR.sum (fun r => ip mt l p r)]
theorem f_clears_loop : ∀ (d G i : Nat) (cs : Nat → Int32), d + i = 1783 → d < G → (∀ j, j < i → cs j = 0) → ∃ cs', f_X9_clears_2 fu 1783 G (nI i) 0 cs = some (1, cs') ∧ ∀ j, j < 1783 → cs' j = 0 := by
  intro d
  induction d with
  | zero =>
    intro G i cs h1 h2 h3
    obtain ⟨G', rfl⟩ : ∃ G', G = G' + 1 := ⟨G - 1, by omega⟩
    have : i = 1783 := by omega
    subst this
    refine ⟨cs, ?_, h3⟩
    rw [fs_X9_clears_2, if_pos (show (1783 : Int32) ≤ nI 1783 by decide)]; rfl
  | succ d ih =>
    intro G i cs h1 h2 h3
    obtain ⟨G', rfl⟩ : ∃ G', G = G' + 1 := ⟨G - 1, by omega⟩
    rw [fs_X9_clears_2, if_neg (by rw [show (1783 : Int32) = nI 1783 from rfl, q_le (by omega) (by omega)]; omega), if_pos rfl, if_pos (nI_in (by omega) (by decide)), q_cl (by omega), q_1, q_add, k_letS]
    refine ih G' (i + 1) _ (by omega) (by omega) (fun j hj => ?_)
    rw [q_upd]
    by_cases x : j = i
    · rw [if_pos x]
    · rw [if_neg x]; exact h3 j (by omega)
/-- counts are 0 where the mark says so -/
def CL (ic : Int32) (cs : Nat → Int32) : Prop := ic = 0 ∨ (ic = 1 ∧ ∀ j, j < 1783 → cs j = 0)
theorem f_clears (hfu : 100000 ≤ fu) {ic : Int32} {cs : Nat → Int32} (h : CL ic cs) : ∃ cs', f_X9_clears fu 1783 ic cs = some (1, cs') ∧ ∀ j, j < 1783 → cs' j = 0 := by
  unfold f_X9_clears
  rcases h with e | ⟨e, h⟩
  · rw [e]; exact f_clears_loop 1783 fu 0 cs (by omega) (by omega) (fun j hj => by omega)
  · obtain ⟨G', rfl⟩ : ∃ G', fu = G' + 1 := ⟨fu - 1, by omega⟩
    refine ⟨cs, ?_, h⟩
    rw [fs_X9_clears_2, if_neg (by decide), e, if_neg (by decide)]; rfl
theorem CS.cl {Q : Nat → Int} {x5 ic : Int32} {cs : Nat → Int32} (h : CS by_ ic0 c0 Q x5 ic cs) (h0 : CL ic0 c0) : CL ic cs := by
  rcases h.2 with ⟨_, e, z⟩ | ⟨_, e⟩
  · rcases h0 with a | ⟨a, b⟩
    · exact Or.inl (by rw [e, a])
    · refine Or.inr ⟨by rw [e, a], fun j hj => ?_⟩
      rw [h.1 j hj, b j hj, z j, Int.mul_zero]; rfl
  · exact Or.inl e
end CNT
