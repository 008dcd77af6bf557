/-! The reference's reader does what psA does. -/
def psP : List Nat → (Nat → Int32) → Prop
  | [], _ => True
  | x :: r, s => s r.length = nI (4 - x) ∧ psP r s
theorem psP_upd : ∀ (r : List Nat) (s : Nat → Int32) (j : Nat) (v : Int32), r.length ≤ j → psP r s → psP r (upd s j v)
  | [], _, _, _, _, _ => trivial
  | x :: r, s, j, v, h, hs => by
    have h' : r.length + 1 ≤ j := h
    refine ⟨?_, psP_upd r s j v (by omega) hs.2⟩
    rw [q_upd, if_neg (by omega)]; exact hs.1
theorem FM_push {O : F3} {s : Int32} {made : Nat → Int32} (h : FM O.1 O.2.1 O.2.2 s made) (t : Nat) (z : Int) : FM (pO O t z).1 (pO O t z).2.1 (pO O t z).2.2 (nI (O.1 + 1)) (upd made O.1 (nI (enc t z))) := by
  refine ⟨rfl, fun i hi => ?_⟩
  have hi' : i < O.1 + 1 := hi
  rw [q_upd]
  by_cases e : i = O.1
  · rw [if_pos e, e, pO_sl, pO_nl]
  · rw [if_neg e, pO_st (by omega), pO_nu (by omega)]; exact h.2 i (by omega)
theorem enc_4 {x : Nat} (h1 : 1 ≤ x) (h3 : x ≤ 3) (z : Int) : enc x z = 4 - x := by
  unfold enc
  rcases (show x = 1 ∨ x = 2 ∨ x = 3 by omega) with e | e | e <;> subst e <;> rfl
theorem enc_v {a r : Nat} (ha : a < 5) (hr : r < 3) {z : Int} (h1 : -999 ≤ z) (h2 : z ≤ 999) : (10 : Int32) + 6000 * nI a + 2000 * nI r + zI z + 999 = nI (enc (4 + a * 3 + r) z) := by
  rw [enc_cmp (by omega) (by omega) h1 h2, ← zI_nat, ← zI_nat, ← zI_nat]
  show zI 10 + zI 6000 * zI a + zI 2000 * zI r + zI z + zI 999 = _
  rw [zI_mul, zI_mul, zI_add, zI_add, zI_add, zI_add]
  refine congrArg zI ?_
  have e1 : (4 + a * 3 + r - 4) / 3 = a := by omega
  have e2 : (4 + a * 3 + r - 4) % 3 = r := by omega
  rw [e1, e2]; omega
def psU (tn : Nat) (tx : Nat → Nat) (p : Nat) : Int32 := if p < tn then nI (tx p) else -1
theorem psU_in {tn : Nat} {tx : Nat → Nat} {p : Nat} (h : p < tn) : psU tn tx p = nI (psC tn tx p) := by
  unfold psU psC
  rw [if_pos h, if_pos h]
theorem t_nm9 : ∀ c, c < 127 → (if nI c = 107 then some 0 else if nI c = 103 then some 1 else if nI c = 118 then some 2 else if nI c = 102 then some 3 else if nI c = 112 then some 4 else some (-1) : Option Int32) = some (if psN c < 5 then nI (psN c) else -1) := by decide +kernel
section PSM
variable {fu tn : Nat} {tx : Nat → Nat} {text : Nat → Int32}
theorem psU_eq (hT : psT tn tx text) (p : Nat) {k : Nat} (h0 : 0 < k) (hk : k < 127) : (psU tn tx p = nI k) ↔ psC tn tx p = k := by
  unfold psU psC
  by_cases h : p < tn
  · have := hT.2.1 p h
    rw [if_pos h, if_pos h, q_eq (by omega) (by omega)]
  · rw [if_neg h, if_neg h]
    constructor
    · intro q
      have := nI_pos (n := k) (by omega)
      rw [← q] at this
      exact absurd (by decide) this
    · intro q; omega
theorem r_nx (hT : psT tn tx text) {p : Nat} (hp : p < 1000) : f_X9_next 40 (nI tn) (nI p) text = some (psU tn tx p) := by
  have h40 := hT.1
  unfold f_X9_next psU
  by_cases h : p < tn
  · rw [if_neg (show ¬ nI tn ≤ nI p by rw [q_le (by omega) (by omega)]; omega), if_pos (nI_in (c := p) (N := 40) (by omega) (by decide)), q_cl (by omega), hT.2.2 p h, k_letS, if_pos h]
  · rw [if_pos (show nI tn ≤ nI p by rw [q_le (by omega) (by omega)]; omega), if_neg h]
theorem psU_bw (hT : psT tn tx text) (p : Nat) : bw (psU tn tx p) 48 57 = psD (psC tn tx p) := by
  unfold bw psD psU psC
  by_cases h : p < tn
  · have := hT.2.1 p h
    rw [if_pos h, if_pos h]
    refine decide_eq_decide.mpr ?_
    rw [show (48 : Int32) = nI 48 from rfl, show (57 : Int32) = nI 57 from rfl, q_le (by omega) (by omega), q_le (by omega) (by omega)]
  · rw [if_neg h, if_neg h]; decide
theorem r_dg (hT : psT tn tx text) {p : Nat} (hp : p < 1000) : f_X9_isDigit 40 (nI tn) (nI p) text = some (nI (bv (psD (psC tn tx p)))) := by
  unfold f_X9_isDigit
  rw [r_nx hT hp, k_b1S, f_between, k_b1S, psU_bw hT, if_pos (vnar _)]
theorem r_nm (hT : psT tn tx text) (p : Nat) : f_X9_nameOf (psU tn tx p) = some (if psN (psC tn tx p) < 5 then nI (psN (psC tn tx p)) else -1) := by
  unfold f_X9_nameOf
  by_cases h : p < tn
  · rw [psU_in h]; exact t_nm9 _ (psC_bd hT.2.1 p)
  · have e1 : psU tn tx p = -1 := if_neg h
    have e2 : psC tn tx p = 0 := if_neg h
    rw [e1, e2]; decide
theorem f_mk {n : Nat} {v : Int32} {made : Nat → Int32} (h : n < 40) : f_X9_makes 40 v (nI n) made = some (nI (n + 1), upd made n v) := by
  unfold f_X9_makes
  rw [if_pos (nI_in (c := n) (N := 40) h (by decide)), q_cl (by omega), q_1, q_add]
theorem f_tc129 (hT : psT tn tx text) {x1 x2 x3 ms : Int32} {made : Nat → Int32} : ∀ (j G v k p : Nat), j + k = 3 → j < G → p < 100 → f_X9_takesComparison_129 fu 40 40 (nI tn) text G x1 x2 x3 (nI v) (nI k) ms (nI p) made = f_X9_takesComparison_173 fu 40 40 (nI tn) text x1 x2 x3 (nI (psG tn tx j v p).1) ms (nI (psG tn tx j v p).2) made := by
  have h40 := hT.1
  intro j
  induction j with
  | zero =>
    intro G v k p h1 h2 h3
    obtain ⟨G', rfl⟩ : ∃ G', G = G' + 1 := ⟨G - 1, by omega⟩
    have : k = 3 := by omega
    subst this
    rw [fs_X9_takesComparison_129, if_pos (show (3 : Int32) ≤ nI 3 by decide)]; rfl
  | succ j ih =>
    intro G v k p h1 h2 h3
    obtain ⟨G', rfl⟩ : ∃ G', G = G' + 1 := ⟨G - 1, by omega⟩
    rw [fs_X9_takesComparison_129, if_neg (show ¬ (3 : Int32) ≤ nI k by rw [show (3 : Int32) = nI 3 from rfl, q_le (by omega) (by omega)]; omega), r_dg hT (by omega), k_b1S, r_nx hT (by omega), k_b1S, psG_s]
    cases hd : psD (psC tn tx p) with
    | false => rw [if_pos (by decide), if_neg (by decide)]
    | true =>
      have hb := psD_i hd
      have hi := psC_in (tn := tn) (tx := tx) (p := p) (by omega)
      have e1 : 10 * nI v + nI (psC tn tx p) - 48 = nI (10 * v + (psC tn tx p - 48)) := by
        rw [show (48 : Int32) = nI 48 from rfl, show (10 : Int32) = nI 10 from rfl, q_mul, q_add, q_sub (by omega)]
        exact congrArg nI (by omega)
      rw [if_neg (by decide), if_pos rfl, psU_in hi, e1, k_letS, q_1, q_add, q_add, k_letS]
      exact ih G' _ (k + 1) (p + 1) (by omega) (by omega) (by omega)
theorem f_tc64 (hfu : 100000 ≤ fu) (hT : psT tn tx text) {p a r : Nat} (hp : p ≤ tn) (ha : a < 5) (hr : r < 3) (O : F3) {made : Nat → Int32} (hO : O.1 < 40) : f_X9_takesComparison_64 fu 40 40 (nI tn) text (nI a) (nI r) (nI O.1) (nI (p + 1)) made = if psD (psC tn tx (psQ tn tx p)) = true then some (1, nI (O.1 + 1), nI (psG tn tx 3 0 (psQ tn tx p)).2, upd made O.1 (nI (enc (4 + a * 3 + r) (psV tn tx p)))) else some (0, nI O.1, nI (psQ tn tx p), made) := by
  have h40 := hT.1
  have e2 : nI (p + 1) + 1 = nI (p + 2) := by rw [q_1, q_add]
  have e3 : nI (p + 2) + 1 = nI (p + 3) := by rw [q_1, q_add]
  have e0 : nI (p + 2) + 0 = nI (p + 2) := Int32.add_zero _
  unfold f_X9_takesComparison_64
  rw [if_pos (show (0 : Int32) ≤ nI r by rw [q_0, q_le (by omega) (by omega)]; omega), e2, r_nx hT (by omega), k_b1S]
  unfold f_X9_takesComparison_95 f_X9_takesComparison_110
  by_cases h3 : psC tn tx (p + 2) = 45
  · have eQ : psQ tn tx p = p + 3 := by unfold psQ; rw [if_pos h3]
    have eV : psV tn tx p = -((psG tn tx 3 0 (p + 3)).1 : Int) := by unfold psV; rw [if_pos h3, eQ]
    have hv := psG_v tn tx 0 (p + 3)
    rw [if_pos (show psU tn tx (p + 2) = 45 from (psU_eq hT (p + 2) (k := 45) (by decide) (by decide)).mpr h3), if_neg (show ¬ (1 : Int32) = 0 by decide), e3, r_dg hT (by omega), k_b1S, eQ, eV]
    cases hd : psD (psC tn tx (p + 3)) with
    | false => rw [if_pos (by decide), if_pos nar0, if_neg (by decide)]
    | true =>
      have e4 : f_X9_takesComparison_129 fu 40 40 (nI tn) text fu (nI a) (nI r) 1 0 0 (nI O.1) (nI (p + 3)) made = _ := f_tc129 (fu := fu) hT (x1 := nI a) (x2 := nI r) (x3 := 1) (ms := nI O.1) (made := made) 3 fu 0 0 (p + 3) (by omega) (by omega) (by omega)
      rw [if_neg (by decide), if_pos rfl, e4]
      unfold f_X9_takesComparison_173 f_X9_takesComparison_200
      rw [if_neg (show ¬ (1 : Int32) = 0 by decide), ← zI_nat (psG tn tx 3 0 (p + 3)).1, zI_neg, enc_v ha hr (by omega) (by omega), f_mk hO, k_b2S, if_pos nar1]
  · have eQ : psQ tn tx p = p + 2 := by unfold psQ; rw [if_neg h3]
    have eV : psV tn tx p = ((psG tn tx 3 0 (p + 2)).1 : Int) := by unfold psV; rw [if_neg h3, eQ]
    have hv := psG_v tn tx 0 (p + 2)
    rw [if_neg (show ¬ psU tn tx (p + 2) = 45 from fun q => h3 ((psU_eq hT (p + 2) (k := 45) (by decide) (by decide)).mp q)), if_pos rfl, e0, r_dg hT (by omega), k_b1S, eQ, eV]
    cases hd : psD (psC tn tx (p + 2)) with
    | false => rw [if_pos (by decide), if_pos nar0, if_neg (by decide)]
    | true =>
      have e4 : f_X9_takesComparison_129 fu 40 40 (nI tn) text fu (nI a) (nI r) 0 0 0 (nI O.1) (nI (p + 2)) made = _ := f_tc129 (fu := fu) hT (x1 := nI a) (x2 := nI r) (x3 := 0) (ms := nI O.1) (made := made) 3 fu 0 0 (p + 2) (by omega) (by omega) (by omega)
      rw [if_neg (by decide), if_pos rfl, e4]
      unfold f_X9_takesComparison_173 f_X9_takesComparison_200
      rw [if_pos rfl, ← zI_nat (psG tn tx 3 0 (p + 2)).1, enc_v ha hr (by omega) (by omega), f_mk hO, k_b2S, if_pos nar1]
theorem psR_c {c : Nat} (h : psR c < 3) : (c = 60 ∧ psR c = 0) ∨ (c = 61 ∧ psR c = 1) ∨ (c = 62 ∧ psR c = 2) := by
  unfold psR at h ⊢
  by_cases a : c = 60
  · exact Or.inl ⟨a, if_pos a⟩
  · rw [if_neg a] at h ⊢
    by_cases b : c = 61
    · exact Or.inr (Or.inl ⟨b, if_pos b⟩)
    · rw [if_neg b] at h ⊢
      by_cases d : c = 62
      · exact Or.inr (Or.inr ⟨d, if_pos d⟩)
      · rw [if_neg d] at h; omega
theorem f_tc (hfu : 100000 ≤ fu) (hT : psT tn tx text) {p : Nat} (hp : p ≤ tn) (O : F3) {made : Nat → Int32} (hO : O.1 < 40) : f_X9_takesComparison fu 40 40 (nI tn) text (nI O.1) (nI p) made = if (psK tn tx p).1 = true then some (1, nI (O.1 + 1), nI (psK tn tx p).2.1, upd made O.1 (nI (enc (psK tn tx p).2.2.1 (psK tn tx p).2.2.2))) else some (0, nI O.1, nI (psK tn tx p).2.1, made) := by
  have h40 := hT.1
  have e1 : nI p + 1 = nI (p + 1) := by rw [q_1, q_add]
  unfold f_X9_takesComparison
  rw [r_nx hT (by omega), k_b1S, r_nm hT, k_b1S]
  by_cases h1 : psN (psC tn tx p) < 5
  · have fin : ∀ r, psR (psC tn tx (p + 1)) = r → r < 3 → f_X9_takesComparison_64 fu 40 40 (nI tn) text (nI (psN (psC tn tx p))) (nI r) (nI O.1) (nI (p + 1)) made = if (psK tn tx p).1 = true then some (1, nI (O.1 + 1), nI (psK tn tx p).2.1, upd made O.1 (nI (enc (psK tn tx p).2.2.1 (psK tn tx p).2.2.2))) else some (0, nI O.1, nI (psK tn tx p).2.1, made) := by
      intro r er hr
      rw [f_tc64 hfu hT hp h1 hr O hO]
      cases hd : psD (psC tn tx (psQ tn tx p)) with
      | false =>
        have eK : psK tn tx p = (false, psQ tn tx p, 0, 0) := by unfold psK; rw [if_pos h1, if_pos (by omega), hd, if_neg (by decide)]
        rw [eK]; rfl
      | true =>
        have eK : psK tn tx p = (true, (psG tn tx 3 0 (psQ tn tx p)).2, 4 + psN (psC tn tx p) * 3 + psR (psC tn tx (p + 1)), psV tn tx p) := by unfold psK; rw [if_pos h1, if_pos (by omega), hd, if_pos rfl]
        rw [eK, er]; rfl
    have ne : ∀ k, 0 < k → k < 127 → psC tn tx (p + 1) ≠ k → ¬ psU tn tx (p + 1) = nI k := fun k a b c q => c ((psU_eq hT (p + 1) a b).mp q)
    have eqq : ∀ k, 0 < k → k < 127 → psC tn tx (p + 1) = k → psU tn tx (p + 1) = nI k := fun k a b c => (psU_eq hT (p + 1) a b).mpr c
    rw [if_pos h1, if_pos (show (0 : Int32) ≤ nI (psN (psC tn tx p)) by rw [q_0, q_le (by omega) (by omega)]; omega), e1, r_nx hT (by omega), k_b1S]
    by_cases h2 : psR (psC tn tx (p + 1)) < 3
    · rcases psR_c h2 with ⟨c, er⟩ | ⟨c, er⟩ | ⟨c, er⟩
      · rw [if_pos (show psU tn tx (p + 1) = 60 from eqq 60 (by decide) (by decide) c)]
        exact fin 0 er (by decide)
      · rw [if_neg (show ¬ psU tn tx (p + 1) = 60 from ne 60 (by decide) (by decide) (by omega)), k_b1S, if_pos (show psU tn tx (p + 1) = 61 from eqq 61 (by decide) (by decide) c)]
        exact fin 1 er (by decide)
      · rw [if_neg (show ¬ psU tn tx (p + 1) = 60 from ne 60 (by decide) (by decide) (by omega)), k_b1S, if_neg (show ¬ psU tn tx (p + 1) = 61 from ne 61 (by decide) (by decide) (by omega)), k_b1S, if_pos (show psU tn tx (p + 1) = 62 from eqq 62 (by decide) (by decide) c)]
        exact fin 2 er (by decide)
    · have eK : psK tn tx p = (false, p + 1, 0, 0) := by unfold psK; rw [if_pos h1, if_neg h2]
      have n0 : psC tn tx (p + 1) ≠ 60 := fun q => h2 (by rw [q]; decide)
      have n1 : psC tn tx (p + 1) ≠ 61 := fun q => h2 (by rw [q]; decide)
      have n2 : psC tn tx (p + 1) ≠ 62 := fun q => h2 (by rw [q]; decide)
      rw [if_neg (show ¬ psU tn tx (p + 1) = 60 from ne 60 (by decide) (by decide) n0), k_b1S, if_neg (show ¬ psU tn tx (p + 1) = 61 from ne 61 (by decide) (by decide) n1), k_b1S, if_neg (show ¬ psU tn tx (p + 1) = 62 from ne 62 (by decide) (by decide) n2)]
      unfold f_X9_takesComparison_64
      rw [if_neg (by decide), if_pos nar0, eK]; rfl
  · have eK : psK tn tx p = (false, p, 0, 0) := by unfold psK; rw [if_neg h1]
    rw [if_neg h1, if_neg (by decide), if_pos nar0, eK]; rfl
theorem f_mf {op : Nat} (h1o : 1 ≤ op) (h3o : op ≤ 3) {pend : Nat → Int32} : ∀ (W : List Nat) (O : F3) (G : Nat) (made : Nat → Int32), psOk W → W.length < G → W.length + O.1 ≤ 40 → psP W pend → FM O.1 O.2.1 O.2.2 (nI O.1) made → ∃ made', f_X9_makesFrom_0 fu 40 40 pend (nI (4 - op)) G (nI O.1) (nI W.length) made = some (nI (psM op W O).2.1, nI (psM op W O).1.length, made') ∧ FM (psM op W O).2.1 (psM op W O).2.2.1 (psM op W O).2.2.2 (nI (psM op W O).2.1) made' ∧ psP (psM op W O).1 pend
  | [], O, G, made, h1, h2, h3, h4, h5 => by
    obtain ⟨G', rfl⟩ : ∃ G', G = G' + 1 := ⟨G - 1, by omega⟩
    refine ⟨made, ?_, h5, trivial⟩
    rw [fs_X9_makesFrom_0, if_pos (show nI ([] : List Nat).length ≤ 0 by decide)]; rfl
  | x :: r, O, G, made, h1, h2, h3, h4, h5 => by
    have h2' : r.length + 1 < G := h2
    have h3' : r.length + 1 + O.1 ≤ 40 := h3
    have hx : x ≤ 3 := h1.1
    have hw : pend r.length = nI (4 - x) := h4.1
    obtain ⟨G', rfl⟩ : ∃ G', G = G' + 1 := ⟨G - 1, by omega⟩
    have eL : nI (x :: r).length = nI (r.length + 1) := rfl
    rw [eL, fs_X9_makesFrom_0, if_neg (nI_nle (by omega) (by omega)), nI_pred, k_letS, if_pos (nI_in (c := r.length) (N := 40) (by omega) (by decide)), q_cl (by omega), hw, k_letS, psM_s]
    by_cases e : op ≤ x
    · rw [if_pos e, if_neg (show ¬ nI (4 - op) < nI (4 - x) by rw [q_lt (by omega) (by omega)]; omega), k_letS, if_pos (nI_in (c := r.length) (N := 40) (by omega) (by decide)), q_cl (by omega), hw, k_letS, f_mk (show O.1 < 40 by omega), k_b2S, ← enc_4 (x := x) (by omega) hx 0]
      exact f_mf h1o h3o r (pO O x 0) G' _ h1.2 (by omega) (by show r.length + (O.1 + 1) ≤ 40; omega) h4.2 (FM_push h5 x 0)
    · rw [if_neg e, if_pos (show nI (4 - op) < nI (4 - x) by rw [q_lt (by omega) (by omega)]; omega)]
      exact ⟨made, rfl, h5, h4⟩
theorem f_mft (hfu : 100000 ≤ fu) {op : Nat} (h1o : 1 ≤ op) (h3o : op ≤ 3) {pend : Nat → Int32} {W : List Nat} {O : F3} {made : Nat → Int32} (h1 : psOk W) (h3 : W.length + O.1 ≤ 40) (h4 : psP W pend) (h5 : FM O.1 O.2.1 O.2.2 (nI O.1) made) : ∃ made', f_X9_makesFrom fu 40 40 pend (nI (4 - op)) (nI O.1) (nI W.length) made = some (nI (psM op W O).2.1, nI (psM op W O).1.length, made') ∧ FM (psM op W O).2.1 (psM op W O).2.2.1 (psM op W O).2.2.2 (nI (psM op W O).2.1) made' ∧ psP (psM op W O).1 pend := by
  unfold f_X9_makesFrom
  exact f_mf h1o h3o W O fu made h1 (by omega) h3 h4 h5
theorem f_t101 (hfu : 100000 ≤ fu) (hT : psT tn tx text) {pend : Nat → Int32} : ∀ (n G p : Nat) (W : List Nat) (O : F3) (made : Nat → Int32), tn ≤ n + p → n < G → psOk W → W.length + O.1 ≤ p → p ≤ tn → psP (psM 3 W O).1 pend → FM (psM 3 W O).2.1 (psM 3 W O).2.2.1 (psM 3 W O).2.2.2 (nI (psM 3 W O).2.1) made →
    ∃ (n' p' : Nat) (W' : List Nat) (O' : F3) (made' : Nat → Int32), n' ≤ n ∧ p ≤ p' ∧ p' ≤ tn ∧ tn ≤ n' + p' ∧ psOk W' ∧ W'.length + O'.1 ≤ p' ∧ psP (psM 3 W' O').1 pend ∧ FM (psM 3 W' O').2.1 (psM 3 W' O').2.2.1 (psM 3 W' O').2.2.2 (nI (psM 3 W' O').2.1) made' ∧ ¬ (psC tn tx p' = 41 ∧ 0 < psZ W') ∧ psA tn tx n true p W O = psA tn tx n' true p' W' O' ∧ f_X9_takesFactor_101 fu 40 40 40 (nI tn) text G (nI (psM 3 W O).2.1) (nI (psM 3 W O).1.length) (nI p) (nI (psZ W)) made pend = some (1, nI (psM 3 W' O').2.1, nI (psM 3 W' O').1.length, nI p', nI (psZ W'), made', pend) := by
  have h40 := hT.1
  intro n
  induction n with
  | zero =>
    intro G p W O made g1 g2 h1 h2 h3 h4 h5
    obtain ⟨G', rfl⟩ : ∃ G', G = G' + 1 := ⟨G - 1, by omega⟩
    have hz := psZ_le W
    have c0 : psC tn tx p ≠ 41 := fun q => by have := psC_in (tn := tn) (tx := tx) (p := p) (by omega); omega
    refine ⟨0, p, W, O, made, Nat.le_refl _, Nat.le_refl _, h3, g1, h1, h2, h4, h5, fun q => c0 q.1, rfl, ?_⟩
    rw [fs_X9_takesFactor_101, r_nx hT (by omega), k_b1S, if_neg (show ¬ psU tn tx p = 41 from fun q => c0 ((psU_eq hT p (k := 41) (by decide) (by decide)).mp q)), if_pos nar1]
  | succ n ih =>
    intro G p W O made g1 g2 h1 h2 h3 h4 h5
    obtain ⟨G', rfl⟩ : ∃ G', G = G' + 1 := ⟨G - 1, by omega⟩
    have hz := psZ_le W
    rw [fs_X9_takesFactor_101, r_nx hT (by omega), k_b1S]
    by_cases e1 : psC tn tx p = 41
    · have hp := psC_in (tn := tn) (tx := tx) (p := p) (by omega)
      rw [if_pos (show psU tn tx p = 41 from (psU_eq hT p (k := 41) (by decide) (by decide)).mpr e1)]
      by_cases e2 : 0 < psZ W
      · have l3 := psM_len 3 W O
        obtain ⟨made1, f1, f2, f3⟩ := f_mft (fu := fu) (op := 1) hfu (by decide) (by decide) (psM_ok 3 W O h1) (by omega) h4 h5
        rw [psM_3 (op := 1) (by decide) W O] at f1 f2 f3
        obtain ⟨r, hr⟩ := psM_hd W O e2
        have hz1 := psM_z (op := 1) (by decide) W O
        have hok := psM_ok 1 W O h1
        have hl := psM_len 1 W O
        rw [hr] at f1 f3 hz1 hok hl
        rw [psZ_0] at hz1
        have hl' : r.length + 1 + (psM 1 W O).2.1 = W.length + O.1 := hl
        have eA : psA tn tx (n + 1) true p W O = psA tn tx n true (p + 1) r (psM 1 W O).2 := by rw [psA_s, if_neg (by omega), if_neg (by decide), if_neg (by omega), if_neg (by omega), if_pos ⟨e1, e2⟩, hr]; rfl
        obtain ⟨made2, k1, k2, k3⟩ := f_mft (fu := fu) (op := 3) hfu (by decide) (by decide) hok.2 (by omega) f3.2 f2
        have f1' : f_X9_makesFrom fu 40 40 pend 3 (nI (psM 3 W O).2.1) (nI (psM 3 W O).1.length) made = some (nI (psM 1 W O).2.1, nI (0 :: r).length, made1) := f1
        have k1' : f_X9_makesFrom fu 40 40 pend 1 (nI (psM 1 W O).2.1) (nI r.length) made1 = some (nI (psM 3 r (psM 1 W O).2).2.1, nI (psM 3 r (psM 1 W O).2).1.length, made2) := k1
        have es : nI (0 :: r).length - 1 = nI r.length := nI_pred r.length
        have ez : nI (psZ W) - 1 = nI (psZ r) := by rw [← hz1]; exact nI_pred (psZ r)
        have ep : nI p + 1 = nI (p + 1) := by rw [q_1, q_add]
        rw [if_neg (nI_nle e2 (by omega)), f1', k_b3S, es, k1', k_b3S, ez, ep, eA]
        obtain ⟨n', p', W', O', made', a0, a1, a2, a3, a4, a5, a6, a7, a8, a9, a10⟩ := ih G' (p + 1) r (psM 1 W O).2 made2 (by omega) (by omega) hok.2 (by omega) (by omega) k3 k2
        exact ⟨n', p', W', O', made', by omega, by omega, a2, a3, a4, a5, a6, a7, a8, a9, a10⟩
      · have z0 : psZ W = 0 := by omega
        rw [if_pos (show nI (psZ W) ≤ 0 by rw [z0]; decide), if_pos nar1]
        exact ⟨n + 1, p, W, O, made, Nat.le_refl _, Nat.le_refl _, h3, g1, h1, h2, h4, h5, fun q => e2 q.2, rfl, rfl⟩
    · rw [if_neg (show ¬ psU tn tx p = 41 from fun q => e1 ((psU_eq hT p (k := 41) (by decide) (by decide)).mp q)), if_pos nar1]
      exact ⟨n + 1, p, W, O, made, Nat.le_refl _, Nat.le_refl _, h3, g1, h1, h2, h4, h5, fun q => e1 q.1, rfl, rfl⟩
theorem psF_f (p : Nat) (W : List Nat) (O : F3) : psF false p W O = (false, p, O) := if_neg (fun q => by cases q.1)
theorem f_t0e (hT : psT tn tx text) {p : Nat} (hp : p < 100) (hpt : tn ≤ p) (G : Nat) (ms ps pr : Int32) (made pend : Nat → Int32) : f_X9_takesFactor_0 fu 40 40 40 (nI tn) text (G + 1) ms ps (nI p) pr made pend = some (0, ms, ps, nI p, pr, made, pend) := by
  have c0 : psC tn tx p = 0 := if_neg (by omega)
  rw [fs_X9_takesFactor_0, r_nx hT (by omega), k_b1S, if_neg (show ¬ psU tn tx p = 33 from fun q => by have := (psU_eq hT p (k := 33) (by decide) (by decide)).mp q; omega), k_b1S, if_neg (show ¬ psU tn tx p = 40 from fun q => by have := (psU_eq hT p (k := 40) (by decide) (by decide)).mp q; omega)]
  unfold f_X9_takesFactor_87 f_X9_takesComparison
  rw [r_nx hT (by omega), k_b1S, r_nm hT, k_b1S, c0, if_neg (show ¬ psN 0 < 5 by decide), if_neg (by decide), if_pos nar0, k_b4S, if_pos rfl, if_pos nar0]
theorem psK_end {p : Nat} (h : tn ≤ p) : psK tn tx p = (false, p, 0, 0) := by
  have e : psC tn tx p = 0 := if_neg (by omega)
  unfold psK
  rw [e, if_neg (by decide)]
theorem f_t0 (hfu : 100000 ≤ fu) (hT : psT tn tx text) : ∀ (n G p : Nat) (W : List Nat) (O : F3) (made pend : Nat → Int32), tn ≤ n + p → n < G → n ≤ 40 → psOk W → W.length + O.1 ≤ p → p ≤ tn → psP W pend → FM O.1 O.2.1 O.2.2 (nI O.1) made →
    (∃ (b1 b2 b3 : Int32) (b4 b5 : Nat → Int32), (psA tn tx n false p W O).1 = false ∧ f_X9_takesFactor_0 fu 40 40 40 (nI tn) text G (nI O.1) (nI W.length) (nI p) (nI (psZ W)) made pend = some (0, b1, b2, nI (psA tn tx n false p W O).2.1, b3, b4, b5)) ∨
    (∃ (n' p' : Nat) (W' : List Nat) (O' : F3) (made' pend' : Nat → Int32), n' ≤ n ∧ p ≤ p' ∧ p' ≤ tn ∧ tn ≤ n' + p' ∧ psOk W' ∧ W'.length + O'.1 ≤ p' ∧ psP (psM 3 W' O').1 pend' ∧ FM (psM 3 W' O').2.1 (psM 3 W' O').2.2.1 (psM 3 W' O').2.2.2 (nI (psM 3 W' O').2.1) made' ∧ ¬ (psC tn tx p' = 41 ∧ 0 < psZ W') ∧ psA tn tx n false p W O = psA tn tx n' true p' W' O' ∧ f_X9_takesFactor_0 fu 40 40 40 (nI tn) text G (nI O.1) (nI W.length) (nI p) (nI (psZ W)) made pend = some (1, nI (psM 3 W' O').2.1, nI (psM 3 W' O').1.length, nI p', nI (psZ W'), made', pend')) := by
  have h40 := hT.1
  have cmpF : ∀ (n p : Nat) (W : List Nat) (O : F3) (made pend : Nat → Int32), (psA tn tx n false p W O = (false, (psK tn tx p).2.1, O)) → (psK tn tx p).1 = false → W.length + O.1 ≤ p → p ≤ tn → O.1 < 40 → ∃ (b1 b2 b3 : Int32) (b4 b5 : Nat → Int32), (psA tn tx n false p W O).1 = false ∧ f_X9_takesFactor_87 fu 40 40 40 (nI tn) text (nI O.1) (nI W.length) (nI p) (nI (psZ W)) made pend = some (0, b1, b2, nI (psA tn tx n false p W O).2.1, b3, b4, b5) := by
    intro n p W O made pend eA eK h2 h3 h4
    refine ⟨nI O.1, nI W.length, nI (psZ W), made, pend, by rw [eA], ?_⟩
    unfold f_X9_takesFactor_87
    rw [f_tc hfu hT h3 O h4, eK, if_neg (by decide), k_b4S, if_pos rfl, if_pos nar0, eA]
  intro n
  induction n with
  | zero =>
    intro G p W O made pend g1 g2 g3 h1 h2 h3 h4 h5
    obtain ⟨G', rfl⟩ : ∃ G', G = G' + 1 := ⟨G - 1, by omega⟩
    refine Or.inl ⟨nI O.1, nI W.length, nI (psZ W), made, pend, ?_, ?_⟩
    · rw [psA_end 0 (by omega), psF_f]
    · rw [psA_end 0 (show tn ≤ p by omega), psF_f]; exact f_t0e hT (by omega) (by omega) G' _ _ _ _ _
  | succ n ih =>
    intro G p W O made pend g1 g2 g3 h1 h2 h3 h4 h5
    obtain ⟨G', rfl⟩ : ∃ G', G = G' + 1 := ⟨G - 1, by omega⟩
    by_cases hpt : tn ≤ p
    · refine Or.inl ⟨nI O.1, nI W.length, nI (psZ W), made, pend, ?_, ?_⟩
      · rw [psA_end _ hpt, psF_f]
      · rw [psA_end _ hpt, psF_f]; exact f_t0e hT (by omega) hpt G' _ _ _ _ _
    · have hwl : W.length < 40 := by omega
      have ew : nI W.length + 1 = nI (W.length + 1) := by rw [q_1, q_add]
      have ep : nI p + 1 = nI (p + 1) := by rw [q_1, q_add]
      rw [fs_X9_takesFactor_0, r_nx hT (by omega), k_b1S]
      by_cases e1 : psC tn tx p = 33
      · have u33 : psU tn tx p = 33 := (psU_eq hT p (k := 33) (by decide) (by decide)).mpr e1
        have eA : psA tn tx (n + 1) false p W O = psA tn tx n false (p + 1) (3 :: W) O := by rw [psA_s, if_neg hpt, if_pos rfl, if_pos e1]
        have e0 : nI (psZ W) + 0 = nI (psZ (3 :: W)) := by rw [psZ_n (by decide)]; exact Int32.add_zero _
        rw [if_pos u33]
        unfold f_X9_takesFactor_18 f_X9_takesFactor_37 f_X9_takesFactor_63
        rw [r_nx hT (by omega), k_b1S, if_neg (show ¬ psU tn tx p = 40 by rw [u33]; decide), k_b1S, if_pos u33, if_pos (nI_in (c := W.length) (N := 40) hwl (by decide)), q_cl (by omega), ew, ep, e0, eA]
        exact (ih G' (p + 1) (3 :: W) O made (upd pend W.length 1) (by omega) (by omega) (by omega) ⟨Nat.le_refl _, h1⟩ (by show W.length + 1 + O.1 ≤ p + 1; omega) (by omega) ⟨by rw [q_upd, if_pos rfl]; rfl, psP_upd _ _ _ _ (Nat.le_refl _) h4⟩ h5).elim (fun h => Or.inl h) (fun ⟨n', p', W', O', made', pend', a0, a1, a⟩ => Or.inr ⟨n', p', W', O', made', pend', by omega, by omega, a⟩)
      · have u33 : ¬ psU tn tx p = 33 := fun q => e1 ((psU_eq hT p (k := 33) (by decide) (by decide)).mp q)
        rw [if_neg u33, k_b1S]
        by_cases e2 : psC tn tx p = 40
        · have u40 : psU tn tx p = 40 := (psU_eq hT p (k := 40) (by decide) (by decide)).mpr e2
          have eA : psA tn tx (n + 1) false p W O = psA tn tx n false (p + 1) (0 :: W) O := by rw [psA_s, if_neg hpt, if_pos rfl, if_neg e1, if_pos e2]
          have e0 : nI (psZ W) + 1 = nI (psZ (0 :: W)) := by rw [psZ_0, q_1, q_add]
          rw [if_pos u40]
          unfold f_X9_takesFactor_18 f_X9_takesFactor_37 f_X9_takesFactor_63
          rw [r_nx hT (by omega), k_b1S, if_pos u40, k_b1S, if_neg u33, if_pos (nI_in (c := W.length) (N := 40) hwl (by decide)), q_cl (by omega), ew, ep, e0, eA]
          exact (ih G' (p + 1) (0 :: W) O made (upd pend W.length 4) (by omega) (by omega) (by omega) ⟨Nat.zero_le _, h1⟩ (by show W.length + 1 + O.1 ≤ p + 1; omega) (by omega) ⟨by rw [q_upd, if_pos rfl]; rfl, psP_upd _ _ _ _ (Nat.le_refl _) h4⟩ h5).elim (fun h => Or.inl h) (fun ⟨n', p', W', O', made', pend', a0, a1, a⟩ => Or.inr ⟨n', p', W', O', made', pend', by omega, by omega, a⟩)
        · have u40 : ¬ psU tn tx p = 40 := fun q => e2 ((psU_eq hT p (k := 40) (by decide) (by decide)).mp q)
          rw [if_neg u40]
          cases e3 : (psK tn tx p).1 with
          | true =>
            have eA : psA tn tx (n + 1) false p W O = psA tn tx n true (psK tn tx p).2.1 W (pO O (psK tn tx p).2.2.1 (psK tn tx p).2.2.2) := by rw [psA_s, if_neg hpt, if_pos rfl, if_neg e1, if_neg e2, if_pos e3]
            obtain ⟨k1, k2, k3, k4, k5, k6⟩ := psK_b e3
            have hF := FM_push h5 (psK tn tx p).2.2.1 (psK tn tx p).2.2.2
            obtain ⟨made1, f1, f2, f3⟩ := f_mft (fu := fu) (op := 3) hfu (by decide) (by decide) (W := W) (O := pO O (psK tn tx p).2.2.1 (psK tn tx p).2.2.2) h1 (by show W.length + (O.1 + 1) ≤ 40; omega) h4 hF
            have f1' : f_X9_makesFrom fu 40 40 pend 1 (nI (O.1 + 1)) (nI W.length) (upd made O.1 (nI (enc (psK tn tx p).2.2.1 (psK tn tx p).2.2.2))) = some (nI (psM 3 W (pO O (psK tn tx p).2.2.1 (psK tn tx p).2.2.2)).2.1, nI (psM 3 W (pO O (psK tn tx p).2.2.1 (psK tn tx p).2.2.2)).1.length, made1) := f1
            obtain ⟨n', p', W', O', made', a0, a1, a2, a3, a4, a5, a6, a7, a8, a9, a10⟩ := f_t101 (fu := fu) hfu hT (pend := pend) n fu (psK tn tx p).2.1 W (pO O (psK tn tx p).2.2.1 (psK tn tx p).2.2.2) made1 (by omega) (by omega) h1 (by show W.length + (O.1 + 1) ≤ _; omega) k2 f3 f2
            right
            refine ⟨n', p', W', O', made', pend, by omega, by omega, a2, a3, a4, a5, a6, a7, a8, by rw [eA]; exact a9, ?_⟩
            unfold f_X9_takesFactor_87
            rw [f_tc hfu hT h3 O (by omega), if_pos e3, k_b4S, if_neg (by decide), f1', k_b3S]
            exact a10
          | false =>
            have eA : psA tn tx (n + 1) false p W O = (false, (psK tn tx p).2.1, O) := by rw [psA_s, if_neg hpt, if_pos rfl, if_neg e1, if_neg e2, if_neg (by rw [e3]; decide)]
            exact Or.inl (cmpF (n + 1) p W O made pend eA e3 h2 h3 (by omega))
theorem f_t20 (hfu : 100000 ≤ fu) (hT : psT tn tx text) : ∀ (d n G p : Nat) (W : List Nat) (O : F3) (made pend : Nat → Int32), tn ≤ d + p → d < G → tn ≤ n + p → n ≤ 40 → psOk W → W.length + O.1 ≤ p → p ≤ tn → psP W pend → FM O.1 O.2.1 O.2.2 (nI O.1) made →
    ∃ (r ms ps at_ pr : Int32) (made' pend' : Nat → Int32), f_X9_takesText_20 fu 40 40 40 (nI tn) text G (nI O.1) (nI W.length) (nI p) (nI (psZ W)) made pend = some (r, ms, ps, at_, pr, made', pend') ∧ ((psA tn tx n false p W O).1 = true → r = 1 ∧ FM (psA tn tx n false p W O).2.2.1 (psA tn tx n false p W O).2.2.2.1 (psA tn tx n false p W O).2.2.2.2 ms made') ∧ ((psA tn tx n false p W O).1 = false → r = 0 ∧ at_ = nI (psA tn tx n false p W O).2.1) := by
  have h40 := hT.1
  intro d
  induction d with
  | zero =>
    intro n G p W O made pend g0 g1 g2 g3 h1 h2 h3 h4 h5
    obtain ⟨G', rfl⟩ : ∃ G', G = G' + 1 := ⟨G - 1, by omega⟩
    rw [fs_X9_takesText_20]
    unfold f_X9_takesFactor
    have eA : psA tn tx n false p W O = (false, p, O) := by rw [psA_end n (by omega), psF_f]
    have ek : ∀ F1, f_X9_takesFactor_0 fu 40 40 40 (nI tn) text (F1 + 1) (nI O.1) (nI W.length) (nI p) (nI (psZ W)) made pend = some (0, nI O.1, nI W.length, nI p, nI (psZ W), made, pend) := fun F1 => f_t0e hT (by omega) (by omega) F1 _ _ _ _ _
    have ek2 := ek (fu - 1)
    rw [show fu - 1 + 1 = fu by omega] at ek2
    rw [ek2, k_b7S, if_pos rfl, if_pos nar0, eA]
    exact ⟨_, _, _, _, _, _, _, rfl, (fun q => by cases q), fun _ => ⟨rfl, rfl⟩⟩
  | succ d ih =>
    intro n G p W O made pend g0 g1 g2 g3 h1 h2 h3 h4 h5
    obtain ⟨G', rfl⟩ : ∃ G', G = G' + 1 := ⟨G - 1, by omega⟩
    rw [fs_X9_takesText_20]
    unfold f_X9_takesFactor
    rcases f_t0 (fu := fu) hfu hT n fu p W O made pend g2 (by omega) g3 h1 h2 h3 h4 h5 with ⟨b1, b2, b3, b4, b5, c1, c2⟩ | ⟨n', p', W', O', made', pend', a0, a1, a2, a3, a4, a5, a6, a7, a8, a9, a10⟩
    · rw [c2, k_b7S, if_pos rfl, if_pos nar0]
      exact ⟨_, _, _, _, _, _, _, rfl, fun q => (by rw [c1] at q; cases q), fun _ => ⟨rfl, rfl⟩⟩
    · rw [a10, k_b7S, if_neg (by decide), r_nx hT (by omega), k_b1S, a9]
      have l3 := psM_len 3 W' O'
      have ok3 := psM_ok 3 W' O' a4
      have ep : nI p' + 1 = nI (p' + 1) := by rw [q_1, q_add]
      unfold f_X9_takesText_54
      -- an operator behind the factor
      have opr : ∀ op, 1 ≤ op → op ≤ 2 → p' < tn → (∀ n'', psA tn tx (n'' + 1) true p' W' O' = psA tn tx n'' false (p' + 1) (op :: (psM op W' O').1) (psM op W' O').2) → ∃ (r ms ps at_ pr : Int32) (made2 pend2 : Nat → Int32), (k_b3 (f_X9_makesFrom fu 40 40 pend' (nI (4 - op)) (nI (psM 3 W' O').2.1) (nI (psM 3 W' O').1.length) made') fun madeSize__13 pendings__14 made__15 => (if ¬ (pendings__14 < 0 ∨ 40 ≤ pendings__14.toNatClampNeg) then ((f_X9_takesText_20 fu 40 40 40 (nI tn) text G' madeSize__13 (pendings__14 + 1) (nI p' + 1) (nI (psZ W')) made__15 (upd pend' pendings__14.toNatClampNeg (nI (4 - op))))) else none)) = some (r, ms, ps, at_, pr, made2, pend2) ∧ ((psA tn tx n' true p' W' O').1 = true → r = 1 ∧ FM (psA tn tx n' true p' W' O').2.2.1 (psA tn tx n' true p' W' O').2.2.2.1 (psA tn tx n' true p' W' O').2.2.2.2 ms made2) ∧ ((psA tn tx n' true p' W' O').1 = false → r = 0 ∧ at_ = nI (psA tn tx n' true p' W' O').2.1) := by
        intro op ho1 ho2 hpt eA
        obtain ⟨n'', rfl⟩ : ∃ n'', n' = n'' + 1 := ⟨n' - 1, by omega⟩
        obtain ⟨made1, f1, f2, f3⟩ := f_mft (fu := fu) (op := op) hfu ho1 (by omega) ok3 (by omega) a6 a7
        rw [psM_3 (op := op) (by omega) W' O'] at f1 f2 f3
        have hl := psM_len op W' O'
        have ez : psZ W' = psZ (op :: (psM op W' O').1) := by rw [psZ_n (by omega), psM_z ho1]
        have ew : nI (psM op W' O').1.length + 1 = nI (op :: (psM op W' O').1).length := by rw [q_1, q_add]; rfl
        rw [f1, k_b3S, if_pos (nI_in (c := (psM op W' O').1.length) (N := 40) (by omega) (by decide)), q_cl (by omega), eA, ep, ez, ew]
        by_cases hn : n'' ≤ 40
        · exact ih n'' G' (p' + 1) (op :: (psM op W' O').1) (psM op W' O').2 made1 (upd pend' (psM op W' O').1.length (nI (4 - op))) (by omega) (by omega) (by omega) hn ⟨by omega, psM_ok op W' O' a4⟩ (by show (psM op W' O').1.length + 1 + (psM op W' O').2.1 ≤ p' + 1; omega) (by omega) ⟨by rw [q_upd, if_pos rfl], psP_upd _ _ _ _ (Nat.le_refl _) f3⟩ f2
        · exfalso
          exact hn (by omega)
      by_cases e1 : psC tn tx p' = 38
      · have hp := psC_in (tn := tn) (tx := tx) (p := p') (by omega)
        rw [if_pos (show psU tn tx p' = 38 from (psU_eq hT p' (k := 38) (by decide) (by decide)).mpr e1), if_neg (show ¬ (2 : Int32) = 0 by decide)]
        exact opr 2 (by decide) (by decide) hp (fun n'' => by rw [psA_s, if_neg (by omega), if_neg (by decide), if_pos e1])
      · rw [if_neg (show ¬ psU tn tx p' = 38 from fun q => e1 ((psU_eq hT p' (k := 38) (by decide) (by decide)).mp q)), k_b1S]
        by_cases e2 : psC tn tx p' = 124
        · have hp := psC_in (tn := tn) (tx := tx) (p := p') (by omega)
          rw [if_pos (show psU tn tx p' = 124 from (psU_eq hT p' (k := 124) (by decide) (by decide)).mpr e2), if_neg (show ¬ (3 : Int32) = 0 by decide)]
          exact opr 1 (by decide) (by decide) hp (fun n'' => by rw [psA_s, if_neg (by omega), if_neg (by decide), if_neg e1, if_pos e2])
        · rw [if_neg (show ¬ psU tn tx p' = 124 from fun q => e2 ((psU_eq hT p' (k := 124) (by decide) (by decide)).mp q)), if_pos rfl]
          obtain ⟨made1, f1, f2, f3⟩ := f_mft (fu := fu) (op := 1) hfu (by decide) (by decide) ok3 (by omega) a6 a7
          rw [psM_3 (op := 1) (by decide) W' O'] at f1 f2 f3
          have f1' : f_X9_makesFrom fu 40 40 pend' 3 (nI (psM 3 W' O').2.1) (nI (psM 3 W' O').1.length) made' = some (nI (psM 1 W' O').2.1, nI (psM 1 W' O').1.length, made1) := f1
          unfold f_X9_takesText_59
          rw [f1', k_b3S]
          have hz := psZ_le W'
          by_cases e3 : p' = tn
          · rw [if_pos (show nI p' = nI tn by rw [e3]), psA_end n' (by omega)]
            by_cases e4 : psZ W' = 0
            · have eF : psF true p' W' O' = (true, p', (psM 1 W' O').2) := if_pos ⟨rfl, e4⟩
              rw [if_pos (show nI (psZ W') = 0 by rw [e4]; rfl), if_pos nar1, eF]
              exact ⟨_, _, _, _, _, _, _, rfl, fun _ => ⟨rfl, f2⟩, fun q => by cases q⟩
            · have eF : psF true p' W' O' = (false, p', O') := if_neg (fun q => e4 q.2)
              rw [if_neg (show ¬ nI (psZ W') = 0 from nI_ne0 (by omega) (by omega)), if_pos nar0, eF]
              exact ⟨_, _, _, _, _, _, _, rfl, (fun q => by cases q), fun _ => ⟨rfl, rfl⟩⟩
          · obtain ⟨n'', rfl⟩ : ∃ n'', n' = n'' + 1 := ⟨n' - 1, by omega⟩
            have eA : psA tn tx (n'' + 1) true p' W' O' = (false, p', O') := by rw [psA_s, if_neg (by omega), if_neg (by decide), if_neg e1, if_neg e2, if_neg a8]
            rw [if_neg (show ¬ nI p' = nI tn by rw [q_eq (by omega) (by omega)]; exact e3), if_pos nar0, eA]
            exact ⟨_, _, _, _, _, _, _, rfl, (fun q => by cases q), fun _ => ⟨rfl, rfl⟩⟩
end PSM
