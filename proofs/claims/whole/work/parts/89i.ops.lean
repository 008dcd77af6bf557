/-! The class's reader does what psA does. -/
def psT (tn : Nat) (tx : Nat → Nat) (text : Nat → Int32) : Prop := tn ≤ 40 ∧ (∀ i, i < tn → 33 ≤ tx i ∧ tx i ≤ 126) ∧ ∀ i, i < tn → text i = nI (tx i)
def psS : List Nat → (Nat → Int32) → Prop
  | [], _ => True
  | x :: r, s => s r.length = nI x ∧ psS r s
theorem psS_upd : ∀ (r : List Nat) (s : Nat → Int32) (j : Nat) (v : Int32), r.length ≤ j → psS r s → psS r (upd s j v)
  | [], _, _, _, _, _ => trivial
  | x :: r, s, j, v, h, hs => by
    have h' : r.length + 1 ≤ j := h
    refine ⟨?_, psS_upd r s j v (by omega) hs.2⟩
    rw [q_upd, if_neg (by omega)]; exact hs.1
def psX : List Nat → Int32
  | [] => -1
  | _ :: r => nI r.length
theorem psX_m (W : List Nat) : nI W.length - 1 = psX W := by
  cases W with
  | nil => decide
  | cons x r => exact nI_pred r.length
theorem psX_p (W : List Nat) : nI W.length + (-1) = psX W := by
  cases W with
  | nil => decide
  | cons x r => exact pk_m1 r.length
theorem psZ_le : ∀ W : List Nat, psZ W ≤ W.length
  | [] => Nat.le_refl _
  | x :: r => by
    have := psZ_le r
    show (if x = 0 then 1 else 0) + psZ r ≤ r.length + 1
    split <;> omega
theorem psZ_n {x : Nat} (h : x ≠ 0) (W : List Nat) : psZ (x :: W) = psZ W := by
  show (if x = 0 then 1 else 0) + psZ W = psZ W
  rw [if_neg h]; omega
theorem psZ_0 (W : List Nat) : psZ (0 :: W) = psZ W + 1 := by
  show (if 0 = 0 then 1 else 0) + psZ W = psZ W + 1
  rw [if_pos rfl]; omega
theorem FC_push {O : F3} {s : Int32} {st nu : Nat → Int32} (h : FC O.1 O.2.1 O.2.2 s st nu) (t : Nat) (z : Int) : FC (pO O t z).1 (pO O t z).2.1 (pO O t z).2.2 (nI (O.1 + 1)) (upd st O.1 (nI t)) (upd nu O.1 (zI z)) := by
  refine ⟨rfl, fun i hi => ?_⟩
  have hi' : i < O.1 + 1 := hi
  rw [q_upd, q_upd]
  by_cases e : i = O.1
  · rw [if_pos e, if_pos e, e, pO_sl, pO_nl]; exact ⟨rfl, rfl⟩
  · rw [if_neg e, if_neg e, pO_st (by omega), pO_nu (by omega)]; exact h.2 i (by omega)
theorem t_nm : ∀ c, c < 127 → k_IX k_f0 5 (nI c) = (if psN c < 5 then nI (psN c) else -1) := by decide +kernel
theorem t_rl : ∀ c, c < 127 → k_IX k_f1 3 (nI c) = (if psR c < 3 then nI (psR c) else -1) := by decide +kernel
theorem t_dg {c : Nat} (h : c < 127) : f_X2_isDigit (nI c) = some (nI (bv (psD c))) := by
  unfold f_X2_isDigit psD
  rw [if_pos nar0, if_pos nar1]
  by_cases a : c < 48
  · rw [if_pos (show nI c < 48 from nI_lt (b := 48) a (by decide)), decide_eq_false (by omega)]; rfl
  · rw [if_neg (show ¬ nI c < 48 from nI_nlt (b := 48) (by omega) (by omega))]
    by_cases b : 57 < c
    · rw [if_pos (show (57 : Int32) < nI c from nI_lt (a := 57) b (by omega)), decide_eq_false (by omega)]; rfl
    · rw [if_neg (show ¬ (57 : Int32) < nI c from nI_nlt (a := 57) (by omega) (by decide)), decide_eq_true (by omega)]; rfl
section PSC
variable {fu tn : Nat} {tx : Nat → Nat} {text : Nat → Int32}
theorem c_at (hT : psT tn tx text) {p : Nat} (hp : p < 1000) : f_X2_characterAt 40 (nI tn) text (nI p) = some (nI (psC tn tx p)) := by
  have h40 := hT.1
  unfold f_X2_characterAt psC
  rw [if_neg (nI_pos (by omega)), if_pos (show vp_nar .char (0 : Int32) = 0 by decide +kernel)]
  by_cases h : p < tn
  · have hx := hT.2.1 p h
    have cn := c_nar (tx p) (by omega)
    rw [if_neg (show ¬ nI tn ≤ nI p by rw [q_le (by omega) (by omega)]; omega), if_neg (show ¬ nI 40 ≤ nI p by rw [q_le (by omega) (by omega)]; omega), if_pos (nI_in (c := p) (N := 40) (by omega) (by decide)), q_cl (by omega), hT.2.2 p h, k_letS, if_pos cn.2, if_pos h]
  · rw [if_pos (show nI tn ≤ nI p by rw [q_le (by omega) (by omega)]; omega), if_neg h]; rfl
theorem f_rd_loop (hT : psT tn tx text) : ∀ (j G v k p : Nat), j + k = 3 → j < G → p < 100 → f_X2_readDigits_4 fu 40 (nI tn) text G (nI v) (nI k) (nI p) = some (nI (psG tn tx j v p).1, nI (psG tn tx j v p).2) := by
  have h40 := hT.1
  intro j
  induction j with
  | zero =>
    intro G v k p h1 h2 h3
    obtain ⟨G', rfl⟩ : ∃ G', G = G' + 1 := ⟨G - 1, by omega⟩
    have : k = 3 := by omega
    subst this
    rw [fs_X2_readDigits_4, if_pos (show (3 : Int32) ≤ nI 3 by decide)]; rfl
  | succ j ih =>
    intro G v k p h1 h2 h3
    obtain ⟨G', rfl⟩ : ∃ G', G = G' + 1 := ⟨G - 1, by omega⟩
    rw [fs_X2_readDigits_4, if_neg (show ¬ (3 : Int32) ≤ nI k by rw [show (3 : Int32) = nI 3 from rfl, q_le (by omega) (by omega)]; omega), c_at hT (by omega), k_b1S, t_dg (psC_bd hT.2.1 p), k_b1S, k_b1S, psG_s]
    cases hd : psD (psC tn tx p) with
    | false => rw [if_pos (by decide), if_neg (by decide)]
    | true =>
      have hb := psD_i hd
      have hi := psC_in (tn := tn) (tx := tx) (p := p) (by omega)
      have e1 : nI v * 10 + (nI (psC tn tx p) - 48) = nI (10 * v + (psC tn tx p - 48)) := by
        rw [show (48 : Int32) = nI 48 from rfl, q_sub (by omega), show (10 : Int32) = nI 10 from rfl, q_mul, q_add, Nat.mul_comm]
      rw [if_neg (by decide), if_pos rfl, e1, k_letS, q_1, q_add, q_add, k_letS]
      exact ih G' _ (k + 1) (p + 1) (by omega) (by omega) (by omega)
theorem f_rc93 (hfu : 100000 ≤ fu) (hT : psT tn tx text) {a r q : Nat} {s : Int32} (O : F3) {st nu : Nat → Int32} (hO : O.1 < 40) (hq : q < 100) : f_X2_readComparison_93 fu 40 40 40 (nI tn) text (nI a) (nI r) s (nI q) (nI O.1) st nu = if psD (psC tn tx q) = true then some (0, 1, nI (psG tn tx 3 0 q).2, nI (O.1 + 1), upd st O.1 (nI (4 + a * 3 + r)), upd nu O.1 (if s = 0 then nI (psG tn tx 3 0 q).1 else -(nI (psG tn tx 3 0 q).1))) else some (0, 0, nI q, nI O.1, st, nu) := by
  unfold f_X2_readComparison_93
  have es : (4 : Int32) + nI a * 3 + nI r = nI (4 + a * 3 + r) := by rw [show (4 : Int32) = nI 4 from rfl, show (3 : Int32) = nI 3 from rfl, q_mul, q_add, q_add]
  have er : f_X2_readDigits fu 40 (nI tn) text (nI q) = some (nI (psG tn tx 3 0 q).1, nI (psG tn tx 3 0 q).2) := by
    unfold f_X2_readDigits
    exact f_rd_loop (fu := fu) hT 3 fu 0 0 q (by omega) (by omega) hq
  rw [c_at hT (by omega), k_b1S, t_dg (psC_bd hT.2.1 q), k_b1S]
  cases hd : psD (psC tn tx q) with
  | false => rw [if_pos (by decide), if_pos nar0, if_neg (by decide)]
  | true =>
    rw [if_neg (by decide), if_pos rfl, er, k_b2S]
    unfold f_X1_comparisonStep f_X2_readComparison_136
    rw [k_b1S, es]
    by_cases hs : s = 0
    · rw [if_pos hs, if_pos hs, f_app1 (by decide) hO, k_b3S, if_pos nar1]
    · rw [if_neg hs, if_neg hs, f_app1 (by decide) hO, k_b3S, if_pos nar1]
theorem f_rc (hfu : 100000 ≤ fu) (hT : psT tn tx text) {p : Nat} (hp : p ≤ tn) (O : F3) {st nu : Nat → Int32} (hO : O.1 < 40) : f_X2_readComparison fu 40 40 40 (nI tn) text (nI p) (nI O.1) st nu = if (psK tn tx p).1 = true then some (0, 1, nI (psK tn tx p).2.1, nI (O.1 + 1), upd st O.1 (nI (psK tn tx p).2.2.1), upd nu O.1 (zI (psK tn tx p).2.2.2)) else some (0, 0, nI (psK tn tx p).2.1, nI O.1, st, nu) := by
  have h40 := hT.1
  have e1 : nI p + 1 = nI (p + 1) := by rw [q_1, q_add]
  have e2 : nI (p + 1) + 1 = nI (p + 2) := by rw [q_1, q_add]
  have e3 : nI (p + 2) + 1 = nI (p + 3) := by rw [q_1, q_add]
  unfold f_X2_readComparison
  rw [c_at hT (by omega), k_b1S, t_nm _ (psC_bd hT.2.1 p), k_letS]
  by_cases h1 : psN (psC tn tx p) < 5
  · rw [if_pos h1, if_pos (show (0 : Int32) ≤ nI (psN (psC tn tx p)) by rw [q_0, q_le (by omega) (by omega)]; omega), e1, e2, c_at hT (by omega), k_b1S, t_rl _ (psC_bd hT.2.1 (p + 1)), k_letS]
    by_cases h2 : psR (psC tn tx (p + 1)) < 3
    · rw [if_pos h2, if_pos (show (0 : Int32) ≤ nI (psR (psC tn tx (p + 1))) by rw [q_0, q_le (by omega) (by omega)]; omega), c_at hT (by omega), k_b1S]
      unfold f_X2_readComparison_78
      have hc := psC_bd hT.2.1 (p + 2)
      by_cases h3 : psC tn tx (p + 2) = 45
      · have eQ : psQ tn tx p = p + 3 := by unfold psQ; rw [if_pos h3]
        have eV : psV tn tx p = -((psG tn tx 3 0 (p + 3)).1 : Int) := by unfold psV; rw [if_pos h3, eQ]
        rw [if_pos (show nI (psC tn tx (p + 2)) = 45 by rw [h3]; rfl), if_neg (show ¬ (1 : Int32) = 0 by decide), e3, f_rc93 hfu hT O hO (by omega), if_neg (show ¬ (1 : Int32) = 0 by decide)]
        cases hd : psD (psC tn tx (p + 3)) with
        | false =>
          have eK : psK tn tx p = (false, p + 3, 0, 0) := by unfold psK; rw [if_pos h1, if_pos h2, eQ, hd, if_neg (by decide)]
          rw [eK]; rfl
        | true =>
          have eK : psK tn tx p = (true, (psG tn tx 3 0 (p + 3)).2, 4 + psN (psC tn tx p) * 3 + psR (psC tn tx (p + 1)), -((psG tn tx 3 0 (p + 3)).1 : Int)) := by unfold psK; rw [if_pos h1, if_pos h2, eV, eQ, hd, if_pos rfl]
          have en : -(nI (psG tn tx 3 0 (p + 3)).1) = zI (-((psG tn tx 3 0 (p + 3)).1 : Int)) := by rw [← zI_nat, zI_neg]
          rw [eK, if_pos rfl, en]; rfl
      · have eQ : psQ tn tx p = p + 2 := by unfold psQ; rw [if_neg h3]
        have eV : psV tn tx p = ((psG tn tx 3 0 (p + 2)).1 : Int) := by unfold psV; rw [if_neg h3, eQ]
        rw [if_neg (show ¬ nI (psC tn tx (p + 2)) = 45 by rw [show (45 : Int32) = nI 45 from rfl, q_eq (by omega) (by omega)]; exact h3), if_pos rfl, f_rc93 hfu hT O hO (by omega), if_pos rfl]
        cases hd : psD (psC tn tx (p + 2)) with
        | false =>
          have eK : psK tn tx p = (false, p + 2, 0, 0) := by unfold psK; rw [if_pos h1, if_pos h2, eQ, hd, if_neg (by decide)]
          rw [eK]; rfl
        | true =>
          have eK : psK tn tx p = (true, (psG tn tx 3 0 (p + 2)).2, 4 + psN (psC tn tx p) * 3 + psR (psC tn tx (p + 1)), ((psG tn tx 3 0 (p + 2)).1 : Int)) := by unfold psK; rw [if_pos h1, if_pos h2, eV, eQ, hd, if_pos rfl]
          have en : nI (psG tn tx 3 0 (p + 2)).1 = zI ((psG tn tx 3 0 (p + 2)).1 : Int) := (zI_nat _).symm
          rw [eK, if_pos rfl, en]; rfl
    · have eK : psK tn tx p = (false, p + 1, 0, 0) := by unfold psK; rw [if_pos h1, if_neg h2]
      rw [if_neg h2, if_neg (by decide), if_pos nar0, eK]; rfl
  · have eK : psK tn tx p = (false, p, 0, 0) := by unfold psK; rw [if_neg h1]
    rw [if_neg h1, if_neg (by decide), if_pos nar0, eK]; rfl
theorem f_hold {w p : Nat} {v : Int32} {wt : Nat → Int32} (hw : w < 40) : f_X2_holdBack 40 v (nI p) (nI w) wt = some (nI (p + 1), nI (w + 1), upd wt w v) := by
  unfold f_X2_holdBack f_X2_holdBack_39
  rw [if_neg (nI_pos (by omega)), if_neg (show ¬ nI 40 ≤ nI w by rw [q_le (by omega) (by omega)]; omega), if_pos (nI_in (c := w) (N := 40) (by omega) (by decide)), q_cl (by omega), q_1, q_add, q_add]
theorem f_mw {op : Nat} (hop : op ≤ 3) {wt : Nat → Int32} : ∀ (W : List Nat) (O : F3) (G : Nat) (st nu : Nat → Int32), psOk W → W.length < G → W.length + O.1 ≤ 40 → psS W wt → FC O.1 O.2.1 O.2.2 (nI O.1) st nu → ∃ st' nu', f_X2_moveWaiting_7 fu 40 40 40 wt (nI op) G (psX W) (nI W.length) (nI O.1) st nu = some (nI (psM op W O).1.length, nI (psM op W O).2.1, st', nu') ∧ FC (psM op W O).2.1 (psM op W O).2.2.1 (psM op W O).2.2.2 (nI (psM op W O).2.1) st' nu' ∧ psS (psM op W O).1 wt
  | [], O, G, st, nu, h1, h2, h3, h4, h5 => by
    obtain ⟨G', rfl⟩ : ∃ G', G = G' + 1 := ⟨G - 1, by omega⟩
    refine ⟨st, nu, ?_, h5, trivial⟩
    rw [fs_X2_moveWaiting_7, if_pos (show psX [] < 0 by decide)]; rfl
  | x :: r, O, G, st, nu, h1, h2, h3, h4, h5 => by
    have h2' : r.length + 1 < G := h2
    have h3' : r.length + 1 + O.1 ≤ 40 := h3
    have hx : x ≤ 3 := h1.1
    have hw : wt r.length = nI x := h4.1
    obtain ⟨G', rfl⟩ : ∃ G', G = G' + 1 := ⟨G - 1, by omega⟩
    have eX : psX (x :: r) = nI r.length := rfl
    rw [eX, fs_X2_moveWaiting_7, if_neg (nI_pos (by omega)), if_neg (show ¬ nI 40 ≤ nI r.length by rw [q_le (by omega) (by omega)]; omega), if_pos (nI_in (c := r.length) (N := 40) (by omega) (by decide)), q_cl (by omega), hw, k_letS, psM_s]
    by_cases e : op ≤ x
    · rw [if_pos e, if_pos (show nI op ≤ nI x by rw [q_le (by omega) (by omega)]; exact e), if_pos (q_in (i := r.length) (N := 40) (by omega) (by decide)), k_letS, f_app1 (by decide) (show O.1 < 40 by omega), k_b3S, psX_p, k_letS]
      exact f_mw hop r (pO O x 0) G' _ _ h1.2 (by omega) (by show r.length + (O.1 + 1) ≤ 40; omega) h4.2 (FC_push h5 x 0)
    · rw [if_neg e, if_neg (show ¬ nI op ≤ nI x by rw [q_le (by omega) (by omega)]; exact e)]
      exact ⟨st, nu, rfl, h5, h4⟩
theorem f_mwt (hfu : 100000 ≤ fu) {op : Nat} (hop : op ≤ 3) {wt : Nat → Int32} {W : List Nat} {O : F3} {st nu : Nat → Int32} (h1 : psOk W) (h3 : W.length + O.1 ≤ 40) (h4 : psS W wt) (h5 : FC O.1 O.2.1 O.2.2 (nI O.1) st nu) : ∃ st' nu', f_X2_moveWaiting fu 40 40 40 wt (nI op) (nI W.length) (nI O.1) st nu = some (nI (psM op W O).1.length, nI (psM op W O).2.1, st', nu') ∧ FC (psM op W O).2.1 (psM op W O).2.2.1 (psM op W O).2.2.2 (nI (psM op W O).2.1) st' nu' ∧ psS (psM op W O).1 wt := by
  unfold f_X2_moveWaiting
  rw [psX_m, k_letS]
  exact f_mw hop W O fu st nu h1 (by omega) h3 h4 h5
theorem f_rt_fault (G : Nat) (x2 ps ws op : Int32) (wt : Nat → Int32) (ds : Int32) (st nu : Nat → Int32) : f_X2_readText_26 fu 40 40 40 40 (nI tn) text (G + 1) 2 x2 ps ws op wt ds st nu = some (0, ps, ps, ws, op, wt, ds, st, nu) := by
  have e : f_X2_readText_70 fu 40 40 40 40 (nI tn) text 2 ps ws op wt ds st nu = some (0, ps, ps, ws, op, wt, ds, st, nu) := by
    unfold f_X2_readText_70 f_X2_readText_82
    rw [if_neg (by decide)]
  rw [fs_X2_readText_26, e]
  by_cases a : (40 : Int32) ≤ x2
  · rw [if_pos a]
  · rw [if_neg a]
    by_cases b : nI tn ≤ ps
    · rw [if_pos b]
    · rw [if_neg b, if_pos rfl]
theorem f_rt_fin (hfu : 100000 ≤ fu) (ht : tn ≤ 40) {m : Bool} {p : Nat} {W : List Nat} {O : F3} {wt st nu : Nat → Int32} (h1 : psOk W) (h2 : W.length + O.1 ≤ p) (h3 : p ≤ tn) (h4 : psS W wt) (h5 : FC O.1 O.2.1 O.2.2 (nI O.1) st nu) :
    ∃ (a1 a2 a3 : Int32) (a4 : Nat → Int32) (a5 : Int32) (a6 a7 : Nat → Int32), f_X2_readText_70 fu 40 40 40 40 (nI tn) text (nI (bv m)) (nI p) (nI W.length) (nI (psZ W)) wt (nI O.1) st nu = some (0, (if (psF m p W O).1 = true then -1 else nI (psF m p W O).2.1), a1, a2, a3, a4, a5, a6, a7) ∧ ((psF m p W O).1 = true → FC (psF m p W O).2.2.1 (psF m p W O).2.2.2.1 (psF m p W O).2.2.2.2 a5 a6 a7) := by
  have hz := psZ_le W
  unfold f_X2_readText_70 f_X2_readText_82
  cases m with
  | false =>
    have eF : psF false p W O = (false, p, O) := if_neg (fun q => by cases q.1)
    rw [if_neg (by decide), eF]
    exact ⟨_, _, _, _, _, _, _, rfl, fun q => by cases q⟩
  | true =>
    rw [if_pos (show nI (bv true) = 1 by decide)]
    by_cases z : psZ W = 0
    · obtain ⟨st', nu', e, hF, _⟩ := f_mwt (fu := fu) (op := 1) hfu (by decide) h1 (by omega) h4 h5
      have e' : f_X2_moveWaiting fu 40 40 40 wt 1 (nI W.length) (nI O.1) st nu = some (nI (psM 1 W O).1.length, nI (psM 1 W O).2.1, st', nu') := e
      have eF : psF true p W O = (true, p, (psM 1 W O).2) := if_pos ⟨rfl, z⟩
      rw [if_pos (show nI (psZ W) ≤ 0 by rw [z]; decide), e', k_b4S, eF]
      exact ⟨_, _, _, _, _, _, _, rfl, fun _ => hF⟩
    · have eF : psF true p W O = (false, p, O) := if_neg (fun q => z q.2)
      rw [if_neg (nI_nle (by omega) (by omega)), eF]
      exact ⟨_, _, _, _, _, _, _, rfl, fun q => by cases q⟩
theorem f_rt_loop (hfu : 100000 ≤ fu) (hT : psT tn tx text) : ∀ (n G k : Nat) (m : Bool) (p : Nat) (W : List Nat) (O : F3) (wt st nu : Nat → Int32), n + k = 40 → n < G → psOk W → W.length + O.1 ≤ p → p ≤ tn → psS W wt → FC O.1 O.2.1 O.2.2 (nI O.1) st nu →
    ∃ (a1 a2 a3 : Int32) (a4 : Nat → Int32) (a5 : Int32) (a6 a7 : Nat → Int32), f_X2_readText_26 fu 40 40 40 40 (nI tn) text G (nI (bv m)) (nI k) (nI p) (nI W.length) (nI (psZ W)) wt (nI O.1) st nu = some (0, (if (psA tn tx n m p W O).1 = true then -1 else nI (psA tn tx n m p W O).2.1), a1, a2, a3, a4, a5, a6, a7) ∧ ((psA tn tx n m p W O).1 = true → FC (psA tn tx n m p W O).2.2.1 (psA tn tx n m p W O).2.2.2.1 (psA tn tx n m p W O).2.2.2.2 a5 a6 a7) := by
  have h40 := hT.1
  intro n
  induction n with
  | zero =>
    intro G k m p W O wt st nu g1 g2 h1 h2 h3 h4 h5
    obtain ⟨G', rfl⟩ : ∃ G', G = G' + 1 := ⟨G - 1, by omega⟩
    have : k = 40 := by omega
    subst this
    rw [fs_X2_readText_26, if_pos (show (40 : Int32) ≤ nI 40 by decide)]
    exact f_rt_fin hfu h40 h1 h2 h3 h4 h5
  | succ n ih =>
    intro G k m p W O wt st nu g1 g2 h1 h2 h3 h4 h5
    obtain ⟨G', rfl⟩ : ∃ G', G = G' + 1 := ⟨G - 1, by omega⟩
    have hz := psZ_le W
    rw [fs_X2_readText_26, if_neg (show ¬ (40 : Int32) ≤ nI k by rw [show (40 : Int32) = nI 40 from rfl, q_le (by omega) (by omega)]; omega)]
    by_cases e : tn ≤ p
    · rw [if_pos (show nI tn ≤ nI p by rw [q_le (by omega) (by omega)]; exact e), psA_end _ e]
      exact f_rt_fin hfu h40 h1 h2 h3 h4 h5
    · obtain ⟨G2, rfl⟩ : ∃ G2, G' = G2 + 1 := ⟨G' - 1, by omega⟩
      have hc := psC_bd hT.2.1 p
      have ek : nI k + 1 = nI (k + 1) := by rw [q_1, q_add]
      rw [if_neg (show ¬ nI tn ≤ nI p by rw [q_le (by omega) (by omega)]; exact e)]
      cases m with
      | false =>
        rw [if_neg (by decide), if_pos (show nI (bv false) = 0 by decide)]
        unfold f_X2_readFactor f_X2_readText_63
        rw [c_at hT (by omega), k_b1S]
        by_cases e1 : psC tn tx p = 33
        · have eA : psA tn tx (n + 1) false p W O = psA tn tx n false (p + 1) (3 :: W) O := by rw [psA_s, if_neg e, if_pos rfl, if_pos e1]
          rw [if_pos (show nI (psC tn tx p) = 33 by rw [e1]; rfl), f_hold (by omega), k_b3S, k_b9S, if_pos rfl, ek, k_letS, eA, ← psZ_n (x := 3) (by decide) W]
          exact ih (G2 + 1) (k + 1) false (p + 1) (3 :: W) O (upd wt W.length 3) st nu (by omega) (by omega) ⟨Nat.le_refl _, h1⟩ (by show W.length + 1 + O.1 ≤ p + 1; omega) (by omega) ⟨by rw [q_upd, if_pos rfl]; rfl, psS_upd _ _ _ _ (Nat.le_refl _) h4⟩ h5
        · rw [if_neg (show ¬ nI (psC tn tx p) = 33 by rw [show (33 : Int32) = nI 33 from rfl, q_eq (by omega) (by omega)]; exact e1)]
          by_cases e2 : psC tn tx p = 40
          · have eA : psA tn tx (n + 1) false p W O = psA tn tx n false (p + 1) (0 :: W) O := by rw [psA_s, if_neg e, if_pos rfl, if_neg e1, if_pos e2]
            have ez : nI (psZ W) + 1 = nI (psZ (0 :: W)) := by rw [psZ_0, q_1, q_add]
            rw [if_pos (show nI (psC tn tx p) = 40 by rw [e2]; rfl), f_hold (by omega), k_b3S, k_b9S, if_pos rfl, ek, k_letS, eA, ez]
            exact ih (G2 + 1) (k + 1) false (p + 1) (0 :: W) O (upd wt W.length 0) st nu (by omega) (by omega) ⟨Nat.zero_le _, h1⟩ (by show W.length + 1 + O.1 ≤ p + 1; omega) (by omega) ⟨by rw [q_upd, if_pos rfl]; rfl, psS_upd _ _ _ _ (Nat.le_refl _) h4⟩ h5
          · rw [if_neg (show ¬ nI (psC tn tx p) = 40 by rw [show (40 : Int32) = nI 40 from rfl, q_eq (by omega) (by omega)]; exact e2), f_rc hfu hT h3 O (by omega)]
            by_cases e3 : (psK tn tx p).1 = true
            · have eA : psA tn tx (n + 1) false p W O = psA tn tx n true (psK tn tx p).2.1 W (pO O (psK tn tx p).2.2.1 (psK tn tx p).2.2.2) := by rw [psA_s, if_neg e, if_pos rfl, if_neg e1, if_neg e2, if_pos e3]
              obtain ⟨k1, k2, k3, k4, k5, k6⟩ := psK_b e3
              rw [if_pos e3, k_b6S, if_pos rfl, if_neg (by decide), k_b9S, if_pos rfl, ek, k_letS, eA]
              exact ih (G2 + 1) (k + 1) true (psK tn tx p).2.1 W (pO O (psK tn tx p).2.2.1 (psK tn tx p).2.2.2) wt _ _ (by omega) (by omega) h1 (by show W.length + (O.1 + 1) ≤ _; omega) k2 h4 (FC_push h5 _ _)
            · have eA : psA tn tx (n + 1) false p W O = (false, (psK tn tx p).2.1, O) := by rw [psA_s, if_neg e, if_pos rfl, if_neg e1, if_neg e2, if_neg e3]
              rw [if_neg e3, k_b6S, if_pos rfl, if_pos rfl, k_b9S, if_pos rfl, ek, k_letS, eA, f_rt_fault]
              exact ⟨_, _, _, _, _, _, _, rfl, fun q => by cases q⟩
      | true =>
        rw [if_neg (by decide), if_neg (by decide)]
        unfold f_X2_readBehindFactor f_X2_readText_63
        rw [c_at hT (by omega), k_b1S]
        by_cases e1 : psC tn tx p = 38
        · have eA : psA tn tx (n + 1) true p W O = psA tn tx n false (p + 1) (2 :: (psM 2 W O).1) (psM 2 W O).2 := by rw [psA_s, if_neg e, if_neg (by decide), if_pos e1]
          obtain ⟨st', nu', f1, f2, f3⟩ := f_mwt (fu := fu) (op := 2) hfu (by decide) h1 (by omega) h4 h5
          have f1' : f_X2_moveWaiting fu 40 40 40 wt 2 (nI W.length) (nI O.1) st nu = some (nI (psM 2 W O).1.length, nI (psM 2 W O).2.1, st', nu') := f1
          have hl := psM_len 2 W O
          rw [if_pos (show nI (psC tn tx p) = 38 by rw [e1]; rfl), f1', k_b4S, f_hold (by omega), k_b3S, k_b8S, ek, k_letS, eA, ← psM_z (op := 2) (by decide) W O, ← psZ_n (x := 2) (by decide) (psM 2 W O).1]
          exact ih (G2 + 1) (k + 1) false (p + 1) (2 :: (psM 2 W O).1) (psM 2 W O).2 (upd wt (psM 2 W O).1.length 2) st' nu' (by omega) (by omega) ⟨by decide, psM_ok 2 W O h1⟩ (by show (psM 2 W O).1.length + 1 + (psM 2 W O).2.1 ≤ p + 1; omega) (by omega) ⟨by rw [q_upd, if_pos rfl]; rfl, psS_upd _ _ _ _ (Nat.le_refl _) f3⟩ f2
        · rw [if_neg (show ¬ nI (psC tn tx p) = 38 by rw [show (38 : Int32) = nI 38 from rfl, q_eq (by omega) (by omega)]; exact e1)]
          obtain ⟨st', nu', f1, f2, f3⟩ := f_mwt (fu := fu) (op := 1) hfu (by decide) h1 (by omega) h4 h5
          have f1' : f_X2_moveWaiting fu 40 40 40 wt 1 (nI W.length) (nI O.1) st nu = some (nI (psM 1 W O).1.length, nI (psM 1 W O).2.1, st', nu') := f1
          have hl := psM_len 1 W O
          by_cases e2 : psC tn tx p = 124
          · have eA : psA tn tx (n + 1) true p W O = psA tn tx n false (p + 1) (1 :: (psM 1 W O).1) (psM 1 W O).2 := by rw [psA_s, if_neg e, if_neg (by decide), if_neg e1, if_pos e2]
            rw [if_pos (show nI (psC tn tx p) = 124 by rw [e2]; rfl), f1', k_b4S, f_hold (by omega), k_b3S, k_b8S, ek, k_letS, eA, ← psM_z (op := 1) (by decide) W O, ← psZ_n (x := 1) (by decide) (psM 1 W O).1]
            exact ih (G2 + 1) (k + 1) false (p + 1) (1 :: (psM 1 W O).1) (psM 1 W O).2 (upd wt (psM 1 W O).1.length 1) st' nu' (by omega) (by omega) ⟨by decide, psM_ok 1 W O h1⟩ (by show (psM 1 W O).1.length + 1 + (psM 1 W O).2.1 ≤ p + 1; omega) (by omega) ⟨by rw [q_upd, if_pos rfl]; rfl, psS_upd _ _ _ _ (Nat.le_refl _) f3⟩ f2
          · rw [if_neg (show ¬ nI (psC tn tx p) = 124 by rw [show (124 : Int32) = nI 124 from rfl, q_eq (by omega) (by omega)]; exact e2)]
            by_cases e3 : psC tn tx p = 41 ∧ 0 < psZ W
            · obtain ⟨r, hr⟩ := psM_hd W O e3.2
              have hz1 := psM_z (op := 1) (by decide) W O
              have hok := psM_ok 1 W O h1
              have eA : psA tn tx (n + 1) true p W O = psA tn tx n true (p + 1) r (psM 1 W O).2 := by rw [psA_s, if_neg e, if_neg (by decide), if_neg e1, if_neg e2, if_pos e3, hr]; rfl
              rw [hr] at f1' f3 hl hz1 hok
              rw [psZ_0] at hz1
              have hl' : r.length + 1 + (psM 1 W O).2.1 = W.length + O.1 := hl
              have es : nI (0 :: r).length - 1 = nI r.length := nI_pred r.length
              have ez : nI (psZ W) - 1 = nI (psZ r) := by rw [← hz1]; exact nI_pred (psZ r)
              have ep : nI p + 1 = nI (p + 1) := by rw [q_1, q_add]
              unfold f_X2_readClosing
              rw [if_pos (show nI (psC tn tx p) = 41 by rw [e3.1]; rfl), if_neg (nI_nle e3.2 (by omega)), f1', k_b4S, k_b7S, k_b8S, ek, k_letS, eA, es, ez, ep]
              exact ih (G2 + 1) (k + 1) true (p + 1) r (psM 1 W O).2 wt st' nu' (by omega) (by omega) hok.2 (by omega) (by omega) f3.2 f2
            · have eA : psA tn tx (n + 1) true p W O = (false, p, O) := by rw [psA_s, if_neg e, if_neg (by decide), if_neg e1, if_neg e2, if_neg e3]
              have fin : f_X2_readText_26 fu 40 40 40 40 (nI tn) text (G2 + 1) 2 (nI (k + 1)) (nI p) (nI W.length) (nI (psZ W)) wt (nI O.1) st nu = some (0, nI p, nI p, nI W.length, nI (psZ W), wt, nI O.1, st, nu) := f_rt_fault _ _ _ _ _ _ _ _ _
              by_cases e4 : psC tn tx p = 41
              · have z0 : psZ W = 0 := by
                  rcases Nat.eq_zero_or_pos (psZ W) with q | q
                  · exact q
                  · exact absurd ⟨e4, q⟩ e3
                rw [if_pos (show nI (psC tn tx p) = 41 by rw [e4]; rfl), if_pos (show nI (psZ W) ≤ 0 by rw [z0]; decide), k_b8S, ek, k_letS, eA, fin]
                exact ⟨_, _, _, _, _, _, _, rfl, fun q => by cases q⟩
              · rw [if_neg (show ¬ nI (psC tn tx p) = 41 by rw [show (41 : Int32) = nI 41 from rfl, q_eq (by omega) (by omega)]; exact e4), k_b8S, ek, k_letS, eA, fin]
                exact ⟨_, _, _, _, _, _, _, rfl, fun q => by cases q⟩
/-- the class reads a text -/
theorem f_readText (hfu : 100000 ≤ fu) (hT : psT tn tx text) (ps ws op : Int32) (wt : Nat → Int32) (ds : Int32) (st nu : Nat → Int32) (O : F3) (hO : O.1 = 0) :
    ∃ (a1 a2 a3 : Int32) (a4 : Nat → Int32) (a5 : Int32) (a6 a7 : Nat → Int32), f_X2_readText fu 40 40 40 40 (nI tn) text ps ws op wt ds st nu = some (0, (if (psA tn tx 40 false 0 [] O).1 = true then -1 else nI (psA tn tx 40 false 0 [] O).2.1), a1, a2, a3, a4, a5, a6, a7) ∧ ((psA tn tx 40 false 0 [] O).1 = true → FC (psA tn tx 40 false 0 [] O).2.2.1 (psA tn tx 40 false 0 [] O).2.2.2.1 (psA tn tx 40 false 0 [] O).2.2.2.2 a5 a6 a7) := by
  have hF : FC O.1 O.2.1 O.2.2 (nI O.1) st nu := ⟨rfl, fun i hi => by omega⟩
  obtain ⟨a1, a2, a3, a4, a5, a6, a7, e, h⟩ := f_rt_loop (fu := fu) hfu hT 40 fu 0 false 0 [] O wt st nu (by omega) (by omega) trivial (by show 0 + O.1 ≤ 0; omega) (by omega) trivial hF
  refine ⟨a1, a2, a3, a4, a5, a6, a7, ?_, h⟩
  rw [hO] at e
  unfold f_X2_readText f_X1_clear
  rw [k_b1S]
  exact e
end PSC
