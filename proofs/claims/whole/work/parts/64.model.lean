def NZ (D : Nat → Int) (c : Nat) : Bool := decide (D c ≠ 0)
def HIT (v : Int32) (D : Nat → Int) (c : Nat) : Prop := D c ≠ 0 ∧ v = nI (fb_ct (NZ D) c)
theorem NZ_t {D : Nat → Int} {c : Nat} (h : D c ≠ 0) : fb_ct (NZ D) (c + 1) = fb_ct (NZ D) c + 1 := by rw [fb_ct_succ, show NZ D c = true from decide_eq_true h]; rfl
theorem NZ_f {D : Nat → Int} {c : Nat} (h : D c = 0) : fb_ct (NZ D) (c + 1) = fb_ct (NZ D) c := by rw [fb_ct_succ, show NZ D c = false from decide_eq_false (fun q => q h)]; rfl
section GOES
variable {fu : Nat} {rows size filter : Nat → Int32} {fsize v1 v2 : Int32} {D : Nat → Int}
set_option maxRecDepth 100000 in
theorem f_goes_in {kg : Nat} (hkg : kg < 60) {x5 ic fk fg fp fm : Int32} (hx5 : x5 = 1) {stack cs : Nat → Int32} (hcs : ∀ p, p < 1783 → cs p = zI (D (kg * 1783 + p))) (hD : ∀ c, -1000000 ≤ D c ∧ D c ≤ 1000000) (K : Int32 → Int32 → Int32 → Int32 → Int32 → Int32 → Int32 → (Nat → Int32) → (Nat → Int32) → Option (Int32 × Int32 × Int32 × Int32 × Int32 × Int32 × (Nat → Int32) × (Nat → Int32))) :
    ∀ (d G k : Nat), d + k = 1783 → d < G →
    (∃ c, kg * 1783 + k ≤ c ∧ c < kg * 1783 + 1783 ∧ HIT v1 D c ∧ f_X9_goesTo_63 fu 960 16 40 40 1783 fsize rows size filter v1 v2 K G (nI (fb_ct (NZ D) (kg * 1783 + k))) (nI kg) x5 (nI k) fk fg fp fm ic stack cs = some (v1, nI (c / 1783 / 6), nI (c / 1783 % 6), zI (jp c), zI (D c), ic, stack, cs)) ∨
    ((∀ c, kg * 1783 + k ≤ c → c < kg * 1783 + 1783 → ¬ HIT v1 D c) ∧ f_X9_goesTo_63 fu 960 16 40 40 1783 fsize rows size filter v1 v2 K G (nI (fb_ct (NZ D) (kg * 1783 + k))) (nI kg) x5 (nI k) fk fg fp fm ic stack cs = K (nI (fb_ct (NZ D) (kg * 1783 + 1783))) (nI (kg + 1)) fk fg fp fm ic stack cs) := by
  subst hx5
  intro d
  induction d with
  | zero =>
    intro G k h1 h2
    obtain ⟨G', rfl⟩ : ∃ G', G = G' + 1 := ⟨G - 1, by omega⟩
    have : k = 1783 := by omega
    subst this
    refine Or.inr ⟨fun c a b => by omega, ?_⟩
    rw [fs_X9_goesTo_63, if_neg (by decide), if_pos (show (1783 : Int32) ≤ nI 1783 by decide)]
    unfold f_X9_goesTo_144
    rw [k_letS, q_1, q_add]
  | succ d ih =>
    intro G k h1 h2
    obtain ⟨G', rfl⟩ : ∃ G', G = G' + 1 := ⟨G - 1, by omega⟩
    have hb := hD (kg * 1783 + k)
    rw [fs_X9_goesTo_63, if_neg (by decide), if_neg (by rw [show (1783 : Int32) = nI 1783 from rfl, q_le (by omega) (by omega)]; omega), if_pos (nI_in (by omega) (by decide)), q_cl (by omega), hcs k (by omega), k_letS]
    by_cases z : D (kg * 1783 + k) = 0
    · rw [if_pos (by rw [z]; rfl)]
      unfold f_X9_goesTo_138
      rw [k_letS, q_1, q_add, ← NZ_f z]
      rcases ih G' (k + 1) (by omega) (by omega) with ⟨c, a1, a2, a3, a4⟩ | ⟨a1, a2⟩
      · exact Or.inl ⟨c, by omega, a2, a3, a4⟩
      · refine Or.inr ⟨fun c b1 b2 b3 => ?_, a2⟩
        by_cases y : c = kg * 1783 + k
        · rw [y] at b3; exact b3.1 z
        · exact a1 c (by omega) b2 b3
    · rw [if_neg (fun q => z ((zI_z (by omega) (by omega)).mp q))]
      by_cases w : nI (fb_ct (NZ D) (kg * 1783 + k)) = v1
      · rw [if_pos w]
        refine Or.inl ⟨kg * 1783 + k, Nat.le_refl _, by omega, ⟨z, w.symm⟩, ?_⟩
        unfold f_X9_goesTo_94
        have e1 : nI kg - nI kg / 6 * 6 = nI (kg % 6) := pk_rem (d := 6) (by omega) (by decide) (by decide)
        have e2 : nI kg / 6 = nI (kg / 6) := q_div (d := 6) (by omega) (by decide) (by decide)
        have e3 : nI k - 891 = zI (jp (kg * 1783 + k)) := by
          have := nI_sub_z k 891
          refine Eq.trans this ?_
          unfold jp; congr 1; omega
        rw [e1, k_letS, if_pos (nI_in (by omega) (by decide)), q_cl (by omega), hcs k (by omega), k_letS, e2, e3, w, show (kg * 1783 + k) / 1783 = kg by omega]
      · rw [if_neg w, q_1, q_add, k_letS]
        unfold f_X9_goesTo_138
        rw [k_letS, q_1, q_add, ← NZ_t z]
        rcases ih G' (k + 1) (by omega) (by omega) with ⟨c, a1, a2, a3, a4⟩ | ⟨a1, a2⟩
        · exact Or.inl ⟨c, by omega, a2, a3, a4⟩
        · refine Or.inr ⟨fun c b1 b2 b3 => ?_, a2⟩
          by_cases y : c = kg * 1783 + k
          · rw [y] at b3; exact w b3.2.symm
          · exact a1 c (by omega) b2 b3
variable {mt : Nat → Nat → Bool} {mL mR oL oR : Nat → Int}
theorem selK_ok (kg : Nat) (hkg : kg < 60) : ∀ l, l < 11940 → ∀ (a b : Option (Int32 × Int32 × (Nat → Int32) × (Nat → Int32))), (if nI (lg l) = nI (kg % 6) then (if nI (kg / 6) < 0 then a else (if nI (lk l) = nI (kg / 6) then a else b)) else b) = if selK kg l = true then a else b := by
  intro l hl a b
  have h1 : lg l < 6 := Nat.mod_lt _ (by decide)
  have h2 : lk l < 10 := by unfold lk; omega
  rw [if_neg (show ¬ nI (kg / 6) < 0 from nI_pos (by omega))]
  have hx : l / 199 = kg ↔ lg l = kg % 6 ∧ lk l = kg / 6 := by unfold lg lk; omega
  by_cases e : l / 199 = kg
  · rw [if_pos (show selK kg l = true from decide_eq_true e), if_pos (by rw [(hx.mp e).1]), if_pos (by rw [(hx.mp e).2])]
  · rw [if_neg (show ¬ selK kg l = true from fun q => e (of_decide_eq_true q))]
    by_cases y : lg l = kg % 6
    · rw [if_pos (by rw [y]), if_neg (by rw [q_eq (by omega) (by omega)]; exact fun q => e (hx.mpr ⟨y, q⟩))]
    · rw [if_neg (by rw [q_eq (by omega) (by omega)]; exact y)]
/-- the rows that are gone through: of the join, or of its change -/
def DD (ch : Bool) (mt : Nat → Nat → Bool) (mL mR oL oR : Nat → Int) (c : Nat) : Int := if ch = true then JJ mt mL mR c - JJ mt oL oR c else JJ mt mL mR c
set_option maxRecDepth 100000 in
theorem f_goes_out (hfu : 100000 ≤ fu) (h0 : R2 0 mL mR rows size) (h4 : R2 4 oL oR rows size) (hM : HM9 fu mt fsize filter) {ch : Bool} (hch : v2 = nI (bv ch)) (hD : ∀ c, -1000000 ≤ DD ch mt mL mR oL oR c ∧ DD ch mt mL mR oL oR c ≤ 1000000) :
    ∀ (d G kg : Nat) (fk fg fp fm ic : Int32) (stack cs : Nat → Int32), d + kg = 60 → d < G → CL ic cs →
    ∃ (res fk' fg' fp' fm' ic' : Int32) (stack' cs' : Nat → Int32), f_X9_goesTo_5 fu 960 16 40 40 1783 fsize rows size filter v1 v2 G (nI (fb_ct (NZ (DD ch mt mL mR oL oR)) (kg * 1783))) (nI kg) fk fg fp fm ic stack cs = some (res, fk', fg', fp', fm', ic', stack', cs') ∧ CL ic' cs' ∧
      ((∃ c, c < 106980 ∧ HIT v1 (DD ch mt mL mR oL oR) c ∧ res = v1 ∧ fk' = nI (c / 1783 / 6) ∧ fg' = nI (c / 1783 % 6) ∧ fp' = zI (jp c) ∧ fm' = zI (DD ch mt mL mR oL oR c)) ∨ ((∀ c, kg * 1783 ≤ c → c < 106980 → ¬ HIT v1 (DD ch mt mL mR oL oR) c) ∧ res = nI (fb_ct (NZ (DD ch mt mL mR oL oR)) 106980))) := by
  intro d
  induction d with
  | zero =>
    intro G kg fk fg fp fm ic stack cs h1 h2 h3
    obtain ⟨G', rfl⟩ : ∃ G', G = G' + 1 := ⟨G - 1, by omega⟩
    have : kg = 60 := by omega
    subst this
    refine ⟨_, fk, fg, fp, fm, ic, stack, cs, by rw [fs_X9_goesTo_5, if_pos (show (60 : Int32) ≤ nI 60 by decide)], h3, Or.inr ⟨fun c a b => by omega, rfl⟩⟩
  | succ d ih =>
    intro G kg fk fg fp fm ic stack cs h1 h2 h3
    obtain ⟨G', rfl⟩ : ∃ G', G = G' + 1 := ⟨G - 1, by omega⟩
    have e1 : nI kg - nI kg / 6 * 6 = nI (kg % 6) := pk_rem (d := 6) (by omega) (by decide) (by decide)
    have e2 : nI kg / 6 = nI (kg / 6) := q_div (d := 6) (by omega) (by decide) (by decide)
    obtain ⟨cs0, f1, z0⟩ := f_clears (fu := fu) hfu h3
    obtain ⟨xa, ica, sta, csa, f2, g2⟩ := f_counts (fu := fu) (by_ := 1) (v2 := nI (kg / 6)) (v3 := nI (kg % 6)) hfu (by decide) h0 hM (selK kg) (selK_ok kg (by omega)) 1 stack cs0
    have f2' : f_X9_counts fu 960 16 40 40 1783 fsize rows size filter 0 (nI (kg / 6)) (nI (kg % 6)) 1 1 stack cs0 = some (xa, ica, sta, csa) := f2
    have cl0 : CL 1 cs0 := Or.inr ⟨rfl, z0⟩
    have cla := g2.cl cl0
    -- what is left, once the counts stand
    have fin : ∀ (x5 ic1 : Int32) (st1 cs1 : Nat → Int32), CL ic1 cs1 → (∀ p, p < 1783 → cs1 p = zI (DD ch mt mL mR oL oR (kg * 1783 + p))) → (x5 = 1 ∨ (x5 = 0 ∧ ∀ p, p < 1783 → DD ch mt mL mR oL oR (kg * 1783 + p) = 0)) →
        ∃ (res fk' fg' fp' fm' ic' : Int32) (stack' cs' : Nat → Int32), f_X9_goesTo_60 fu 960 16 40 40 1783 fsize rows size filter v1 v2 (f_X9_goesTo_5 fu 960 16 40 40 1783 fsize rows size filter v1 v2 G') (nI (fb_ct (NZ (DD ch mt mL mR oL oR)) (kg * 1783))) (nI kg) x5 fk fg fp fm ic1 st1 cs1 = some (res, fk', fg', fp', fm', ic', stack', cs') ∧ CL ic' cs' ∧
      ((∃ c, c < 106980 ∧ HIT v1 (DD ch mt mL mR oL oR) c ∧ res = v1 ∧ fk' = nI (c / 1783 / 6) ∧ fg' = nI (c / 1783 % 6) ∧ fp' = zI (jp c) ∧ fm' = zI (DD ch mt mL mR oL oR c)) ∨ ((∀ c, kg * 1783 ≤ c → c < 106980 → ¬ HIT v1 (DD ch mt mL mR oL oR) c) ∧ res = nI (fb_ct (NZ (DD ch mt mL mR oL oR)) 106980))) := by
      intro x5 ic1 st1 cs1 hcl hcs hx
      have nxt : ∀ (hno : ∀ c, kg * 1783 ≤ c → c < kg * 1783 + 1783 → ¬ HIT v1 (DD ch mt mL mR oL oR) c), ∃ (res fk' fg' fp' fm' ic' : Int32) (stack' cs' : Nat → Int32), f_X9_goesTo_5 fu 960 16 40 40 1783 fsize rows size filter v1 v2 G' (nI (fb_ct (NZ (DD ch mt mL mR oL oR)) (kg * 1783 + 1783))) (nI (kg + 1)) fk fg fp fm ic1 st1 cs1 = some (res, fk', fg', fp', fm', ic', stack', cs') ∧ CL ic' cs' ∧
      ((∃ c, c < 106980 ∧ HIT v1 (DD ch mt mL mR oL oR) c ∧ res = v1 ∧ fk' = nI (c / 1783 / 6) ∧ fg' = nI (c / 1783 % 6) ∧ fp' = zI (jp c) ∧ fm' = zI (DD ch mt mL mR oL oR c)) ∨ ((∀ c, kg * 1783 ≤ c → c < 106980 → ¬ HIT v1 (DD ch mt mL mR oL oR) c) ∧ res = nI (fb_ct (NZ (DD ch mt mL mR oL oR)) 106980))) := by
        intro hno
        obtain ⟨res, fk', fg', fp', fm', ic', st', cs', a1, a2, a3⟩ := ih G' (kg + 1) fk fg fp fm ic1 st1 cs1 (by omega) (by omega) hcl
        refine ⟨res, fk', fg', fp', fm', ic', st', cs', by rw [show kg * 1783 + 1783 = (kg + 1) * 1783 by omega]; exact a1, a2, ?_⟩
        rcases a3 with a3 | ⟨a3, a4⟩
        · exact Or.inl a3
        · refine Or.inr ⟨fun c b1 b2 => ?_, a4⟩
          by_cases y : c < kg * 1783 + 1783
          · exact hno c b1 y
          · exact a3 c (by omega) b2
      unfold f_X9_goesTo_60
      rcases hx with hx | ⟨hx, hz⟩
      · rcases f_goes_in (fu := fu) (rows := rows) (size := size) (filter := filter) (fsize := fsize) (v1 := v1) (v2 := v2) (D := DD ch mt mL mR oL oR) (kg := kg) (by omega) hx (stack := st1) (ic := ic1) (fk := fk) (fg := fg) (fp := fp) (fm := fm) hcs hD (f_X9_goesTo_5 fu 960 16 40 40 1783 fsize rows size filter v1 v2 G') 1783 fu 0 (by omega) (by omega) with ⟨c, b1, b2, b3, b4⟩ | ⟨b1, b2⟩
        · exact ⟨_, _, _, _, _, _, _, _, b4, hcl, Or.inl ⟨c, by omega, b3, rfl, rfl, rfl, rfl, rfl⟩⟩
        · have b2' : f_X9_goesTo_63 fu 960 16 40 40 1783 fsize rows size filter v1 v2 (f_X9_goesTo_5 fu 960 16 40 40 1783 fsize rows size filter v1 v2 G') fu (nI (fb_ct (NZ (DD ch mt mL mR oL oR)) (kg * 1783))) (nI kg) x5 0 fk fg fp fm ic1 st1 cs1 = _ := b2
          rw [b2']
          exact nxt b1
      · obtain ⟨G2, hG2⟩ : ∃ G2, fu = G2 + 1 := ⟨fu - 1, by omega⟩
        have e5 : f_X9_goesTo_63 fu 960 16 40 40 1783 fsize rows size filter v1 v2 (f_X9_goesTo_5 fu 960 16 40 40 1783 fsize rows size filter v1 v2 G') fu (nI (fb_ct (NZ (DD ch mt mL mR oL oR)) (kg * 1783))) (nI kg) x5 0 fk fg fp fm ic1 st1 cs1 = f_X9_goesTo_5 fu 960 16 40 40 1783 fsize rows size filter v1 v2 G' (nI (fb_ct (NZ (DD ch mt mL mR oL oR)) (kg * 1783 + 1783))) (nI (kg + 1)) fk fg fp fm ic1 st1 cs1 := by
          have e6 : fb_ct (NZ (DD ch mt mL mR oL oR)) (kg * 1783 + 1783) = fb_ct (NZ (DD ch mt mL mR oL oR)) (kg * 1783) := by
            rw [fb_ct_split]
            have : fb_ct (fun k => NZ (DD ch mt mL mR oL oR) (kg * 1783 + k)) 1783 = 0 := fb_ct_zero.mpr (fun k hk => decide_eq_false (fun q => q (hz k hk)))
            omega
          rw [e6, hx]
          have step : ∀ G3, f_X9_goesTo_63 fu 960 16 40 40 1783 fsize rows size filter v1 v2 (f_X9_goesTo_5 fu 960 16 40 40 1783 fsize rows size filter v1 v2 G') (G3 + 1) (nI (fb_ct (NZ (DD ch mt mL mR oL oR)) (kg * 1783))) (nI kg) 0 0 fk fg fp fm ic1 st1 cs1 = f_X9_goesTo_5 fu 960 16 40 40 1783 fsize rows size filter v1 v2 G' (nI (fb_ct (NZ (DD ch mt mL mR oL oR)) (kg * 1783))) (nI (kg + 1)) fk fg fp fm ic1 st1 cs1 := by
            intro G3
            rw [fs_X9_goesTo_63, if_pos rfl]
            unfold f_X9_goesTo_144
            rw [k_letS, q_1, q_add]
          have := step G2
          rw [← hG2] at this
          exact this
        rw [e5]
        exact nxt (fun c a b q => q.1 (by have := hz (c - kg * 1783) (by omega); rw [show kg * 1783 + (c - kg * 1783) = c by omega] at this; exact this))
    rw [fs_X9_goesTo_5, if_neg (by rw [show (60 : Int32) = nI 60 from rfl, q_le (by omega) (by omega)]; omega), f1, k_b2S, e1, e2, k_letS, f2', k_b4S]
    have va : ∀ p, p < 1783 → csa p = zI (JJ mt mL mR (kg * 1783 + p)) := fun p hp => by
      rw [g2.1 p hp, z0 p hp, CW_K _ _ _ _ _ hp, Int.one_mul]
      show zI 0 + zI _ = _
      rw [zI_add, Int.zero_add]
    cases hc : ch with
    | false =>
      rw [hc] at hch fin
      rw [if_pos (show v2 = 0 by rw [hch]; rfl)]
      rw [hc] at ih
      refine fin xa ica sta csa cla (fun p hp => va p hp) ?_
      rcases g2.2 with ⟨a, _, z⟩ | ⟨a, _⟩
      · refine Or.inr ⟨a, fun p hp => ?_⟩
        have := z p
        rw [CW_K _ _ _ _ _ hp] at this
        exact this
      · exact Or.inl a
    | true =>
      rw [hc] at hch fin
      obtain ⟨xb, icb, stb, csb, f3, g3⟩ := f_counts (fu := fu) (by_ := -1) (v2 := nI (kg / 6)) (v3 := nI (kg % 6)) hfu (by decide) h4 hM (selK kg) (selK_ok kg (by omega)) ica sta csa
      have f3' : f_X9_counts fu 960 16 40 40 1783 fsize rows size filter 4 (nI (kg / 6)) (nI (kg % 6)) (-1) ica sta csa = some (xb, icb, stb, csb) := f3
      have clb := g3.cl cla
      have vb : ∀ p, p < 1783 → csb p = zI (DD true mt mL mR oL oR (kg * 1783 + p)) := fun p hp => by
        rw [g3.1 p hp, va p hp, CW_K _ _ _ _ _ hp, zI_add]
        congr 1
        show _ = JJ mt mL mR (kg * 1783 + p) - JJ mt oL oR (kg * 1783 + p)
        omega
      rw [if_neg (show ¬ v2 = 0 by rw [hch]; decide), k_letS, f3', k_b4S]
      rcases g3.2 with ⟨b, _, zb⟩ | ⟨b, _⟩
      · rw [if_pos b]
        refine fin xa icb stb csb clb vb ?_
        rcases g2.2 with ⟨a, _, z⟩ | ⟨a, _⟩
        · refine Or.inr ⟨a, fun p hp => ?_⟩
          have t1 := z p
          have t2 := zb p
          rw [CW_K _ _ _ _ _ hp] at t1 t2
          show JJ mt mL mR (kg * 1783 + p) - JJ mt oL oR (kg * 1783 + p) = 0
          omega
        · exact Or.inl a
      · rw [if_neg (show ¬ xb = 0 by rw [b]; decide)]
        exact fin 1 icb stb csb clb vb (Or.inl rfl)
end GOES
