theorem k_b5S {t0 t1 t2 t3 t4 γ : Type} (x0 : t0) (x1 : t1) (x2 : t2) (x3 : t3) (x4 : t4) (f : t0 → t1 → t2 → t3 → t4 → Option γ) : k_b5 (some (x0, x1, x2, x3, x4)) f = f x0 x1 x2 x3 x4 := rfl
theorem k_b6S {t0 t1 t2 t3 t4 t5 γ : Type} (x0 : t0) (x1 : t1) (x2 : t2) (x3 : t3) (x4 : t4) (x5 : t5) (f : t0 → t1 → t2 → t3 → t4 → t5 → Option γ) : k_b6 (some (x0, x1, x2, x3, x4, x5)) f = f x0 x1 x2 x3 x4 x5 := rfl
theorem k_b7S {t0 t1 t2 t3 t4 t5 t6 γ : Type} (x0 : t0) (x1 : t1) (x2 : t2) (x3 : t3) (x4 : t4) (x5 : t5) (x6 : t6) (f : t0 → t1 → t2 → t3 → t4 → t5 → t6 → Option γ) : k_b7 (some (x0, x1, x2, x3, x4, x5, x6)) f = f x0 x1 x2 x3 x4 x5 x6 := rfl
theorem k_b8S {t0 t1 t2 t3 t4 t5 t6 t7 γ : Type} (x0 : t0) (x1 : t1) (x2 : t2) (x3 : t3) (x4 : t4) (x5 : t5) (x6 : t6) (x7 : t7) (f : t0 → t1 → t2 → t3 → t4 → t5 → t6 → t7 → Option γ) : k_b8 (some (x0, x1, x2, x3, x4, x5, x6, x7)) f = f x0 x1 x2 x3 x4 x5 x6 x7 := rfl
theorem k_b9S {t0 t1 t2 t3 t4 t5 t6 t7 t8 γ : Type} (x0 : t0) (x1 : t1) (x2 : t2) (x3 : t3) (x4 : t4) (x5 : t5) (x6 : t6) (x7 : t7) (x8 : t8) (f : t0 → t1 → t2 → t3 → t4 → t5 → t6 → t7 → t8 → Option γ) : k_b9 (some (x0, x1, x2, x3, x4, x5, x6, x7, x8)) f = f x0 x1 x2 x3 x4 x5 x6 x7 x8 := rfl
section FND
variable {fu t : Nat} {mL mR : Nat → Int} {rows size filter : Nat → Int32} {fsize : Int32} {mt : Nat → Nat → Bool}
theorem selG_ok {g : Nat} (hg : g < 6) : ∀ l, l < 11940 → ∀ (a b : Option (Int32 × Int32 × (Nat → Int32) × (Nat → Int32))), (if nI (lg l) = nI g then (if (-1 : Int32) < 0 then a else (if nI (lk l) = -1 then a else b)) else b) = if selG g l = true then a else b := by
  intro l hl a b
  have h1 : lg l < 6 := by unfold lg; omega
  rw [if_pos (show (-1 : Int32) < 0 by decide)]
  by_cases e : lg l = g
  · rw [if_pos (show selG g l = true from decide_eq_true e), if_pos (by rw [e])]
  · rw [if_neg (show ¬ selG g l = true from fun q => e (of_decide_eq_true q)), if_neg (by rw [q_eq (by omega) (by omega)]; exact e)]
theorem f_findGroup_loop {v1 v2 ic : Int32} {stack cs : Nat → Int32} {T : Nat → Int} (hcs : ∀ p, p < 1783 → cs p = zI (T p)) : ∀ (d G j : Nat) (gr gt : Int32), d + j = 1783 → d < G → gr = zI (fb_si T j) → gt = zI (fb_si (fun p => T p * ((p : Int) - 891)) j) →
    f_X9_findGroup_25 fu 960 16 40 40 1783 fsize rows size filter v1 v2 G (nI j) ic gr gt stack cs = some (ic, zI (fb_si T 1783), zI (fb_si (fun p => T p * ((p : Int) - 891)) 1783), stack, cs) := by
  intro d
  induction d with
  | zero =>
    intro G j gr gt h1 h2 h3 h4
    obtain ⟨G', rfl⟩ : ∃ G', G = G' + 1 := ⟨G - 1, by omega⟩
    have : j = 1783 := by omega
    subst this
    rw [fs_X9_findGroup_25, if_pos (show (1783 : Int32) ≤ nI 1783 by decide), h3, h4]
  | succ d ih =>
    intro G j gr gt h1 h2 h3 h4
    obtain ⟨G', rfl⟩ : ∃ G', G = G' + 1 := ⟨G - 1, by omega⟩
    rw [fs_X9_findGroup_25, if_neg (show ¬ (1783 : Int32) ≤ nI j by rw [show (1783 : Int32) = nI 1783 from rfl, q_le (by omega) (by omega)]; omega), if_pos (nI_in (c := j) (N := 1783) (by omega) (by decide)), k_letS, if_pos (nI_in (c := j) (N := 1783) (by omega) (by decide)), k_letS, k_letS, q_cl (by omega), q_1, q_add]
    refine ih G' (j + 1) _ _ (by omega) (by omega) ?_ ?_
    · rw [h3, hcs j (by omega), zI_add, fb_si_succ]
    · rw [h4, hcs j (by omega), show nI j - 891 = zI ((j : Int) - 891) by rw [← zI_nat, show (891 : Int32) = zI 891 from rfl, zI_sub], zI_mul, zI_add, fb_si_succ]
theorem f_findGroup (hfu : 100000 ≤ fu) (ht : t + 1 < 16) (h2 : R2 t mL mR rows size) (hM : HM9 fu mt fsize filter) {g : Nat} (hg : g < 6) {ic : Int32} {cs : Nat → Int32} (hcl : CL ic cs) (gr gt : Int32) (stack : Nat → Int32) :
    ∃ ic' st' cs', f_X9_findGroup fu 960 16 40 40 1783 fsize rows size filter (nI t) (nI g) ic gr gt stack cs = some (ic', zI (GS (JJ mt mL mR) g), zI (GT (JJ mt mL mR) g), st', cs') ∧ CL ic' cs' ∧ ∀ p, p < 1783 → cs' p = zI (TL (JJ mt mL mR) g p) := by
  obtain ⟨cs0, f1, z0⟩ := f_clears (fu := fu) hfu hcl
  obtain ⟨xa, ica, sta, csa, f2, g2⟩ := f_counts (fu := fu) (by_ := 1) (v2 := -1) (v3 := nI g) hfu ht h2 hM (selG g) (selG_ok hg) 1 stack cs0
  have f2' : f_X9_counts fu 960 16 40 40 1783 fsize rows size filter (nI t) (-1) (nI g) 1 1 stack cs0 = some (xa, ica, sta, csa) := f2
  have hT : ∀ p, p < 1783 → csa p = zI (TL (JJ mt mL mR) g p) := by
    intro p hp
    rw [g2.1 p hp, z0 p hp, CW_G, Int.one_mul]
    exact Int32.zero_add _
  refine ⟨ica, sta, csa, ?_, g2.cl (Or.inr ⟨rfl, z0⟩), hT⟩
  unfold f_X9_findGroup
  have e3 := f_findGroup_loop (fu := fu) (rows := rows) (size := size) (filter := filter) (fsize := fsize) (v1 := nI t) (v2 := nI g) (ic := ica) (stack := sta) hT 1783 fu 0 0 0 (by omega) (by omega) zI_0.symm zI_0.symm
  rw [TL_s, TL_t] at e3
  rw [f1, k_b2S, f2', k_b4S]
  exact e3
theorem bw_ix {n : Nat} (hn : n < 1000000) (x : Int32) : (bw x 0 (nI n) = true ∧ ∃ i, i < n + 1 ∧ x = nI i) ∨ (bw x 0 (nI n) = false ∧ ¬ ∃ i, i < n + 1 ∧ x = nI i) := by
  unfold bw
  rcases pk_ix x (n := n + 1) (by omega) with q | q | ⟨i, hi, ei⟩
  · refine Or.inr ⟨decide_eq_false (fun z => nle_lt.mpr z.1 q), ?_⟩
    rintro ⟨i, hi, rfl⟩
    exact absurd q (nI_pos (by omega))
  · refine Or.inr ⟨decide_eq_false (fun z => ?_), ?_⟩
    · have a := (fa_le _ _).mp z.2
      have b := (fa_le _ _).mp q
      have e1 : (nI n).toInt = n := by rw [← zI_nat, zI_T (by omega) (by omega)]
      have e2 : (nI (n + 1)).toInt = n + 1 := by rw [← zI_nat, zI_T (by omega) (by omega)]; rfl
      omega
    · rintro ⟨i, hi, rfl⟩
      rw [q_le (by omega) (by omega)] at q
      omega
  · refine Or.inl ⟨decide_eq_true ?_, i, hi, ei⟩
    rw [ei]
    exact ⟨by rw [q_0, q_le (by omega) (by omega)]; omega, by rw [q_le (by omega) (by omega)]; omega⟩
theorem f_finds (hfu : 100000 ≤ fu) (h2 : R2 0 mL mR rows size) (hM : HM9 fu mt fsize filter) (v1 thr : Int32) {ic : Int32} {cs : Nat → Int32} (hcl : CL ic cs) (gr gt : Int32) (stack : Nat → Int32) :
    (∃ g ic' st' cs', g < 6 ∧ v1 = nI g ∧ f_X9_finds fu 960 16 40 40 1783 fsize rows size filter v1 thr ic gr gt stack cs = some (1, 0, ic', zI (GS (JJ mt mL mR) g), zI (GT (JJ mt mL mR) g), st', cs') ∧ CL ic' cs' ∧ ∀ p, p < 1783 → cs' p = zI (TL (JJ mt mL mR) g p)) ∨
    ((¬ ∃ g, g < 6 ∧ v1 = nI g) ∧ f_X9_finds fu 960 16 40 40 1783 fsize rows size filter v1 thr ic gr gt stack cs = some (0, 1, ic, gr, gt, stack, cs)) := by
  unfold f_X9_finds f_X9_finds_15 f_X9_finds_31
  rw [f_between, k_b1S]
  rcases bw_ix (n := 5) (by decide) v1 with ⟨e, g, hg, ev⟩ | ⟨e, no⟩
  · obtain ⟨ic', st', cs', f1, c1, c2⟩ := f_findGroup (t := 0) hfu (by decide) h2 hM hg hcl gr gt stack
    refine Or.inl ⟨g, ic', st', cs', hg, ev, ?_, c1, c2⟩
    have f1' : f_X9_findGroup fu 960 16 40 40 1783 fsize rows size filter 0 (nI g) ic gr gt stack cs = _ := f1
    have e' : bw v1 0 5 = true := e
    rw [e', if_neg (by decide), if_pos rfl, ev, f1', k_b5S, if_pos rfl, if_pos nar1]
  · refine Or.inr ⟨no, ?_⟩
    have e' : bw v1 0 5 = false := e
    rw [e', if_pos (by decide), if_neg (by decide), if_neg (by decide), if_pos nar0]
end FND
