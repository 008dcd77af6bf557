/-- group o stands before group x -/
def bef (s : Nat → Int32) (o x : Nat) : Bool := decide (s x < s o ∨ (s o = s x ∧ o < x))
theorem bef_iff (s : Nat → Int32) (o x : Nat) : bef s o x = true ↔ (s x).toInt < (s o).toInt ∨ ((s o).toInt = (s x).toInt ∧ o < x) := by
  unfold bef
  rw [decide_eq_true_iff, fa_lt, fa_eq]
theorem bef_irr (s : Nat → Int32) (x : Nat) : bef s x x = false := by
  rw [← Bool.not_eq_true, bef_iff]; omega
theorem bef_asy {s : Nat → Int32} {o x : Nat} (h : bef s o x = true) : bef s x o = false := by
  rw [← Bool.not_eq_true, bef_iff]
  rw [bef_iff] at h; omega
def prs (m : Nat → Int) (g : Nat) : Bool := decide (0 < GS m g)
def sGT (m : Nat → Int) (g : Nat) : Int32 := zI (GT m g)
theorem ct_insP (p : Nat → Bool) {r : Nat → Nat} {n i c : Nat} (hp : i ≤ n) : fb_ct (fun j => p (if j < i then r j else if j = i then c else r (j - 1))) (n + 1) = fb_ct (fun j => p (r j)) n + (if p c = true then 1 else 0) := by
  have h1 := fb_ct_split (fun j => p (if j < i then r j else if j = i then c else r (j - 1))) i (1 + (n - i))
  rw [show i + (1 + (n - i)) = n + 1 by omega] at h1
  have h2 := fb_ct_split (fun j => p (if i + j < i then r (i + j) else if i + j = i then c else r (i + j - 1))) 1 (n - i)
  have h3 := fb_ct_split (fun j => p (r j)) i (n - i)
  rw [show i + (n - i) = n by omega] at h3
  rw [h1, h2, h3]
  have a1 : fb_ct (fun j => p (if j < i then r j else if j = i then c else r (j - 1))) i = fb_ct (fun j => p (r j)) i := fb_ct_cong (fun k hk => by rw [if_pos hk])
  have a2 : fb_ct (fun j => p (if i + j < i then r (i + j) else if i + j = i then c else r (i + j - 1))) 1 = (if p c = true then 1 else 0) := by
    show 0 + (if p (if i + 0 < i then r (i + 0) else if i + 0 = i then c else r (i + 0 - 1)) = true then 1 else 0) = _
    rw [if_neg (show ¬ i + 0 < i by omega), if_pos (show i + 0 = i by omega)]; omega
  have a3 : fb_ct (fun j => p (if i + (1 + j) < i then r (i + (1 + j)) else if i + (1 + j) = i then c else r (i + (1 + j) - 1))) (n - i) = fb_ct (fun j => p (r (i + j))) (n - i) := fb_ct_cong (fun k hk => by
    rw [if_neg (by omega), if_neg (by omega), show i + (1 + k) - 1 = i + k by omega])
  rw [a1, a2, a3]; omega
/-- the present groups below g, n of them, in their order -/
def RKI (m : Nat → Int) (g n : Nat) (a : Nat → Nat) : Prop := n ≤ g ∧ (∀ p : Nat → Bool, fb_ct (fun j => p (a j)) n = fb_ct (fun o => prs m o && p o) g) ∧ (∀ j, j < n → a j < g ∧ prs m (a j) = true) ∧ ∀ i j, i < j → j < n → bef (sGT m) (a i) (a j) = true
theorem fb_ct0 (p : Nat → Bool) : fb_ct p 0 = 0 := rfl
theorem RKI.nil (m : Nat → Int) (a : Nat → Nat) : RKI m 0 0 a := ⟨Nat.le_refl _, fun p => (fb_ct0 _).trans (fb_ct0 _).symm, fun j hj => absurd hj (Nat.not_lt_zero j), fun i j _ hj => absurd hj (Nat.not_lt_zero j)⟩
theorem RKI.skip {m : Nat → Int} {g n : Nat} {a : Nat → Nat} (h : RKI m g n a) (hp : prs m g = false) : RKI m (g + 1) n a := by
  obtain ⟨h1, h2, h3, h4⟩ := h
  refine ⟨by omega, fun p => ?_, fun j hj => ⟨by have := (h3 j hj).1; omega, (h3 j hj).2⟩, h4⟩
  rw [h2 p, fb_ct_succ, hp]; rfl
theorem RKI.ins {m : Nat → Int} {g n i : Nat} {a : Nat → Nat} (h : RKI m g n a) (hp : prs m g = true) (hi : i ≤ n) (h1 : ∀ j, i ≤ j → j < n → sGT m (a j) < sGT m g) (h2 : 0 < i → sGT m g ≤ sGT m (a (i - 1))) : RKI m (g + 1) (n + 1) (fun j => if j < i then a j else if j = i then g else a (j - 1)) := by
  obtain ⟨b1, b2, b3, b4⟩ := h
  have up : ∀ j, j < i → bef (sGT m) (a j) g = true := fun j hj => by
    have c1 := (b3 j (by omega)).1
    have c2 := h2 (by omega)
    rw [fa_le] at c2
    rw [bef_iff]
    by_cases e : j = i - 1
    · rw [← e] at c2; omega
    · have c3 := b4 j (i - 1) (by omega) (by omega)
      rw [bef_iff] at c3; omega
  have dn : ∀ j, i ≤ j → j < n → bef (sGT m) g (a j) = true := fun j x y => by
    have c1 := h1 j x y
    rw [fa_lt] at c1
    rw [bef_iff]; omega
  refine ⟨by omega, fun p => ?_, fun j hj => ?_, fun x y hxy hy => ?_⟩
  · rw [ct_insP p hi, b2 p, fb_ct_succ, hp]; rfl
  · show (if j < i then a j else if j = i then g else a (j - 1)) < g + 1 ∧ prs m (if j < i then a j else if j = i then g else a (j - 1)) = true
    by_cases x : j < i
    · rw [if_pos x]; exact ⟨by have := (b3 j (by omega)).1; omega, (b3 j (by omega)).2⟩
    · rw [if_neg x]
      by_cases y : j = i
      · rw [if_pos y]; exact ⟨by omega, hp⟩
      · rw [if_neg y]; exact ⟨by have := (b3 (j - 1) (by omega)).1; omega, (b3 (j - 1) (by omega)).2⟩
  · show bef (sGT m) (if x < i then a x else if x = i then g else a (x - 1)) (if y < i then a y else if y = i then g else a (y - 1)) = true
    by_cases u : x < i
    · rw [if_pos u]
      by_cases v : y < i
      · rw [if_pos v]; exact b4 x y hxy (by omega)
      · rw [if_neg v]
        by_cases w : y = i
        · rw [if_pos w]; exact up x u
        · rw [if_neg w]; exact b4 x (y - 1) (by omega) (by omega)
    · rw [if_neg u, if_neg (show ¬ y < i by omega), if_neg (show ¬ y = i by omega)]
      by_cases v : x = i
      · rw [if_pos v]; exact dn (y - 1) (by omega) (by omega)
      · rw [if_neg v]; exact b4 (x - 1) (y - 1) (by omega) (by omega)
def rkG (m : Nat → Int) (g x : Nat) : Nat := fb_ct (fun o => prs m o && bef (sGT m) o x) g
theorem ct_below {n i : Nat} (hi : i ≤ n) (p : Nat → Bool) (h1 : ∀ j, j < i → p j = true) (h2 : ∀ j, i ≤ j → j < n → p j = false) : fb_ct p n = i := by
  have e : (fb_ct p n : Int) = i := by
    rw [ct_si, si_cut hi (fun j a b => by rw [h2 j a b]; rfl), ← si_cnst1 i]
    exact fb_si_cong (fun j hj => by rw [h1 j hj]; rfl)
  omega
theorem RKI.rank {m : Nat → Int} {g n : Nat} {a : Nat → Nat} (h : RKI m g n a) {i : Nat} (hi : i < n) : rkG m g (a i) = i := by
  unfold rkG
  rw [← h.2.1 (fun o => bef (sGT m) o (a i))]
  refine ct_below (by omega) _ (fun j hj => h.2.2.2 j i hj hi) (fun j x y => ?_)
  rcases Nat.lt_or_ge i j with z | z
  · exact bef_asy (h.2.2.2 i j z y)
  · have : j = i := by omega
    rw [this]; exact bef_irr _ _
theorem RKI.mem {m : Nat → Int} {g n : Nat} {a : Nat → Nat} (h : RKI m g n a) {x : Nat} (hx : x < g) (hp : prs m x = true) : ∃ j, j < n ∧ a j = x := by
  have e := h.2.1 (fun o => decide (o = x))
  by_cases z : fb_ct (fun j => decide (a j = x)) n = 0
  · rw [z] at e
    have := (fb_ct_zero.mp e.symm) x hx
    rw [hp] at this
    simp at this
  · have : ¬ ∀ k, k < n → (fun j => decide (a j = x)) k = false := fun q => z (fb_ct_zero.mpr q)
    by_cases w : ∃ j, j < n ∧ a j = x
    · exact w
    · exact absurd (fun k hk => decide_eq_false (fun q => w ⟨k, hk, q⟩)) this
section RNK
variable {fu : Nat} {m : Nat → Int} {sizes sums : Nat → Int32}
theorem f_sb (h : TT m sizes sums) {o x : Nat} (ho : o < 6) (hx : x < 6) : f_X3_standsBefore 6 sums (nI o) (nI x) = some (nI (bv (bef (sGT m) o x))) := by
  unfold f_X3_standsBefore
  rw [f_sumOf ho h, k_b1S, f_sumOf hx h, k_b1S, if_pos nar1, k_b1S, k_b1S, if_pos nar0]
  unfold bef sGT
  by_cases a : zI (GT m x) < zI (GT m o)
  · rw [if_pos a, decide_eq_true (Or.inl a)]; rfl
  · rw [if_neg a]
    by_cases b : zI (GT m o) = zI (GT m x)
    · rw [if_pos b]
      by_cases c : o < x
      · rw [if_neg (show ¬ nI x ≤ nI o by rw [q_le (by omega) (by omega)]; omega), decide_eq_true (Or.inr ⟨b, c⟩)]; rfl
      · rw [if_pos (show nI x ≤ nI o by rw [q_le (by omega) (by omega)]; omega), decide_eq_false (fun q => q.elim a (fun q => c q.2))]; rfl
    · rw [if_neg b, decide_eq_false (fun q => q.elim a (fun q => b q.1))]; rfl
theorem f_rankOf_loop (h : TT m sizes sums) (hb : ∀ g, 0 ≤ GS m g ∧ GS m g ≤ 3600) {x : Nat} (hx : x < 6) : ∀ (d G j : Nat), d + j = 6 → d < G → f_X3_rankOf_4 fu 6 6 sizes sums (nI x) G (nI (rkG m j x)) (nI j) = some (nI (rkG m 6 x)) := by
  intro d
  induction d with
  | zero =>
    intro G j h1 h2
    obtain ⟨G', rfl⟩ : ∃ G', G = G' + 1 := ⟨G - 1, by omega⟩
    have : j = 6 := by omega
    subst this
    rw [fs_X3_rankOf_4, if_pos (show (6 : Int32) ≤ nI 6 by decide)]
  | succ d ih =>
    intro G j h1 h2
    obtain ⟨G', rfl⟩ : ∃ G', G = G' + 1 := ⟨G - 1, by omega⟩
    have hj : j < 6 := by omega
    have hbj := hb j
    have nx := ih G' (j + 1) (by omega) (by omega)
    have er : rkG m (j + 1) x = rkG m j x + (if (prs m j && bef (sGT m) j x) = true then 1 else 0) := fb_ct_succ _ _
    have e2 : nI j + 1 = nI (j + 1) := by rw [q_1, q_add]
    rw [fs_X3_rankOf_4, if_neg (show ¬ (6 : Int32) ≤ nI j by rw [show (6 : Int32) = nI 6 from rfl, q_le (by omega) (by omega)]; omega), f_sizeOf hj h, k_b1S, f_sb h hj hx, k_b1S]
    unfold f_X3_rankOf_30
    by_cases z : 0 < GS m j
    · have ep : prs m j = true := decide_eq_true z
      rw [if_neg (show ¬ zI (GS m j) ≤ 0 from fun q => by have := (zI_le (b := 0) (by omega) (by omega) (by decide) (by decide)).mp q; omega)]
      rw [ep, Bool.true_and] at er
      cases hc : bef (sGT m) j x with
      | false =>
        rw [hc, if_neg (by decide), Nat.add_zero] at er
        rw [er] at nx
        rw [if_pos (by decide), e2, k_letS]; exact nx
      | true =>
        rw [hc, if_pos rfl] at er
        rw [er] at nx
        rw [if_neg (by decide), e2, k_letS, k_letS, q_1, q_add]; exact nx
    · have ep : prs m j = false := decide_eq_false z
      rw [ep, Bool.false_and, if_neg (by decide), Nat.add_zero] at er
      rw [er] at nx
      rw [if_pos (show zI (GS m j) ≤ 0 from (zI_le (b := 0) (by omega) (by omega) (by decide) (by decide)).mpr (by omega)), e2, k_letS]; exact nx
theorem f_gor_loop (hfu : 100000 ≤ fu) (h : TT m sizes sums) (hb : ∀ g, 0 ≤ GS m g ∧ GS m g ≤ 3600) (v1 : Int32) : ∀ (d G j : Nat), d + j = 6 → d < G →
    (∃ x, x < 6 ∧ prs m x = true ∧ nI (rkG m 6 x) = v1 ∧ f_X3_groupOfRank_2 fu 6 6 sizes sums v1 G (nI j) = some (nI x)) ∨ ((∀ x, j ≤ x → x < 6 → prs m x = true → ¬ nI (rkG m 6 x) = v1) ∧ f_X3_groupOfRank_2 fu 6 6 sizes sums v1 G (nI j) = some (-1)) := by
  intro d
  induction d with
  | zero =>
    intro G j h1 h2
    obtain ⟨G', rfl⟩ : ∃ G', G = G' + 1 := ⟨G - 1, by omega⟩
    have : j = 6 := by omega
    subst this
    exact Or.inr ⟨fun x a b => by omega, by rw [fs_X3_groupOfRank_2, if_pos (show (6 : Int32) ≤ nI 6 by decide)]⟩
  | succ d ih =>
    intro G j h1 h2
    obtain ⟨G', rfl⟩ : ∃ G', G = G' + 1 := ⟨G - 1, by omega⟩
    have hj : j < 6 := by omega
    have hbj := hb j
    have nx := ih G' (j + 1) (by omega) (by omega)
    have e2 : nI j + 1 = nI (j + 1) := by rw [q_1, q_add]
    have er : f_X3_rankOf fu 6 6 sizes sums (nI j) = some (nI (rkG m 6 j)) := by
      unfold f_X3_rankOf
      exact f_rankOf_loop (fu := fu) h hb hj 6 fu 0 (by omega) (by omega)
    rw [fs_X3_groupOfRank_2, if_neg (show ¬ (6 : Int32) ≤ nI j by rw [show (6 : Int32) = nI 6 from rfl, q_le (by omega) (by omega)]; omega), f_sizeOf hj h, k_b1S, er, k_b1S]
    unfold f_X3_groupOfRank_27
    have skip : ∀ (hno : ¬ (prs m j = true ∧ nI (rkG m 6 j) = v1)), (∃ x, x < 6 ∧ prs m x = true ∧ nI (rkG m 6 x) = v1 ∧ f_X3_groupOfRank_2 fu 6 6 sizes sums v1 G' (nI (j + 1)) = some (nI x)) ∨ ((∀ x, j ≤ x → x < 6 → prs m x = true → ¬ nI (rkG m 6 x) = v1) ∧ f_X3_groupOfRank_2 fu 6 6 sizes sums v1 G' (nI (j + 1)) = some (-1)) := by
      intro hno
      rcases nx with nx | ⟨n1, n2⟩
      · exact Or.inl nx
      · refine Or.inr ⟨fun x a b c e => ?_, n2⟩
        by_cases y : x = j
        · rw [y] at c e; exact hno ⟨c, e⟩
        · exact n1 x (by omega) b c e
    by_cases z : 0 < GS m j
    · have ep : prs m j = true := decide_eq_true z
      rw [if_neg (show ¬ zI (GS m j) ≤ 0 from fun q => by have := (zI_le (b := 0) (by omega) (by omega) (by decide) (by decide)).mp q; omega)]
      by_cases w : nI (rkG m 6 j) = v1
      · rw [if_pos w]
        exact Or.inl ⟨j, hj, ep, w, rfl⟩
      · rw [if_neg w, e2, k_letS]
        exact skip (fun q => w q.2)
    · have ep : ¬ prs m j = true := fun q => z (of_decide_eq_true q)
      rw [if_pos (show zI (GS m j) ≤ 0 from (zI_le (b := 0) (by omega) (by omega) (by decide) (by decide)).mpr (by omega)), e2, k_letS]
      exact skip (fun q => ep q.1)
end RNK
section RNM
variable {fu : Nat} {rows size filter : Nat → Int32} {fsize v1 : Int32} {mt : Nat → Nat → Bool} {mL mR : Nat → Int}
theorem f_rk44 {m : Nat → Int} {n g : Nat} {a : Nat → Nat} {thr ic gr gt : Int32} {stack cs totals : Nat → Int32} (hg : g < 6) (hn : n ≤ g) (ha : ∀ j, j < n → a j < g) (ht : ∀ j, j < n → totals (a j) = sGT m (a j)) (htg : totals g = sGT m g)
    (K : Int32 → Int32 → Int32 → Int32 → Int32 → Int32 → (Nat → Int32) → (Nat → Int32) → (Nat → Int32) → (Nat → Int32) → Option (Int32 × Int32 × Int32 × Int32 × Int32 × (Nat → Int32) × (Nat → Int32) × (Nat → Int32) × (Nat → Int32))) : ∀ (i G : Nat) (ranked : Nat → Int32), i ≤ n → i < G → (∀ j, j < i → ranked j = nI (a j)) → (∀ j, i < j → j ≤ n → ranked j = nI (a (j - 1))) → (∀ j, i ≤ j → j < n → sGT m (a j) < sGT m g) →
    ∃ i' ranked', i' ≤ n ∧ (∀ j, i' ≤ j → j < n → sGT m (a j) < sGT m g) ∧ (0 < i' → sGT m g ≤ sGT m (a (i' - 1))) ∧ (∀ j, j < n + 1 → ranked' j = nI (if j < i' then a j else if j = i' then g else a (j - 1))) ∧ f_X9_rankedGroup_44 fu 960 16 40 40 1783 6 6 fsize rows size filter v1 K G (nI n) (nI g) (nI i) thr ic gr gt stack cs totals ranked = K (nI (n + 1)) (nI (g + 1)) thr ic gr gt stack cs totals ranked' := by
  have stop : ∀ (i : Nat) (ranked : Nat → Int32), i ≤ n → (∀ j, j < i → ranked j = nI (a j)) → (∀ j, i < j → j ≤ n → ranked j = nI (a (j - 1))) → ∃ ranked', (∀ j, j < n + 1 → ranked' j = nI (if j < i then a j else if j = i then g else a (j - 1))) ∧ f_X9_rankedGroup_94 fu 960 16 40 40 1783 6 6 fsize rows size filter v1 K (nI n) (nI g) (nI i) thr ic gr gt stack cs totals ranked = K (nI (n + 1)) (nI (g + 1)) thr ic gr gt stack cs totals ranked' := by
    intro i ranked hi h1 h2
    refine ⟨upd ranked i (nI g), fun j hj => ?_, ?_⟩
    · rw [q_upd]
      by_cases x : j = i
      · rw [if_pos x, if_neg (by omega), if_pos x]
      · rw [if_neg x, if_neg x]
        by_cases y : j < i
        · rw [if_pos y]; exact h1 j y
        · rw [if_neg y]; exact h2 j (by omega) (by omega)
    · unfold f_X9_rankedGroup_94 f_X9_rankedGroup_105
      rw [if_pos (nI_in (c := i) (N := 6) (by omega) (by decide)), q_cl (by omega), q_1, q_add, q_add, k_letS, k_letS]
  intro i
  induction i with
  | zero =>
    intro G ranked h0 hG h1 h2 h3
    obtain ⟨G', rfl⟩ : ∃ G', G = G' + 1 := ⟨G - 1, by omega⟩
    obtain ⟨r', e1, e2⟩ := stop 0 ranked h0 h1 h2
    refine ⟨0, r', h0, h3, fun q => by omega, e1, ?_⟩
    rw [fs_X9_rankedGroup_44, if_pos (show nI 0 ≤ 0 by decide)]; exact e2
  | succ i ih =>
    intro G ranked h0 hG h1 h2 h3
    obtain ⟨G', rfl⟩ : ∃ G', G = G' + 1 := ⟨G - 1, by omega⟩
    have hai := ha i (by omega)
    rw [fs_X9_rankedGroup_44, if_neg (nI_nle (by omega) (by omega)), nI_pred, k_letS, if_pos (nI_in (c := i) (N := 6) (by omega) (by decide)), q_cl (show i < 2147483648 by omega), h1 i (by omega), k_letS, if_pos (nI_in (c := a i) (N := 6) (by omega) (by decide)), q_cl (show a i < 2147483648 by omega), ht i (by omega), k_letS, if_pos (nI_in (c := g) (N := 6) (by omega) (by decide)), q_cl (show g < 2147483648 by omega), htg, k_letS]
    by_cases x : sGT m g ≤ sGT m (a i)
    · obtain ⟨r', e1, e2⟩ := stop (i + 1) ranked h0 h1 h2
      refine ⟨i + 1, r', h0, h3, fun _ => x, e1, ?_⟩
      rw [if_pos x]; exact e2
    · rw [if_neg x, k_letS, if_pos (nI_in (c := i) (N := 6) (by omega) (by decide)), q_cl (show i < 2147483648 by omega), h1 i (by omega), k_letS, if_pos (nI_in (c := i + 1) (N := 6) (by omega) (by decide)), q_cl (show i + 1 < 2147483648 by omega), pk_m1, k_letS]
      refine ih G' _ (by omega) (by omega) (fun j hj => ?_) (fun j a1 b1 => ?_) (fun j a1 b1 => ?_)
      · rw [q_upd, if_neg (by omega)]; exact h1 j (by omega)
      · rw [q_upd]
        by_cases y : j = i + 1
        · rw [if_pos y, y]; rfl
        · rw [if_neg y]; exact h2 j (by omega) b1
      · by_cases y : j = i
        · rw [y, fa_lt]; rw [fa_le] at x; omega
        · exact h3 j (by omega) b1
theorem f_rk9 (hfu : 100000 ≤ fu) (h2 : R2 0 mL mR rows size) (hM : HM9 fu mt fsize filter) : ∀ (d G g n : Nat) (a : Nat → Nat) (thr ic gr gt : Int32) (stack cs totals ranked : Nat → Int32), d + g = 6 → d < G → CL ic cs → RKI (JJ mt mL mR) g n a → (∀ j, j < n → ranked j = nI (a j) ∧ totals (a j) = sGT (JJ mt mL mR) (a j)) →
    ∃ (n' : Nat) (a' : Nat → Nat) (ic' gr' gt' : Int32) (st' cs' to' ra' : Nat → Int32), CL ic' cs' ∧ RKI (JJ mt mL mR) 6 n' a' ∧ (∀ j, j < n' → ra' j = nI (a' j)) ∧ f_X9_rankedGroup_9 fu 960 16 40 40 1783 6 6 fsize rows size filter v1 G (nI n) (nI g) thr ic gr gt stack cs totals ranked = f_X9_rankedGroup_111 fu 960 16 40 40 1783 6 6 fsize rows size filter v1 (nI n') thr ic' gr' gt' st' cs' to' ra' := by
  have tb := R2.tb h2
  intro d
  induction d with
  | zero =>
    intro G g n a thr ic gr gt stack cs totals ranked h1 hG hcl hR hr
    obtain ⟨G', rfl⟩ : ∃ G', G = G' + 1 := ⟨G - 1, by omega⟩
    have : g = 6 := by omega
    subst this
    refine ⟨n, a, ic, gr, gt, stack, cs, totals, ranked, hcl, hR, fun j hj => (hr j hj).1, ?_⟩
    rw [fs_X9_rankedGroup_9, if_pos (show (6 : Int32) ≤ nI 6 by decide)]
  | succ d ih =>
    intro G g n a thr ic gr gt stack cs totals ranked h1 hG hcl hR hr
    obtain ⟨G', rfl⟩ : ∃ G', G = G' + 1 := ⟨G - 1, by omega⟩
    have hg : g < 6 := by omega
    have hng := hR.1
    have gb := GS_bd tb.1 tb.2 mt g
    obtain ⟨ic1, st1, cs1, f1, cl1, _⟩ := f_findGroup (t := 0) hfu (by decide) h2 hM hg hcl gr gt stack
    have f1' : f_X9_findGroup fu 960 16 40 40 1783 fsize rows size filter 0 (nI g) ic gr gt stack cs = _ := f1
    rw [fs_X9_rankedGroup_9, if_neg (show ¬ (6 : Int32) ≤ nI g by rw [show (6 : Int32) = nI 6 from rfl, q_le (by omega) (by omega)]; omega), f1', k_b5S]
    by_cases z : GS (JJ mt mL mR) g = 0
    · rw [if_pos (show zI (GS (JJ mt mL mR) g) = 0 by rw [z]; rfl)]
      unfold f_X9_rankedGroup_105
      rw [q_1, q_add, k_letS]
      exact ih G' (g + 1) n a thr ic1 _ _ st1 cs1 totals ranked (by omega) (by omega) cl1 (hR.skip (decide_eq_false (by omega))) hr
    · rw [if_neg (fun q => z ((zI_z (by omega) (by omega)).mp q)), if_pos (nI_in (c := g) (N := 6) hg (by decide)), q_cl (by omega)]
      have hag : ∀ j, j < n → a j < g := fun j hj => (hR.2.2.1 j hj).1
      obtain ⟨i', r', i1, i2, i3, i4, i5⟩ := f_rk44 (fu := fu) (rows := rows) (size := size) (filter := filter) (fsize := fsize) (v1 := v1) (m := JJ mt mL mR) (n := n) (g := g) (a := a) (thr := thr) (ic := ic1) (gr := zI (GS (JJ mt mL mR) g)) (gt := zI (GT (JJ mt mL mR) g)) (stack := st1) (cs := cs1) (totals := upd totals g (zI (GT (JJ mt mL mR) g))) hg hng hag (fun j hj => by
        have := hag j hj
        rw [q_upd, if_neg (by omega)]; exact (hr j hj).2) (by rw [q_upd, if_pos rfl]; rfl) (f_X9_rankedGroup_9 fu 960 16 40 40 1783 6 6 fsize rows size filter v1 G') n fu ranked (Nat.le_refl _) (by omega) (fun j hj => (hr j hj).1) (fun j x y => by omega) (fun j x y => by omega)
      rw [i5]
      refine ih G' (g + 1) (n + 1) _ thr ic1 _ _ st1 cs1 _ r' (by omega) (by omega) cl1 (hR.ins (decide_eq_true (by omega)) i1 i2 i3) (fun j hj => ⟨i4 j hj, ?_⟩)
      show upd totals g (zI (GT (JJ mt mL mR) g)) (if j < i' then a j else if j = i' then g else a (j - 1)) = sGT (JJ mt mL mR) (if j < i' then a j else if j = i' then g else a (j - 1))
      by_cases x : j < i'
      · have := hag j (by omega)
        rw [if_pos x, q_upd, if_neg (by omega)]; exact (hr j (by omega)).2
      · rw [if_neg x]
        by_cases y : j = i'
        · rw [if_pos y, q_upd, if_pos rfl]; rfl
        · have := hag (j - 1) (by omega)
          rw [if_neg y, q_upd, if_neg (by omega)]; exact (hr (j - 1) (by omega)).2
end RNM

theorem P_rankedGroup {fu : Nat} (hfu : 100000 ≤ fu) {I : Nat → Int32} {F : Nat → Nat → Int32} (hI : Inv I F) (out : Nat → Int64) (v1 : Int32) : ∃ (c9 : Int32 × (Nat → Int64)) (u9 : Int32 × Int32 × Int32 × Int32 × Int32 × (Nat → Int32) × (Nat → Int32) × (Nat → Int32) × (Nat → Int32)), f_L_rankedGroup fu 6 6 1 (F 36) (F 37) v1 out = some c9 ∧ f_X9_rankedGroup fu 960 16 40 40 1783 6 6 (I 53) (F 53) (F 54) (F 55) v1 (I 50) (I 61) (I 62) (I 63) (F 59) (F 60) (F 61) (F 62) = some u9 ∧ u9.2.1 = c9.1 ∧ (c9.1 = 0 → c9.2 0 = u9.1.toInt64) ∧ Inv (gI [I 0, I 1, I 2, I 3, I 4, I 5, I 6, I 7, I 8, I 9, I 10, I 11, I 12, I 13, I 14, I 15, I 16, I 17, I 18, I 19, I 20, I 21, I 22, I 23, I 24, I 25, I 26, I 27, I 28, I 29, I 30, I 31, I 32, I 33, I 34, I 35, I 36, I 37, I 38, I 39, I 40, I 41, I 42, I 43, I 44, I 45, I 46, I 47, I 48, I 49, u9.2.1, I 51, I 52, I 53, I 54, I 55, I 56, I 57, I 58, I 59, I 60, u9.2.2.1, u9.2.2.2.1, u9.2.2.2.2.1, I 64, I 65, I 66, I 67, I 68, I 69, I 70]) (gF [F 0, F 1, F 2, F 3, F 4, F 5, F 6, F 7, F 8, F 9, F 10, F 11, F 12, F 13, F 14, F 15, F 16, F 17, F 18, F 19, F 20, F 21, F 22, F 23, F 24, F 25, F 26, F 27, F 28, F 29, F 30, F 31, F 32, F 33, F 34, F 35, F 36, F 37, F 38, F 39, F 40, F 41, F 42, F 43, F 44, F 45, F 46, F 47, F 48, F 49, F 50, F 51, F 52, F 53, F 54, F 55, F 56, F 57, F 58, u9.2.2.2.2.2.1, u9.2.2.2.2.2.2.1, u9.2.2.2.2.2.2.2.1, u9.2.2.2.2.2.2.2.2, F 63, F 64, F 65, F 66, F 67]) := by
  obtain ⟨cur, plan, old, sav, hs, flt, sfl, wat, swa, tn, ch, dep, nx, tx, fa, sv, ha, c1, c2, c3, c4, c5, c6, m1, m2, m3, m4, m5⟩ := hI
  have tb := R2.tb m1.1
  have hb : ∀ g, 0 ≤ GS (JF flt cur) g ∧ GS (JF flt cur) g ≤ 3600 := fun g => GS_bd tb.1 tb.2 (mtF flt) g
  obtain ⟨n, a, ic', gr', gt', st', cs', to', ra', cl, hR, hr, e1⟩ := f_rk9 (v1 := v1) hfu m1.1 (HM9.of hfu ha.1 m2.1) 6 fu 0 0 (fun _ => 0) 0 (I 61) (I 62) (I 63) (F 59) (F 60) (F 61) (F 62) (by omega) (by omega) m5.2.2.2.2 (RKI.nil _ _) (fun j hj => absurd hj (Nat.not_lt_zero j))
  have hR' : RKI (JF flt cur) 6 n a := hR
  have hn6 := hR'.1
  have h2a : f_X9_rankedGroup fu 960 16 40 40 1783 6 6 (I 53) (F 53) (F 54) (F 55) v1 (I 50) (I 61) (I 62) (I 63) (F 59) (F 60) (F 61) (F 62) = f_X9_rankedGroup_111 fu 960 16 40 40 1783 6 6 (I 53) (F 53) (F 54) (F 55) v1 (nI n) 0 ic' gr' gt' st' cs' to' ra' := by
    unfold f_X9_rankedGroup
    exact e1
  have gor := f_gor_loop (fu := fu) hfu c5.2.1 hb v1 6 fu 0 (by omega) (by omega)
  rcases bw_ix1 (n := n) (by omega) v1 with ⟨b1, i, hi, ei⟩ | ⟨b1, no⟩
  · rcases gor with ⟨x, hx, px, ex, e3⟩ | ⟨hno, _⟩
    · obtain ⟨j, hj, ej⟩ := hR'.mem hx px
      have er := hR'.rank hj
      have eij : j = i := by
        rw [← ej, er, ei, q_eq (by omega) (by omega)] at ex
        exact ex
      have h1 : f_L_rankedGroup fu 6 6 1 (F 36) (F 37) v1 out = some (0, vp_updL out (0 : Int32).toNatClampNeg (nI x).toInt64) := by
        have e3' : f_X3_groupOfRank fu 6 6 (F 36) (F 37) v1 = some (nI x) := e3
        unfold f_L_rankedGroup f_X8_rankedGroup f_X6_totals
        rw [k_b1S, e3', k_b1S, if_pos (show (0 : Int32) ≤ nI x by rw [q_0, q_le (by omega) (by omega)]; omega), k_b2S, if_pos rfl, if_pos (by decide)]
      have h2 : f_X9_rankedGroup fu 960 16 40 40 1783 6 6 (I 53) (F 53) (F 54) (F 55) v1 (I 50) (I 61) (I 62) (I 63) (F 59) (F 60) (F 61) (F 62) = some (nI x, 0, ic', gr', gt', st', cs', to', ra') := by
        rw [h2a]
        unfold f_X9_rankedGroup_111
        rw [f_between, b1, k_b1S, if_neg (by decide), ei, if_pos (nI_in (c := i) (N := 6) (by omega) (by decide)), q_cl (by omega), k_letS, hr i hi, ← eij, ej]
      exact ⟨_, _, h1, h2, rfl, fun _ => rfl, cur, plan, old, sav, hs, flt, sfl, wat, swa, tn, ch, dep, nx, tx, fa, sv, ha, c1, c2, c3, c4, c5, c6, m1, m2, m3, m4, ⟨m5.1, m5.2.1, m5.2.2.1, m5.2.2.2.1, cl⟩⟩
    · have q := hR'.2.2.1 i hi
      exact absurd (by rw [hR'.rank hi, ei]) (hno (a i) (Nat.zero_le _) q.1 q.2)
  · rcases gor with ⟨x, hx, px, ex, e3⟩ | ⟨hno, e3⟩
    · obtain ⟨j, hj, ej⟩ := hR'.mem hx px
      have er := hR'.rank hj
      exact absurd ⟨j, hj, by rw [← ex, ← ej, er]⟩ no
    · have h1 : f_L_rankedGroup fu 6 6 1 (F 36) (F 37) v1 out = some (1, out) := by
        have e3' : f_X3_groupOfRank fu 6 6 (F 36) (F 37) v1 = some (-1) := e3
        unfold f_L_rankedGroup f_X8_rankedGroup f_X6_totals
        rw [k_b1S, e3', k_b1S, if_neg (by decide), k_b2S, if_neg (by decide), if_pos rfl]
      have h2 : f_X9_rankedGroup fu 960 16 40 40 1783 6 6 (I 53) (F 53) (F 54) (F 55) v1 (I 50) (I 61) (I 62) (I 63) (F 59) (F 60) (F 61) (F 62) = some (0, 1, ic', gr', gt', st', cs', to', ra') := by
        rw [h2a]
        unfold f_X9_rankedGroup_111 f_X9_fails
        rw [f_between, b1, k_b1S, if_pos (by decide), k_b2S]
      exact ⟨_, _, h1, h2, rfl, fun q => absurd (show (1 : Int32) = 0 from q) (by decide), cur, plan, old, sav, hs, flt, sfl, wat, swa, tn, ch, dep, nx, tx, fa, sv, ha, c1, c2, c3, c4, c5, c6, m1, m2, m3, m4, ⟨m5.1, m5.2.1, m5.2.2.1, m5.2.2.2.1, cl⟩⟩
