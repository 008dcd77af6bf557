/-! Pure facts: the two readers of a filter text; what both do, over lists. -/
def pO (O : F3) (t : Nat) (z : Int) : F3 := (O.1 + 1, (fun i => if i = O.1 then t else O.2.1 i), fun i => if i = O.1 then z else O.2.2 i)
def psM (op : Nat) : List Nat → F3 → List Nat × F3
  | [], O => ([], O)
  | x :: r, O => if op ≤ x then psM op r (pO O x 0) else (x :: r, O)
def psZ : List Nat → Nat
  | [] => 0
  | x :: r => (if x = 0 then 1 else 0) + psZ r
def psB : List Nat → Nat
  | [] => 0
  | x :: r => (if x = 1 ∨ x = 2 then 1 else 0) + psB r
def psOk : List Nat → Prop
  | [] => True
  | x :: r => x ≤ 3 ∧ psOk r
def psC (tn : Nat) (tx : Nat → Nat) (p : Nat) : Nat := if p < tn then tx p else 0
def psN (c : Nat) : Nat := if c = 107 then 0 else if c = 103 then 1 else if c = 118 then 2 else if c = 102 then 3 else if c = 112 then 4 else 5
def psR (c : Nat) : Nat := if c = 60 then 0 else if c = 61 then 1 else if c = 62 then 2 else 3
def psD (c : Nat) : Bool := decide (48 ≤ c ∧ c ≤ 57)
def psG (tn : Nat) (tx : Nat → Nat) : Nat → Nat → Nat → Nat × Nat
  | 0, v, p => (v, p)
  | j + 1, v, p => if psD (psC tn tx p) = true then psG tn tx j (10 * v + (psC tn tx p - 48)) (p + 1) else (v, p)
def psQ (tn : Nat) (tx : Nat → Nat) (p : Nat) : Nat := p + 2 + (if psC tn tx (p + 2) = 45 then 1 else 0)
def psV (tn : Nat) (tx : Nat → Nat) (p : Nat) : Int := if psC tn tx (p + 2) = 45 then -((psG tn tx 3 0 (psQ tn tx p)).1 : Int) else ((psG tn tx 3 0 (psQ tn tx p)).1 : Int)
def psK (tn : Nat) (tx : Nat → Nat) (p : Nat) : Bool × Nat × Nat × Int :=
  if psN (psC tn tx p) < 5 then (if psR (psC tn tx (p + 1)) < 3 then (if psD (psC tn tx (psQ tn tx p)) = true then (true, (psG tn tx 3 0 (psQ tn tx p)).2, 4 + psN (psC tn tx p) * 3 + psR (psC tn tx (p + 1)), psV tn tx p) else (false, psQ tn tx p, 0, 0)) else (false, p + 1, 0, 0)) else (false, p, 0, 0)
def psF (m : Bool) (p : Nat) (W : List Nat) (O : F3) : Bool × Nat × F3 := if m = true ∧ psZ W = 0 then (true, p, (psM 1 W O).2) else (false, p, O)
def psA (tn : Nat) (tx : Nat → Nat) : Nat → Bool → Nat → List Nat → F3 → Bool × Nat × F3
  | 0, m, p, W, O => psF m p W O
  | n + 1, m, p, W, O => if tn ≤ p then psF m p W O else
      if m = false then (if psC tn tx p = 33 then psA tn tx n false (p + 1) (3 :: W) O else if psC tn tx p = 40 then psA tn tx n false (p + 1) (0 :: W) O else if (psK tn tx p).1 = true then psA tn tx n true (psK tn tx p).2.1 W (pO O (psK tn tx p).2.2.1 (psK tn tx p).2.2.2) else (false, (psK tn tx p).2.1, O))
      else (if psC tn tx p = 38 then psA tn tx n false (p + 1) (2 :: (psM 2 W O).1) (psM 2 W O).2 else if psC tn tx p = 124 then psA tn tx n false (p + 1) (1 :: (psM 1 W O).1) (psM 1 W O).2 else if psC tn tx p = 41 ∧ 0 < psZ W then psA tn tx n true (p + 1) (psM 1 W O).1.tail (psM 1 W O).2 else (false, p, O))
theorem psA_s (tn : Nat) (tx : Nat → Nat) (n : Nat) (m : Bool) (p : Nat) (W : List Nat) (O : F3) : psA tn tx (n + 1) m p W O = if tn ≤ p then psF m p W O else
      if m = false then (if psC tn tx p = 33 then psA tn tx n false (p + 1) (3 :: W) O else if psC tn tx p = 40 then psA tn tx n false (p + 1) (0 :: W) O else if (psK tn tx p).1 = true then psA tn tx n true (psK tn tx p).2.1 W (pO O (psK tn tx p).2.2.1 (psK tn tx p).2.2.2) else (false, (psK tn tx p).2.1, O))
      else (if psC tn tx p = 38 then psA tn tx n false (p + 1) (2 :: (psM 2 W O).1) (psM 2 W O).2 else if psC tn tx p = 124 then psA tn tx n false (p + 1) (1 :: (psM 1 W O).1) (psM 1 W O).2 else if psC tn tx p = 41 ∧ 0 < psZ W then psA tn tx n true (p + 1) (psM 1 W O).1.tail (psM 1 W O).2 else (false, p, O)) := rfl
theorem psA_end {tn : Nat} {tx : Nat → Nat} (n : Nat) {m : Bool} {p : Nat} {W : List Nat} {O : F3} (h : tn ≤ p) : psA tn tx n m p W O = psF m p W O := by
  cases n with
  | zero => rfl
  | succ n => rw [psA_s, if_pos h]
theorem psG_s (tn : Nat) (tx : Nat → Nat) (j v p : Nat) : psG tn tx (j + 1) v p = if psD (psC tn tx p) = true then psG tn tx j (10 * v + (psC tn tx p - 48)) (p + 1) else (v, p) := rfl
theorem psM_s (op x : Nat) (r : List Nat) (O : F3) : psM op (x :: r) O = if op ≤ x then psM op r (pO O x 0) else (x :: r, O) := rfl
theorem psC_in {tn : Nat} {tx : Nat → Nat} {p : Nat} (h : psC tn tx p ≠ 0) : p < tn := by
  unfold psC at h
  by_cases x : p < tn
  · exact x
  · rw [if_neg x] at h; exact absurd rfl h
theorem psC_bd {tn : Nat} {tx : Nat → Nat} (hx : ∀ i, i < tn → 33 ≤ tx i ∧ tx i ≤ 126) (p : Nat) : psC tn tx p < 127 := by
  unfold psC
  by_cases x : p < tn
  · rw [if_pos x]; have := hx p x; omega
  · rw [if_neg x]; omega
theorem psD_i {c : Nat} (h : psD c = true) : 48 ≤ c ∧ c ≤ 57 := of_decide_eq_true h
theorem psG_p (tn : Nat) (tx : Nat → Nat) : ∀ (j v p : Nat), p ≤ (psG tn tx j v p).2 ∧ (p ≤ tn → (psG tn tx j v p).2 ≤ tn)
  | 0, v, p => ⟨Nat.le_refl _, fun h => h⟩
  | j + 1, v, p => by
    rw [psG_s]
    by_cases h : psD (psC tn tx p) = true
    · rw [if_pos h]
      have ih := psG_p tn tx j (10 * v + (psC tn tx p - 48)) (p + 1)
      have hd := psD_i h
      have hi := psC_in (tn := tn) (tx := tx) (p := p) (by omega)
      exact ⟨by omega, fun _ => ih.2 (by omega)⟩
    · rw [if_neg h]; exact ⟨Nat.le_refl _, fun h => h⟩
theorem psG_v (tn : Nat) (tx : Nat → Nat) (v p : Nat) : (psG tn tx 3 v p).1 ≤ 1000 * v + 999 := by
  have h0 : ∀ v p, (psG tn tx 0 v p).1 ≤ v := fun v p => Nat.le_refl _
  have h1 : ∀ v p, (psG tn tx 1 v p).1 ≤ 10 * v + 9 := fun v p => by
    rw [psG_s]
    by_cases h : psD (psC tn tx p) = true
    · rw [if_pos h]
      have a := h0 (10 * v + (psC tn tx p - 48)) (p + 1)
      have b := psD_i h
      omega
    · rw [if_neg h]; show v ≤ _; omega
  have h2 : ∀ v p, (psG tn tx 2 v p).1 ≤ 100 * v + 99 := fun v p => by
    rw [psG_s]
    by_cases h : psD (psC tn tx p) = true
    · rw [if_pos h]
      have a := h1 (10 * v + (psC tn tx p - 48)) (p + 1)
      have b := psD_i h
      omega
    · rw [if_neg h]; show v ≤ _; omega
  rw [psG_s]
  by_cases h : psD (psC tn tx p) = true
  · rw [if_pos h]
    have a := h2 (10 * v + (psC tn tx p - 48)) (p + 1)
    have b := psD_i h
    omega
  · rw [if_neg h]; show v ≤ _; omega
theorem psN_le (c : Nat) : psN c ≤ 5 := by
  unfold psN
  repeat' split
  all_goals omega
theorem psR_le (c : Nat) : psR c ≤ 3 := by
  unfold psR
  repeat' split
  all_goals omega
theorem psK_t {tn : Nat} {tx : Nat → Nat} {p : Nat} (h : (psK tn tx p).1 = true) : psN (psC tn tx p) < 5 ∧ psR (psC tn tx (p + 1)) < 3 ∧ psD (psC tn tx (psQ tn tx p)) = true ∧ psK tn tx p = (true, (psG tn tx 3 0 (psQ tn tx p)).2, 4 + psN (psC tn tx p) * 3 + psR (psC tn tx (p + 1)), psV tn tx p) := by
  unfold psK at h ⊢
  by_cases h1 : psN (psC tn tx p) < 5
  · rw [if_pos h1] at h ⊢
    by_cases h2 : psR (psC tn tx (p + 1)) < 3
    · rw [if_pos h2] at h ⊢
      by_cases h3 : psD (psC tn tx (psQ tn tx p)) = true
      · rw [if_pos h3] at h ⊢
        exact ⟨h1, h2, h3, rfl⟩
      · rw [if_neg h3] at h; cases h
    · rw [if_neg h2] at h; cases h
  · rw [if_neg h1] at h; cases h
theorem psK_b {tn : Nat} {tx : Nat → Nat} {p : Nat} (h : (psK tn tx p).1 = true) : p + 3 ≤ (psK tn tx p).2.1 ∧ (psK tn tx p).2.1 ≤ tn ∧ 4 ≤ (psK tn tx p).2.2.1 ∧ (psK tn tx p).2.2.1 ≤ 18 ∧ -999 ≤ (psK tn tx p).2.2.2 ∧ (psK tn tx p).2.2.2 ≤ 999 := by
  obtain ⟨h1, h2, h3, e⟩ := psK_t h
  rw [e]
  have hv := psG_v tn tx 0 (psQ tn tx p)
  have hq : p + 2 ≤ psQ tn tx p := by unfold psQ; omega
  have hd := psD_i h3
  have hi := psC_in (tn := tn) (tx := tx) (p := psQ tn tx p) (by omega)
  have hp : psQ tn tx p + 1 ≤ (psG tn tx 3 0 (psQ tn tx p)).2 ∧ (psG tn tx 3 0 (psQ tn tx p)).2 ≤ tn := by
    rw [psG_s, if_pos h3]
    have := psG_p tn tx 2 (10 * 0 + (psC tn tx (psQ tn tx p) - 48)) (psQ tn tx p + 1)
    exact ⟨this.1, this.2 (by omega)⟩
  refine ⟨by show p + 3 ≤ (psG tn tx 3 0 (psQ tn tx p)).2; omega, hp.2, by show 4 ≤ 4 + psN (psC tn tx p) * 3 + psR (psC tn tx (p + 1)); omega, by show 4 + psN (psC tn tx p) * 3 + psR (psC tn tx (p + 1)) ≤ 18; omega, ?_⟩
  show -999 ≤ psV tn tx p ∧ psV tn tx p ≤ 999
  unfold psV
  split <;> omega
theorem psM_len (op : Nat) : ∀ (W : List Nat) (O : F3), (psM op W O).1.length + (psM op W O).2.1 = W.length + O.1
  | [], O => rfl
  | x :: r, O => by
    rw [psM_s]
    by_cases h : op ≤ x
    · rw [if_pos h, psM_len op r (pO O x 0)]
      show r.length + (O.1 + 1) = r.length + 1 + O.1
      omega
    · rw [if_neg h]
theorem psM_ok (op : Nat) : ∀ (W : List Nat) (O : F3), psOk W → psOk (psM op W O).1
  | [], O, h => h
  | x :: r, O, h => by
    rw [psM_s]
    by_cases e : op ≤ x
    · rw [if_pos e]; exact psM_ok op r _ h.2
    · rw [if_neg e]; exact h
theorem psM_z {op : Nat} (h1 : 1 ≤ op) : ∀ (W : List Nat) (O : F3), psZ (psM op W O).1 = psZ W
  | [], O => rfl
  | x :: r, O => by
    rw [psM_s]
    by_cases e : op ≤ x
    · rw [if_pos e, psM_z h1 r]
      show psZ r = (if x = 0 then 1 else 0) + psZ r
      rw [if_neg (by omega)]; omega
    · rw [if_neg e]
theorem psM_hd : ∀ (W : List Nat) (O : F3), 0 < psZ W → ∃ r, (psM 1 W O).1 = 0 :: r
  | [], O, h => absurd h (Nat.lt_irrefl 0)
  | x :: r, O, h => by
    have h' : 0 < (if x = 0 then 1 else 0) + psZ r := h
    rw [psM_s]
    by_cases e : 1 ≤ x
    · rw [if_pos e]
      rw [if_neg (by omega)] at h'
      exact psM_hd r _ (by omega)
    · rw [if_neg e]
      have : x = 0 := by omega
      rw [this]; exact ⟨r, rfl⟩
theorem psM_nil : ∀ (W : List Nat) (O : F3), psZ W = 0 → (psM 1 W O).1 = []
  | [], O, h => rfl
  | x :: r, O, h => by
    have h' : (if x = 0 then 1 else 0) + psZ r = 0 := h
    by_cases e : x = 0
    · rw [if_pos e] at h'; omega
    · rw [if_neg e] at h'
      rw [psM_s, if_pos (by omega)]; exact psM_nil r _ (by omega)
theorem psM_3 {op : Nat} (h3 : op ≤ 3) : ∀ (W : List Nat) (O : F3), psM op (psM 3 W O).1 (psM 3 W O).2 = psM op W O
  | [], O => rfl
  | x :: r, O => by
    rw [psM_s 3]
    by_cases e : 3 ≤ x
    · rw [if_pos e, psM_3 h3 r, psM_s op, if_pos (by omega)]
    · rw [if_neg e]
/-- steps that can be evaluated -/
def okS (O : F3) (i : Nat) : Prop := (4 ≤ O.2.1 i ∧ O.2.1 i ≤ 18 ∧ -999 ≤ O.2.2 i ∧ O.2.2 i ≤ 999) ∨ (O.2.1 i = 3 ∧ 1 ≤ dpt O.2.1 i) ∨ ((O.2.1 i = 1 ∨ O.2.1 i = 2) ∧ 2 ≤ dpt O.2.1 i)
theorem dpt_cong {f g : Nat → Nat} : ∀ n, (∀ i, i < n → f i = g i) → dpt f n = dpt g n
  | 0, _ => rfl
  | n + 1, h => by
    show (if 4 ≤ f n then dpt f n + 1 else if f n = 3 then dpt f n else dpt f n - 1) = (if 4 ≤ g n then dpt g n + 1 else if g n = 3 then dpt g n else dpt g n - 1)
    rw [h n (by omega), dpt_cong n (fun i hi => h i (by omega))]
theorem pO_st {O : F3} {t : Nat} {z : Int} {i : Nat} (h : i < O.1) : (pO O t z).2.1 i = O.2.1 i := if_neg (by omega)
theorem pO_nu {O : F3} {t : Nat} {z : Int} {i : Nat} (h : i < O.1) : (pO O t z).2.2 i = O.2.2 i := if_neg (by omega)
theorem pO_sl (O : F3) (t : Nat) (z : Int) : (pO O t z).2.1 O.1 = t := if_pos rfl
theorem pO_nl (O : F3) (t : Nat) (z : Int) : (pO O t z).2.2 O.1 = z := if_pos rfl
theorem pO_d {O : F3} {t : Nat} {z : Int} {i : Nat} (h : i ≤ O.1) : dpt (pO O t z).2.1 i = dpt O.2.1 i := dpt_cong i (fun k hk => pO_st (by omega))
theorem pO_dn (O : F3) (t : Nat) (z : Int) : dpt (pO O t z).2.1 (O.1 + 1) = if 4 ≤ t then dpt O.2.1 O.1 + 1 else if t = 3 then dpt O.2.1 O.1 else dpt O.2.1 O.1 - 1 := by
  show (if 4 ≤ (pO O t z).2.1 O.1 then dpt (pO O t z).2.1 O.1 + 1 else if (pO O t z).2.1 O.1 = 3 then dpt (pO O t z).2.1 O.1 else dpt (pO O t z).2.1 O.1 - 1) = _
  rw [pO_sl, pO_d (Nat.le_refl _)]
/-- what holds while a text is read -/
def psW (m : Bool) (p : Nat) (W : List Nat) (O : F3) : Prop := (∀ i, i < O.1 → okS O i) ∧ (∀ i, i ≤ O.1 → 3 * dpt O.2.1 i ≤ p) ∧ dpt O.2.1 O.1 = psB W + bv m
theorem okS_push {O : F3} {t : Nat} {z : Int} (h : ∀ i, i < O.1 → okS O i) (ht : (4 ≤ t ∧ t ≤ 18 ∧ -999 ≤ z ∧ z ≤ 999) ∨ (t = 3 ∧ 1 ≤ dpt O.2.1 O.1) ∨ ((t = 1 ∨ t = 2) ∧ 2 ≤ dpt O.2.1 O.1)) : ∀ i, i < O.1 + 1 → okS (pO O t z) i := by
  intro i hi
  unfold okS
  by_cases e : i = O.1
  · subst e
    rw [pO_sl, pO_nl, pO_d (Nat.le_refl _)]; exact ht
  · rw [pO_st (by omega), pO_nu (by omega), pO_d (by omega)]; exact h i (by omega)
theorem psW_mv {op p : Nat} (h1 : 1 ≤ op) : ∀ (W : List Nat) (O : F3), psOk W → psW true p W O → psW true p (psM op W O).1 (psM op W O).2
  | [], O, _, h => h
  | x :: r, O, ho, h => by
    obtain ⟨a, b, c⟩ := h
    have hx : x ≤ 3 := ho.1
    have c' : dpt O.2.1 O.1 = (if x = 1 ∨ x = 2 then 1 else 0) + psB r + 1 := c
    rw [psM_s]
    by_cases e : op ≤ x
    · rw [if_pos e]
      refine psW_mv h1 r (pO O x 0) ho.2 ⟨?_, fun i hi => ?_, ?_⟩
      · refine okS_push a ?_
        by_cases y : x = 3
        · exact Or.inr (Or.inl ⟨y, by omega⟩)
        · rw [if_pos (by omega)] at c'
          exact Or.inr (Or.inr ⟨by omega, by omega⟩)
      · have hi' : i ≤ O.1 + 1 := hi
        by_cases y : i = O.1 + 1
        · have bb := b O.1 (Nat.le_refl _)
          rw [y, pO_dn, if_neg (by omega)]
          split <;> omega
        · rw [pO_d (by omega)]; exact b i (by omega)
      · show dpt (pO O x 0).2.1 (O.1 + 1) = psB r + 1
        rw [pO_dn, if_neg (by omega)]
        by_cases y : x = 3
        · rw [if_pos y]
          rw [if_neg (by omega)] at c'; omega
        · rw [if_neg y]
          rw [if_pos (by omega)] at c'; omega
    · rw [if_neg e]; exact ⟨a, b, c⟩
theorem psA_W {tn : Nat} {tx : Nat → Nat} (ht : tn ≤ 40) : ∀ (n : Nat) (m : Bool) (p : Nat) (W : List Nat) (O : F3), psOk W → W.length + O.1 ≤ p → p ≤ tn → psW m p W O → (psA tn tx n m p W O).1 = true → FW (psA tn tx n m p W O).2.2.1 (psA tn tx n m p W O).2.2.2.1 (psA tn tx n m p W O).2.2.2.2 := by
  have fin : ∀ (m : Bool) (p : Nat) (W : List Nat) (O : F3), psOk W → W.length + O.1 ≤ p → p ≤ tn → psW m p W O → (psF m p W O).1 = true → FW (psF m p W O).2.2.1 (psF m p W O).2.2.2.1 (psF m p W O).2.2.2.2 := by
    intro m p W O h1 h2 h3 h4 h5
    unfold psF at h5 ⊢
    by_cases e : m = true ∧ psZ W = 0
    · rw [if_pos e] at h5 ⊢
      obtain ⟨rfl, ez⟩ := e
      have hw := psW_mv (op := 1) (Nat.le_refl _) W O h1 h4
      have hn := psM_nil W O ez
      have hl := psM_len 1 W O
      obtain ⟨a, b, c⟩ := hw
      rw [hn] at c hl
      have hl' : 0 + (psM 1 W O).2.1 = W.length + O.1 := hl
      have c' : dpt (psM 1 W O).2.2.1 (psM 1 W O).2.1 = 0 + 1 := c
      exact ⟨by show (psM 1 W O).2.1 ≤ 40; omega, a, fun i hi => by
        have h6 := b i hi
        show dpt (psM 1 W O).2.2.1 i ≤ 20
        omega, fun _ => c'⟩
    · rw [if_neg e] at h5; cases h5
  intro n
  induction n with
  | zero => intro m p W O h1 h2 h3 h4 h5; exact fin m p W O h1 h2 h3 h4 h5
  | succ n ih =>
    intro m p W O h1 h2 h3 h4 h5
    rw [psA_s] at h5 ⊢
    by_cases e : tn ≤ p
    · rw [if_pos e] at h5 ⊢; exact fin m p W O h1 h2 h3 h4 h5
    · rw [if_neg e] at h5 ⊢
      obtain ⟨a, b, c⟩ := h4
      have b' : ∀ q, p ≤ q → ∀ i, i ≤ O.1 → 3 * dpt O.2.1 i ≤ q := fun q hq i hi => by have := b i hi; omega
      cases m with
      | false =>
        rw [if_pos rfl] at h5 ⊢
        by_cases e1 : psC tn tx p = 33
        · rw [if_pos e1] at h5 ⊢
          exact ih false (p + 1) (3 :: W) O ⟨Nat.le_refl _, h1⟩ (by show W.length + 1 + O.1 ≤ p + 1; omega) (by omega) ⟨a, b' _ (by omega), by
            rw [c]
            show psB W + 0 = (if 3 = 1 ∨ 3 = 2 then 1 else 0) + psB W + 0
            rw [if_neg (by omega)]; omega⟩ h5
        · rw [if_neg e1] at h5 ⊢
          by_cases e2 : psC tn tx p = 40
          · rw [if_pos e2] at h5 ⊢
            exact ih false (p + 1) (0 :: W) O ⟨Nat.zero_le _, h1⟩ (by show W.length + 1 + O.1 ≤ p + 1; omega) (by omega) ⟨a, b' _ (by omega), by
              rw [c]
              show psB W + 0 = (if 0 = 1 ∨ 0 = 2 then 1 else 0) + psB W + 0
              rw [if_neg (by omega)]; omega⟩ h5
          · rw [if_neg e2] at h5 ⊢
            by_cases e3 : (psK tn tx p).1 = true
            · rw [if_pos e3] at h5 ⊢
              obtain ⟨k1, k2, k3, k4, k5, k6⟩ := psK_b e3
              refine ih true (psK tn tx p).2.1 W (pO O (psK tn tx p).2.2.1 (psK tn tx p).2.2.2) h1 (by show W.length + (O.1 + 1) ≤ _; omega) k2 ⟨okS_push a (Or.inl ⟨k3, k4, k5, k6⟩), fun i hi => ?_, ?_⟩ h5
              · have hi' : i ≤ O.1 + 1 := hi
                by_cases y : i = O.1 + 1
                · have bb := b O.1 (Nat.le_refl _)
                  rw [y, pO_dn, if_pos k3]; omega
                · rw [pO_d (by omega)]; have := b i (by omega); omega
              · show dpt (pO O (psK tn tx p).2.2.1 (psK tn tx p).2.2.2).2.1 (O.1 + 1) = psB W + 1
                have c' : dpt O.2.1 O.1 = psB W + 0 := c
                rw [pO_dn, if_pos k3]; omega
            · rw [if_neg e3] at h5; cases h5
      | true =>
        rw [if_neg (by decide)] at h5 ⊢
        have mvW : ∀ op, 1 ≤ op → psW true p (psM op W O).1 (psM op W O).2 := fun op ho => psW_mv ho W O h1 ⟨a, b, c⟩
        by_cases e1 : psC tn tx p = 38
        · rw [if_pos e1] at h5 ⊢
          obtain ⟨x1, x2, x3⟩ := mvW 2 (by omega)
          have hl := psM_len 2 W O
          refine ih false (p + 1) (2 :: (psM 2 W O).1) (psM 2 W O).2 ⟨by omega, psM_ok 2 W O h1⟩ (by show (psM 2 W O).1.length + 1 + (psM 2 W O).2.1 ≤ p + 1; omega) (by omega) ⟨x1, fun i hi => by have := x2 i hi; omega, ?_⟩ h5
          rw [x3]
          show psB (psM 2 W O).1 + 1 = (if 2 = 1 ∨ 2 = 2 then 1 else 0) + psB (psM 2 W O).1 + 0
          rw [if_pos (by omega)]; omega
        · rw [if_neg e1] at h5 ⊢
          by_cases e2 : psC tn tx p = 124
          · rw [if_pos e2] at h5 ⊢
            obtain ⟨x1, x2, x3⟩ := mvW 1 (by omega)
            have hl := psM_len 1 W O
            refine ih false (p + 1) (1 :: (psM 1 W O).1) (psM 1 W O).2 ⟨by omega, psM_ok 1 W O h1⟩ (by show (psM 1 W O).1.length + 1 + (psM 1 W O).2.1 ≤ p + 1; omega) (by omega) ⟨x1, fun i hi => by have := x2 i hi; omega, ?_⟩ h5
            rw [x3]
            show psB (psM 1 W O).1 + 1 = (if 1 = 1 ∨ 1 = 2 then 1 else 0) + psB (psM 1 W O).1 + 0
            rw [if_pos (by omega)]; omega
          · rw [if_neg e2] at h5 ⊢
            by_cases e3 : psC tn tx p = 41 ∧ 0 < psZ W
            · rw [if_pos e3] at h5 ⊢
              obtain ⟨x1, x2, x3⟩ := mvW 1 (by omega)
              have hl := psM_len 1 W O
              have ho := psM_ok 1 W O h1
              obtain ⟨r, hr⟩ := psM_hd W O e3.2
              rw [hr] at h5 hl x3 ho ⊢
              have hl' : r.length + 1 + (psM 1 W O).2.1 = W.length + O.1 := hl
              refine ih true (p + 1) r (psM 1 W O).2 ho.2 (by omega) (by omega) ⟨x1, fun i hi => by have := x2 i hi; omega, ?_⟩ h5
              rw [x3]
              show (if 0 = 1 ∨ 0 = 2 then 1 else 0) + psB r + 1 = psB r + 1
              rw [if_neg (by omega)]; omega
            · rw [if_neg e3] at h5; cases h5
