/-! Pure facts: filters. A filter is N steps: st i (1 or, 2 and, 3 not, 4 + 3 * name + relation), nu i the number. -/
def bv (b : Bool) : Nat := if b then 1 else 0
theorem bv_le (b : Bool) : bv b ≤ 1 := by cases b <;> decide
def bits : List Bool → Nat
  | [] => 0
  | b :: r => 2 * bits r + bv b
theorem bits_lt : ∀ s : List Bool, bits s < 2 ^ s.length
  | [] => by decide
  | b :: r => by
    have h := bits_lt r
    have h2 := bv_le b
    show 2 * bits r + bv b < 2 ^ (r.length + 1)
    rw [Nat.pow_succ]; omega
theorem ext2 {p q : Nat} (h1 : p / 2 = q / 2) (h2 : p % 2 = 1 ↔ q % 2 = 1) : p = q := by omega
theorem bv_one (b : Bool) : bv b = 1 ↔ b = true := by cases b <;> decide
theorem bv_mod (n : Nat) (b : Bool) : (2 * n + bv b) % 2 = 1 ↔ b = true := by rw [← bv_one]; have := bv_le b; omega
theorem bv_div (n : Nat) (b : Bool) : (2 * n + bv b) / 2 = n := by have := bv_le b; omega
theorem bv_d0 (b : Bool) : bv b / 2 = 0 := by have := bv_le b; omega
theorem bv_m0 (b : Bool) : bv b % 2 = 1 ↔ b = true := by rw [← bv_one]; have := bv_le b; omega
theorem nar0 : vp_nar .boolean (0 : Int32) = (0 : Int32) := by decide +kernel
theorem nar1 : vp_nar .boolean (1 : Int32) = (1 : Int32) := by decide +kernel
theorem b_push {n : Nat} (b : Bool) (h : n < 1073741824) : (nI n <<< ((1 : Int32) &&& 31)) ||| nI (bv b) = nI (2 * n + bv b) := by
  rw [pk_shlN (n := n) _ 1 (by decide +kernel) (by omega), fa_or]
  congr 1
  refine ext2 ?_ ?_
  · rw [Nat.or_div_two, bv_d0, bv_div, Nat.or_zero]; omega
  · rw [Nat.or_mod_two_eq_one, bv_mod, bv_m0]
    constructor
    · rintro (h | h)
      · omega
      · exact h
    · exact Or.inr
theorem b_not (n : Nat) (b : Bool) : nI (2 * n + bv b) ^^^ 1 = nI (2 * n + bv (!b)) := by
  rw [q_1, fb_xorI]
  congr 1
  refine ext2 ?_ ?_
  · rw [Nat.xor_div_two, bv_div, bv_div]; simp
  · rw [Nat.xor_mod_two_eq_one, bv_mod, bv_mod]; cases b <;> simp
theorem b_low {n : Nat} (b : Bool) (h : n < 1073741824) : nI (2 * n + bv b) &&& 1 = nI (bv b) := by
  have := bv_le b
  rw [pk_andN (n := 2 * n + bv b) (by omega) 1 (by decide +kernel)]
  congr 1; omega
theorem b_shr {n : Nat} (b : Bool) (h : n < 1073741824) : ((nI (2 * n + bv b)).toUInt32 >>> ((1 : Int32).toUInt32 &&& Int32.toUInt32 31)).toInt32 = nI n := by
  have := bv_le b
  rw [pk_ushrN (n := 2 * n + bv b) (by omega) 1 1 (by decide +kernel)]
  congr 1; omega
theorem b_or (n : Nat) (x y : Bool) : nI (2 * n + bv x) ||| nI (bv y) = nI (2 * n + bv (x || y)) := by
  rw [fa_or]
  congr 1
  refine ext2 ?_ ?_
  · rw [Nat.or_div_two, bv_d0, bv_div, bv_div, Nat.or_zero]
  · rw [Nat.or_mod_two_eq_one, bv_mod, bv_mod, bv_m0]; cases x <;> cases y <;> simp
theorem b_and {n : Nat} (x y : Bool) (h : n < 1073741824) : nI (2 * n + bv x) &&& (nI (bv y) ||| (-2)) = nI (2 * n + bv (x && y)) := by
  have e : nI (bv y) ||| (-2) = nI (2 * 2147483647 + bv y) := by cases y <;> decide +kernel
  rw [e, fa_and]
  congr 1
  refine ext2 ?_ ?_
  · rw [Nat.and_div_two, bv_div, bv_div, bv_div]
    have := Nat.and_two_pow_sub_one_eq_mod n 31
    have e2 : (2 : Nat) ^ 31 - 1 = 2147483647 := by decide
    rw [e2] at this
    rw [this]
    exact Nat.mod_eq_of_lt (by omega)
  · rw [Nat.and_mod_two_eq_one, bv_mod, bv_mod, bv_mod]; cases x <;> cases y <;> simp
def opn (a : Nat) (k g v f : Int) : Int := if a = 0 then k else if a = 1 then g else if a = 2 then v else if a = 3 then f else v * f
def cmp (r : Nat) (x z : Int) : Bool := if r = 0 then decide (x < z) else if r = 1 then decide (x = z) else decide (z < x)
def tokB (k g v f : Int) (t : Nat) (z : Int) : Bool := cmp ((t - 4) % 3) (opn ((t - 4) / 3) k g v f) z
def ev1 (k g v f : Int) (t : Nat) (z : Int) (s : List Bool) : List Bool :=
  if 4 ≤ t then tokB k g v f t z :: s else if t = 3 then (match s with
    | x :: r => (!x) :: r
    | [] => []) else (match s with
    | y :: x :: r => (if t = 2 then x && y else x || y) :: r
    | r => r)
def evF (k g v f : Int) (st : Nat → Nat) (nu : Nat → Int) : Nat → List Bool
  | 0 => []
  | i + 1 => ev1 k g v f (st i) (nu i) (evF k g v f st nu i)
def dpt (st : Nat → Nat) : Nat → Nat
  | 0 => 0
  | i + 1 => if 4 ≤ st i then dpt st i + 1 else if st i = 3 then dpt st i else dpt st i - 1
/-- a filter that can be evaluated -/
def FW (N : Nat) (st : Nat → Nat) (nu : Nat → Int) : Prop :=
  N ≤ 40 ∧ (∀ i, i < N → (4 ≤ st i ∧ st i ≤ 18 ∧ -999 ≤ nu i ∧ nu i ≤ 999) ∨ (st i = 3 ∧ 1 ≤ dpt st i) ∨ ((st i = 1 ∨ st i = 2) ∧ 2 ≤ dpt st i)) ∧ (∀ i, i ≤ N → dpt st i ≤ 20) ∧ (0 < N → dpt st N = 1)
def HF (N : Nat) (st : Nat → Nat) (nu : Nat → Int) (k g v f : Int) : Bool := if N = 0 then true else (evF k g v f st nu N).headD false
theorem evF_len {N : Nat} {st : Nat → Nat} {nu : Nat → Int} (h : FW N st nu) (k g v f : Int) : ∀ i, i ≤ N → (evF k g v f st nu i).length = dpt st i
  | 0, _ => rfl
  | i + 1, hi => by
    have ih := evF_len h k g v f i (by omega)
    show (ev1 k g v f (st i) (nu i) (evF k g v f st nu i)).length = if 4 ≤ st i then dpt st i + 1 else if st i = 3 then dpt st i else dpt st i - 1
    unfold ev1
    rcases h.2.1 i (by omega) with ⟨a, _⟩ | ⟨a, b⟩ | ⟨a, b⟩
    · simp only [if_pos a, List.length_cons, ih]
    · have a4 : ¬ 4 ≤ st i := by omega
      simp only [if_neg a4, if_pos a]
      cases e : evF k g v f st nu i with
      | nil => rw [e] at ih; simp at ih; omega
      | cons x r => rw [e] at ih; exact ih
    · have a4 : ¬ 4 ≤ st i := by omega
      have a3 : ¬ st i = 3 := by omega
      simp only [if_neg a4, if_neg a3]
      cases e : evF k g v f st nu i with
      | nil => rw [e] at ih; simp at ih; omega
      | cons x r =>
        cases r with
        | nil => rw [e] at ih; simp at ih; omega
        | cons y r =>
          rw [e] at ih
          simp only [List.length_cons] at ih ⊢
          omega
theorem f_isFilled1 {N i : Nat} (hN : N ≤ 40) (hi : i < N) : f_X1_isFilled 40 40 (nI N) (nI i) = some 1 := by
  unfold f_X1_isFilled
  rw [if_neg (nI_pos (by omega)), if_neg (by rw [q_le (by omega) (by omega)]; omega), if_neg (by rw [q_le (by omega) (by omega)]; omega), if_neg (by rw [q_le (by omega) (by omega)]; omega), if_pos nar1]
theorem f_operand {a : Nat} (ha : a ≤ 4) (k g v f : Int) : f_X1_operandOf (nI a) (zI k) (zI g) (zI v) (zI f) = some (zI (opn a k g v f)) := by
  unfold f_X1_operandOf opn
  rcases (show a = 0 ∨ a = 1 ∨ a = 2 ∨ a = 3 ∨ a = 4 by omega) with rfl | rfl | rfl | rfl | rfl
  · rfl
  · rw [if_neg (by decide), if_pos (by decide)]; rfl
  · rw [if_neg (by decide), if_neg (by decide), if_pos (by decide)]; rfl
  · rw [if_neg (by decide), if_neg (by decide), if_neg (by decide), if_pos (by decide)]; rfl
  · rw [if_neg (by decide), if_neg (by decide), if_neg (by decide), if_neg (by decide), zI_mul]; rfl
theorem f_compare1 {r : Nat} (hr : r ≤ 2) {x z : Int} (hx : -1000000 ≤ x ∧ x ≤ 1000000) (hz : -1000000 ≤ z ∧ z ≤ 1000000) : f_X1_compare (zI x) (nI r) (zI z) = some (nI (bv (cmp r x z))) := by
  unfold f_X1_compare
  rcases (show r = 0 ∨ r = 1 ∨ r = 2 by omega) with rfl | rfl | rfl
  · show _ = some (nI (bv (decide (x < z))))
    rw [if_pos (show nI 0 = 0 by decide)]
    by_cases h : x < z
    · rw [if_neg (by rw [zI_le (by omega) (by omega) (by omega) (by omega)]; omega), decide_eq_true h]; rfl
    · rw [if_pos (by rw [zI_le (by omega) (by omega) (by omega) (by omega)]; omega), decide_eq_false h]; rfl
  · show _ = some (nI (bv (decide (x = z))))
    rw [if_neg (show ¬ nI 1 = 0 by decide), if_pos (show nI 1 = 1 by decide)]
    by_cases h : x = z
    · rw [if_pos (show zI x = zI z by rw [h]), decide_eq_true h]; rfl
    · rw [if_neg (show ¬ zI x = zI z by rw [zI_eq (by omega) (by omega) (by omega) (by omega)]; omega), decide_eq_false h]; rfl
  · show _ = some (nI (bv (decide (z < x))))
    rw [if_neg (show ¬ nI 2 = 0 by decide), if_neg (show ¬ nI 2 = 1 by decide)]
    by_cases h : z < x
    · rw [if_neg (by rw [zI_le (by omega) (by omega) (by omega) (by omega)]; omega), decide_eq_true h]; rfl
    · rw [if_pos (by rw [zI_le (by omega) (by omega) (by omega) (by omega)]; omega), decide_eq_false h]; rfl
/-- the class's filter -/
def FC (N : Nat) (st : Nat → Nat) (nu : Nat → Int) (size : Int32) (steps numbers : Nat → Int32) : Prop := size = nI N ∧ ∀ i, i < N → steps i = nI (st i) ∧ numbers i = zI (nu i)
/-- numbers that a filter is asked about -/
def KV (k g v f : Int) : Prop := -1000 ≤ k ∧ k ≤ 1000 ∧ -1000 ≤ g ∧ g ≤ 1000 ∧ -99 ≤ v ∧ v ≤ 99 ∧ -9 ≤ f ∧ f ≤ 9
theorem mul_bd {v f : Int} (h1 : -99 ≤ v) (h2 : v ≤ 99) (h3 : -9 ≤ f) (h4 : f ≤ 9) : -891 ≤ v * f ∧ v * f ≤ 891 := by
  rcases (show f = -9 ∨ f = -8 ∨ f = -7 ∨ f = -6 ∨ f = -5 ∨ f = -4 ∨ f = -3 ∨ f = -2 ∨ f = -1 ∨ f = 0 ∨ f = 1 ∨ f = 2 ∨ f = 3 ∨ f = 4 ∨ f = 5 ∨ f = 6 ∨ f = 7 ∨ f = 8 ∨ f = 9 by omega) with h | h | h | h | h | h | h | h | h | h | h | h | h | h | h | h | h | h | h <;> subst h <;> omega
theorem opn_bd {k g v f : Int} (h : KV k g v f) (a : Nat) : -1000000 ≤ opn a k g v f ∧ opn a k g v f ≤ 1000000 := by
  obtain ⟨h1, h2, h3, h4, h5, h6, h7, h8⟩ := h
  have h9 := mul_bd h5 h6 h7 h8
  unfold opn
  repeat' split
  all_goals omega
