/-! Pure facts: numbers. zI z is the int of an integer (a ring map, no bounds needed but for order). -/
def zI (z : Int) : Int32 := Int32.ofInt z
theorem zI_nat (n : Nat) : zI (n : Int) = nI n := Int32.ofInt_eq_ofNat
theorem zI_add (a b : Int) : zI a + zI b = zI (a + b) := (Int32.ofInt_add a b).symm
theorem zI_sub (a b : Int) : zI a - zI b = zI (a - b) := (Int32.ofInt_sub a b).symm
theorem zI_mul (a b : Int) : zI a * zI b = zI (a * b) := (Int32.ofInt_mul a b).symm
theorem zI_neg (a : Int) : -zI a = zI (-a) := (Int32.ofInt_neg a).symm
theorem zI_0 : zI 0 = 0 := rfl
theorem zI_T {z : Int} (h1 : -2147483648 ≤ z) (h2 : z < 2147483648) : (zI z).toInt = z := fb_ofI h1 h2
theorem zI_lt {a b : Int} (h1 : -2147483648 ≤ a) (h2 : a < 2147483648) (h3 : -2147483648 ≤ b) (h4 : b < 2147483648) : zI a < zI b ↔ a < b := by rw [fa_lt, zI_T h1 h2, zI_T h3 h4]
theorem zI_le {a b : Int} (h1 : -2147483648 ≤ a) (h2 : a < 2147483648) (h3 : -2147483648 ≤ b) (h4 : b < 2147483648) : zI a ≤ zI b ↔ a ≤ b := by rw [fa_le, zI_T h1 h2, zI_T h3 h4]
theorem zI_eq {a b : Int} (h1 : -2147483648 ≤ a) (h2 : a < 2147483648) (h3 : -2147483648 ≤ b) (h4 : b < 2147483648) : zI a = zI b ↔ a = b := by rw [fa_eq, zI_T h1 h2, zI_T h3 h4]
theorem zI_z {a : Int} (h1 : -2147483648 ≤ a) (h2 : a < 2147483648) : zI a = 0 ↔ a = 0 := zI_eq (b := 0) h1 h2 (by decide) (by decide)
theorem nI_z {a : Nat} (h : a < 2147483648) : nI a = 0 ↔ a = 0 := nI_eq (b := 0) h (by decide)
theorem q_lt {a b : Nat} (ha : a < 2147483648) (hb : b < 2147483648) : (nI a < nI b) = (a < b) := propext (nI_ltI ha hb)
theorem q_le {a b : Nat} (ha : a < 2147483648) (hb : b < 2147483648) : (nI a ≤ nI b) = (a ≤ b) := propext (nI_leI ha hb)
theorem q_eq {a b : Nat} (ha : a < 2147483648) (hb : b < 2147483648) : (nI a = nI b) = (a = b) := propext (nI_eq ha hb)
theorem q_cl {n : Nat} (h : n < 2147483648) : (nI n).toNatClampNeg = n := nI_clamp h
theorem q_0 : (0 : Int32) = nI 0 := rfl
theorem q_1 : (1 : Int32) = nI 1 := rfl
theorem q_2 : (2 : Int32) = nI 2 := rfl
theorem q_32 : (32 : Int32) = nI 32 := rfl
theorem q_M : (1000000 : Int32) = nI 1000000 := rfl
theorem q_div {a d : Nat} (ha : a < 2147483648) (h0 : 0 < d) (hd : d < 2147483648) : nI a / nI d = nI (a / d) := pk_div ha h0 hd
theorem q_add (a b : Nat) : nI a + nI b = nI (a + b) := nI_add a b
theorem q_sub {a b : Nat} (h : b ≤ a) : nI a - nI b = nI (a - b) := pk_sub h
theorem q_mul (a b : Nat) : nI a * nI b = nI (a * b) := pk_mul a b
theorem k_b1S {α γ : Type} (x : α) (f : α → Option γ) : k_b1 (some x) f = f x := rfl
theorem k_b2S {a b γ : Type} (x : a) (y : b) (f : a → b → Option γ) : k_b2 (some (x, y)) f = f x y := rfl
theorem k_b3S {a b c γ : Type} (x : a) (y : b) (z : c) (f : a → b → c → Option γ) : k_b3 (some (x, y, z)) f = f x y z := rfl
theorem k_b4S {a b c d γ : Type} (x : a) (y : b) (z : c) (w : d) (f : a → b → c → d → Option γ) : k_b4 (some (x, y, z, w)) f = f x y z w := rfl
theorem k_letS {α β : Type} (x : α) (f : α → β) : k_let x f = f x := rfl
theorem f_codeAt {lim n i : Nat} {codes : Nat → Int32} (hl : lim < 1000000) (hn : n ≤ lim) (hi : i < 1000000) : f_X0_codeAt lim (nI n) codes (nI i) = some (if i < n then codes i else nI 1000000) := by
  unfold f_X0_codeAt
  by_cases h : i < n
  · simp (disch := omega) only [q_0, q_lt, q_le, q_cl, k_letS, if_pos, if_neg]
  · simp (disch := omega) only [q_0, q_M, q_lt, q_le, q_cl, k_letS, if_pos, if_neg]
