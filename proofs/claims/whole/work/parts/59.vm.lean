/-! Pure facts: arguments in range. -/
def bw (x lo hi : Int32) : Bool := decide (lo ≤ x ∧ x ≤ hi)
theorem nle_lt {x y : Int32} : ¬ x < y ↔ y ≤ x := by rw [fa_lt, fa_le]; omega
theorem f_within (x lo hi : Int32) : f_X8_isWithin x lo hi = some (nI (bv (bw x lo hi))) := by
  unfold f_X8_isWithin bw
  by_cases h1 : x < lo
  · rw [if_pos h1, if_pos nar0, decide_eq_false (fun q => nle_lt.mpr q.1 h1)]; rfl
  · rw [if_neg h1]
    by_cases h2 : hi < x
    · rw [if_pos h2, if_pos nar0, decide_eq_false (fun q => nle_lt.mpr q.2 h2)]; rfl
    · rw [if_neg h2, if_pos nar1, decide_eq_true ⟨nle_lt.mp h1, nle_lt.mp h2⟩]; rfl
theorem f_between (x lo hi : Int32) : f_X9_isBetween x lo hi = some (nI (bv (bw x lo hi))) := f_within x lo hi
theorem f_isKey (x : Int32) : f_X8_isKey x = some (nI (bv (bw x 0 9))) := by
  unfold f_X8_isKey
  rw [f_within, k_b1S, if_pos (vnar _)]
theorem f_isGroup (x : Int32) : f_X8_isGroup x = some (nI (bv (bw x 0 5))) := by
  unfold f_X8_isGroup
  rw [f_within, k_b1S, if_pos (vnar _)]
def LV (a b c : Int32) : Bool := bw a 0 9 && bw b 0 5 && bw c (-99) 99
def RV (a b : Int32) : Bool := bw a 0 9 && bw b (-9) 9
theorem f_reqL (a b c : Int32) : f_X8_requireLeftRow a b c = some (if LV a b c = true then 0 else 1) := by
  unfold f_X8_requireLeftRow LV
  rw [f_isKey, k_b1S, f_isGroup, k_b1S, f_within, k_b1S]
  cases bw a 0 9
  · rfl
  · rw [if_neg (by decide)]
    cases bw b 0 5
    · rfl
    · rw [if_neg (by decide)]
      cases bw c (-99) 99
      · rfl
      · rfl
theorem f_reqR (a b : Int32) : f_X8_requireRightRow a b = some (if RV a b = true then 0 else 1) := by
  unfold f_X8_requireRightRow RV
  rw [f_isKey, k_b1S, f_within, k_b1S]
  cases bw a 0 9
  · rfl
  · rw [if_neg (by decide)]
    cases bw b (-9) 9
    · rfl
    · rfl
theorem f_isLeft9 (a b c : Int32) : f_X9_isLeft a b c = some (nI (bv (LV a b c))) := by
  unfold f_X9_isLeft LV
  rw [f_between, k_b1S, f_between, k_b1S, f_between, k_b1S, if_pos nar0, if_pos nar1]
  cases bw a 0 9
  · rfl
  · cases bw b 0 5
    · rfl
    · cases bw c (-99) 99
      · rfl
      · rfl
theorem f_isRight9 (a b : Int32) : f_X9_isRight a b = some (nI (bv (RV a b))) := by
  unfold f_X9_isRight RV
  rw [f_between, k_b1S, f_between, k_b1S, if_pos nar0, if_pos nar1]
  cases bw a 0 9
  · rfl
  · cases bw b (-9) 9
    · rfl
    · rfl
theorem zI_self (x : Int32) : zI x.toInt = x := fb_asI x
theorem bw_int {x : Int32} {lo hi : Int} (h1 : -2147483648 ≤ lo) (h2 : lo < 2147483648) (h3 : -2147483648 ≤ hi) (h4 : hi < 2147483648) (h : bw x (zI lo) (zI hi) = true) : lo ≤ x.toInt ∧ x.toInt ≤ hi := by
  have := of_decide_eq_true h
  rw [fa_le, fa_le, zI_T h1 h2, zI_T h3 h4] at this
  exact this
theorem LV_code {a b c : Int32} (h : LV a b c = true) : ∃ q : Nat, q < 11940 ∧ (a * 6 + b) * 199 + c + 99 = nI q ∧ a = nI (lk q) ∧ b = nI (lg q) ∧ c = zI (lv q) := by
  unfold LV at h
  rw [Bool.and_eq_true, Bool.and_eq_true] at h
  obtain ⟨⟨h1, h2⟩, h3⟩ := h
  have a1 := bw_int (lo := 0) (hi := 9) (by decide) (by decide) (by decide) (by decide) h1
  have b1 := bw_int (lo := 0) (hi := 5) (by decide) (by decide) (by decide) (by decide) h2
  have c1 := bw_int (lo := -99) (hi := 99) (by decide) (by decide) (by decide) (by decide) h3
  obtain ⟨A, hA⟩ : ∃ A : Nat, a.toInt = A := ⟨a.toInt.toNat, by omega⟩
  obtain ⟨B, hB⟩ : ∃ B : Nat, b.toInt = B := ⟨b.toInt.toNat, by omega⟩
  obtain ⟨C, hC⟩ : ∃ C : Nat, c.toInt = (C : Int) - 99 := ⟨(c.toInt + 99).toNat, by omega⟩
  have ea : a = zI (A : Int) := by rw [← hA, zI_self]
  have eb : b = zI (B : Int) := by rw [← hB, zI_self]
  have ec : c = zI ((C : Int) - 99) := by rw [← hC, zI_self]
  refine ⟨(A * 6 + B) * 199 + C, by omega, ?_, ?_, ?_, ?_⟩
  · rw [ea, eb, ec, ← zI_nat]
    show (zI A * zI 6 + zI B) * zI 199 + zI ((C : Int) - 99) + zI 99 = _
    rw [zI_mul, zI_add, zI_mul, zI_add, zI_add]; congr 1; omega
  · rw [ea, zI_nat]; congr 1; unfold lk; omega
  · rw [eb, zI_nat]; congr 1; unfold lg; omega
  · rw [ec]; congr 1; unfold lv; omega
theorem RV_code {a b : Int32} (h : RV a b = true) : ∃ q : Nat, q < 190 ∧ a * 19 + b + 9 = nI q ∧ a = nI (rk q) ∧ b = zI (rf q) := by
  unfold RV at h
  rw [Bool.and_eq_true] at h
  obtain ⟨h1, h3⟩ := h
  have a1 := bw_int (lo := 0) (hi := 9) (by decide) (by decide) (by decide) (by decide) h1
  have c1 := bw_int (lo := -9) (hi := 9) (by decide) (by decide) (by decide) (by decide) h3
  obtain ⟨A, hA⟩ : ∃ A : Nat, a.toInt = A := ⟨a.toInt.toNat, by omega⟩
  obtain ⟨C, hC⟩ : ∃ C : Nat, b.toInt = (C : Int) - 9 := ⟨(b.toInt + 9).toNat, by omega⟩
  have ea : a = zI (A : Int) := by rw [← hA, zI_self]
  have ec : b = zI ((C : Int) - 9) := by rw [← hC, zI_self]
  refine ⟨A * 19 + C, by omega, ?_, ?_, ?_⟩
  · rw [ea, ec, ← zI_nat]
    show zI A * zI 19 + zI ((C : Int) - 9) + zI 9 = _
    rw [zI_mul, zI_add, zI_add]; congr 1; omega
  · rw [ea, zI_nat]; congr 1; unfold rk; omega
  · rw [ec]; congr 1; unfold rf; omega
