theorem fp_tails : FP.Core.b64.tails = 4503599627370496 := by decide +kernel
theorem fp_exps : FP.Core.b64.exps = 2048 := by decide +kernel
theorem fp_qmin : FP.Core.b64.qmin = -1074 := by decide +kernel
theorem fp_qmax : FP.Core.b64.qmax = 971 := by decide +kernel
theorem fp_2p : 2 ^ FP.Core.b64.p = 9007199254740992 := by decide +kernel
/-- bits that are no NaN's -/
def fpP (v : Nat) : Prop := v < 18446744073709551616 ∧ v % 9223372036854775808 ≤ 9218868437227405312
theorem fp_as {s : Bool} {e t : Nat} (he : e ≤ 2046) (ht : t < 4503599627370496) : fpP (FP.Core.assemble FP.Core.b64 s e t) := by
  unfold FP.Core.assemble fpP
  rw [fp_tails, fp_exps]
  cases s
  · rw [show Bool.toNat false = 0 from rfl]; omega
  · rw [show Bool.toNat true = 1 from rfl]; omega
theorem fp_inf (s : Bool) : fpP (FP.Core.encode FP.Core.b64 (.inf s)) := by
  unfold fpP
  cases s <;> decide +kernel
theorem fp_bound {s : Bool} {c : Nat} {q : Int} (hc : c < 9007199254740992) : fpP (FP.Core.encode FP.Core.b64 (FP.Core.bound FP.Core.b64 s c q)) := by
  unfold FP.Core.bound
  rw [fp_qmax]
  by_cases h : q ≤ 971
  · rw [if_pos h]
    show fpP (if c < FP.Core.b64.tails then FP.Core.assemble FP.Core.b64 s 0 c else FP.Core.assemble FP.Core.b64 s ((q - FP.Core.b64.qmin).toNat + 1) (c - FP.Core.b64.tails))
    rw [fp_tails, fp_qmin]
    by_cases h2 : c < 4503599627370496
    · rw [if_pos h2]; exact fp_as (by omega) h2
    · rw [if_neg h2]; exact fp_as (by omega) (by omega)
  · rw [if_neg h]; exact fp_inf s
theorem fp_ratio (s : Bool) (num den : Nat) (e : Int) : fpP (FP.Core.encode FP.Core.b64 (FP.Core.roundRatio FP.Core.b64 s num den e)) := by
  unfold FP.Core.roundRatio
  by_cases h : num = 0
  · rw [if_pos h]
    show fpP (if 0 < FP.Core.b64.tails then FP.Core.assemble FP.Core.b64 s 0 0 else FP.Core.assemble FP.Core.b64 s ((FP.Core.b64.qmin - FP.Core.b64.qmin).toNat + 1) (0 - FP.Core.b64.tails))
    rw [fp_tails, if_pos (by decide)]
    exact fp_as (by decide) (by decide)
  · rw [if_neg h]
    unfold FP.Core.roundAt FP.Core.settle
    rw [fp_2p]
    generalize FP.Core.nearest _ _ = c
    by_cases h2 : c < 9007199254740992
    · rw [if_pos h2]; exact fp_bound h2
    · rw [if_neg h2]; exact fp_bound (by rw [fp_tails]; decide)
theorem fp_dec {v : Nat} (h : fpP v) : FP.Core.decode FP.Core.b64 v ≠ .nan := by
  have h0 := h.2
  unfold FP.Core.decode FP.Core.fieldE FP.Core.fieldT
  rw [fp_exps, fp_tails]
  by_cases h1 : v / 4503599627370496 % 2048 = 2048 - 1
  · have h2 : v % 4503599627370496 = 0 := by omega
    rw [if_pos h1, if_pos h2]
    intro q; cases q
  · rw [if_neg h1]
    by_cases h2 : v / 4503599627370496 % 2048 = 0
    · rw [if_pos h2]; intro q; cases q
    · rw [if_neg h2]; intro q; cases q
theorem fp_u {v : Nat} (h : fpP v) : (UInt64.ofNat v).toNat = v := by
  rw [UInt64.toNat_ofNat_of_lt' (by simpa using h.1)]
theorem fp_mask {v : Nat} (h : fpP v) : UInt64.ofNat v &&& 0x7fffffffffffffff ≤ 0x7ff0000000000000 := by
  rw [UInt64.le_iff_toNat_le, UInt64.toNat_and, fp_u h, show (0x7fffffffffffffff : UInt64).toNat = 2 ^ 63 - 1 from rfl, Nat.and_two_pow_sub_one_eq_mod]
  exact h.2
theorem fp_self {D : FP.Core.Datum} (h : D ≠ .nan) : FP.Core.order D D = some .eq := by
  have ci : ∀ a : Int, compare a a = .eq := fun a => by simp [compare, compareOfLessAndEq]
  cases D with
  | nan => exact absurd rfl h
  | inf s => exact congrArg some (ci _)
  | fin s c q => exact congrArg some (ci _)
theorem fp_quot {x : FP.Core.Datum} (hx : x ≠ .nan) {t : Bool} {d : Nat} {r : Int} (hd : d ≠ 0) : fpP (FP.Core.encode FP.Core.b64 (FP.Core.quotient FP.Core.b64 x (.fin t d r))) := by
  cases x with
  | nan => exact absurd rfl hx
  | inf s => exact fp_inf _
  | fin s c q =>
    show fpP (FP.Core.encode FP.Core.b64 (if d = 0 then (if c = 0 then .nan else .inf (s != t)) else FP.Core.roundRatio FP.Core.b64 (s != t) c d (q - r)))
    rw [if_neg hd]; exact fp_ratio _ _ _ _
theorem fp_i2d (x : Int32) : fpP (FP.Core.fromInt FP.Core.b64 x.toInt) := fp_ratio _ _ _ _
def fpD (n : Nat) : Bool := match FP.Core.decode FP.Core.b64 (FP.i2d (nI n)).toNat with
  | .fin _ d _ => d != 0
  | _ => false
def fpC (n : Nat) : Bool := decide ((0 : Int32) < Op.cmpValue (FP.dcmp (FP.i2d (nI n)) FP.dconst0) CmpOp.l)
set_option maxRecDepth 100000 in
theorem fpD_all : ∀ a, a < 60 → ∀ b, b < 60 → fpD (60 * a + b + 1) = true := by decide +kernel
set_option maxRecDepth 100000 in
theorem fpC_all : ∀ a, a < 60 → ∀ b, b < 60 → fpC (60 * a + b + 1) = true := by decide +kernel
theorem avg_ok {n : Nat} (x : Int32) (h0 : 0 < n) (h : n ≤ 3600) : ¬ Op.cmpValue (FP.dcmp (FP.i2d (nI n)) FP.dconst0) CmpOp.l ≤ 0 ∧ FP.ddiv (FP.i2d x) (FP.i2d (nI n)) &&& 0x7fffffffffffffff ≤ 0x7ff0000000000000 ∧ Op.cmpValue (FP.dcmp (FP.ddiv (FP.i2d x) (FP.i2d (nI n))) (FP.ddiv (FP.i2d x) (FP.i2d (nI n)))) CmpOp.l = 0 := by
  have e : 60 * ((n - 1) / 60) + (n - 1) % 60 + 1 = n := by omega
  have hD := fpD_all ((n - 1) / 60) (by omega) ((n - 1) % 60) (by omega)
  have hC := fpC_all ((n - 1) / 60) (by omega) ((n - 1) % 60) (by omega)
  rw [e] at hD hC
  have hP : fpP (FP.Core.div FP.Core.b64 (FP.i2d x).toNat (FP.i2d (nI n)).toNat) := by
    unfold fpD at hD
    unfold FP.Core.div
    have hx : FP.Core.decode FP.Core.b64 (FP.i2d x).toNat ≠ .nan := by
      have e2 : (FP.i2d x).toNat = FP.Core.fromInt FP.Core.b64 x.toInt := fp_u (fp_i2d x)
      rw [e2]; exact fp_dec (fp_i2d x)
    cases hq : FP.Core.decode FP.Core.b64 (FP.i2d (nI n)).toNat with
    | nan => rw [hq] at hD; cases hD
    | inf s => rw [hq] at hD; cases hD
    | fin t d r =>
      rw [hq] at hD
      exact fp_quot hx (by
        intro z
        rw [z] at hD
        cases hD)
  refine ⟨fun q => nle_lt.mpr q (of_decide_eq_true hC), fp_mask hP, ?_⟩
  have e3 : (FP.ddiv (FP.i2d x) (FP.i2d (nI n))).toNat = FP.Core.div FP.Core.b64 (FP.i2d x).toNat (FP.i2d (nI n)).toNat := fp_u hP
  have e4 : FP.dcmp (FP.ddiv (FP.i2d x) (FP.i2d (nI n))) (FP.ddiv (FP.i2d x) (FP.i2d (nI n))) = some .eq := by
    show FP.Core.order (FP.Core.decode FP.Core.b64 (FP.ddiv (FP.i2d x) (FP.i2d (nI n))).toNat) (FP.Core.decode FP.Core.b64 (FP.ddiv (FP.i2d x) (FP.i2d (nI n))).toNat) = some .eq
    rw [e3]
    exact fp_self (fp_dec hP)
  rw [e4]; rfl

theorem P_groupAverage {fu : Nat} (hfu : 100000 ≤ fu) {I : Nat → Int32} {F : Nat → Nat → Int32} (hI : Inv I F) (outD : Nat → UInt64) (v1 : Int32) : ∃ (c9 : Int32 × (Nat → UInt64)) (u9 : UInt64 × Int32 × Int32 × Int32 × Int32 × (Nat → Int32) × (Nat → Int32)), f_L_groupAverage 6 6 1 (F 36) (F 37) v1 outD = some c9 ∧ f_X9_groupAverage fu 960 16 40 40 1783 (I 53) (F 53) (F 54) (F 55) v1 (I 50) (I 61) (I 62) (I 63) (F 59) (F 60) = some u9 ∧ u9.2.1 = c9.1 ∧ (c9.1 = 0 → c9.2 0 = u9.1 ∧ Op.cmpValue (FP.dcmp u9.1 u9.1) CmpOp.l = 0) ∧ Inv (gI [I 0, I 1, I 2, I 3, I 4, I 5, I 6, I 7, I 8, I 9, I 10, I 11, I 12, I 13, I 14, I 15, I 16, I 17, I 18, I 19, I 20, I 21, I 22, I 23, I 24, I 25, I 26, I 27, I 28, I 29, I 30, I 31, I 32, I 33, I 34, I 35, I 36, I 37, I 38, I 39, I 40, I 41, I 42, I 43, I 44, I 45, I 46, I 47, I 48, I 49, u9.2.1, I 51, I 52, I 53, I 54, I 55, I 56, I 57, I 58, I 59, I 60, u9.2.2.1, u9.2.2.2.1, u9.2.2.2.2.1, I 64, I 65, I 66, I 67, I 68, I 69, I 70]) (gF [F 0, F 1, F 2, F 3, F 4, F 5, F 6, F 7, F 8, F 9, F 10, F 11, F 12, F 13, F 14, F 15, F 16, F 17, F 18, F 19, F 20, F 21, F 22, F 23, F 24, F 25, F 26, F 27, F 28, F 29, F 30, F 31, F 32, F 33, F 34, F 35, F 36, F 37, F 38, F 39, F 40, F 41, F 42, F 43, F 44, F 45, F 46, F 47, F 48, F 49, F 50, F 51, F 52, F 53, F 54, F 55, F 56, F 57, F 58, u9.2.2.2.2.2.1, u9.2.2.2.2.2.2, F 61, F 62, F 63, F 64, F 65, F 66, F 67]) := by
  obtain ⟨cur, plan, old, sav, hs, flt, sfl, wat, swa, tn, ch, dep, nx, tx, fa, sv, ha, c1, c2, c3, c4, c5, c6, m1, m2, m3, m4, m5⟩ := hI
  have tb := R2.tb m1.1
  rcases f_finds hfu m1.1 (HM9.of hfu ha.1 m2.1) v1 (I 50) m5.2.2.2.2 (I 62) (I 63) (F 59) with ⟨g, ic', st', cs', hg, ev, f1, cl, hcs⟩ | ⟨no, f1⟩
  · have gb : 0 ≤ GS (JF flt cur) g ∧ GS (JF flt cur) g ≤ 3600 := GS_bd tb.1 tb.2 (mtF flt) g
    obtain ⟨N, hN⟩ : ∃ N : Nat, GS (JF flt cur) g = N := ⟨(GS (JF flt cur) g).toNat, by omega⟩
    have f1' : f_X9_finds fu 960 16 40 40 1783 (I 53) (F 53) (F 54) (F 55) v1 (I 50) (I 61) (I 62) (I 63) (F 59) (F 60) = some (1, 0, ic', nI N, zI (GT (JF flt cur) g), st', cs') := by rw [← zI_nat, ← hN]; exact f1
    have q1 := reqI6 hg ev
    have q2 := f_rowsG hg c5.2.1 hN (by omega)
    have q3 : f_X3_sizeOf 6 (F 36) (nI g) = some (nI N) := by rw [f_sizeOf hg c5.2.1, hN, zI_nat]
    have q4 := f_sumOf hg c5.2.1
    by_cases z : N = 0
    · have h1 : f_L_groupAverage 6 6 1 (F 36) (F 37) v1 outD = some (2, outD) := by
        unfold f_L_groupAverage f_X8_groupAverage
        rw [q1, k_b1S, if_pos rfl, ev, q2, if_pos z, k_b1S, if_neg (by decide), k_b2S, if_neg (by decide), if_neg (by decide), if_pos rfl]
      have h2 : f_X9_groupAverage fu 960 16 40 40 1783 (I 53) (F 53) (F 54) (F 55) v1 (I 50) (I 61) (I 62) (I 63) (F 59) (F 60) = some (FP.dconst0, 2, ic', nI N, zI (GT (JF flt cur) g), st', cs') := by
        unfold f_X9_groupAverage
        rw [f1', k_b7S, if_neg (by decide), if_pos (show nI N = 0 by rw [z]; rfl)]
      exact ⟨_, _, h1, h2, rfl, fun q => absurd (show (2 : Int32) = 0 from q) (by decide), cur, plan, old, sav, hs, flt, sfl, wat, swa, tn, ch, dep, nx, tx, fa, sv, ha, c1, c2, c3, c4, c5, c6, m1, m2, m3, m4, ⟨m5.1, m5.2.1, m5.2.2.1, m5.2.2.2.1, cl⟩⟩
    · obtain ⟨a1, a2, a3⟩ := avg_ok (n := N) (zI (GT (JF flt cur) g)) (by omega) (by omega)
      have h1 : f_L_groupAverage 6 6 1 (F 36) (F 37) v1 outD = some (0, vf_upd outD (0 : Int32).toNatClampNeg (FP.ddiv (FP.i2d (zI (GT (JF flt cur) g))) (FP.i2d (nI N)))) := by
        unfold f_L_groupAverage f_X8_groupAverage f_X6_totals
        rw [q1, k_b1S, if_pos rfl, ev, q2, if_neg z, k_b1S, if_pos rfl, k_b1S, q3, k_b1S, k_letS, if_neg a1, k_b1S, q4, k_b1S, if_pos a2, k_b2S, if_pos rfl, if_pos (by decide)]
      have h2 : f_X9_groupAverage fu 960 16 40 40 1783 (I 53) (F 53) (F 54) (F 55) v1 (I 50) (I 61) (I 62) (I 63) (F 59) (F 60) = some (FP.ddiv (FP.i2d (zI (GT (JF flt cur) g))) (FP.i2d (nI N)), 0, ic', nI N, zI (GT (JF flt cur) g), st', cs') := by
        unfold f_X9_groupAverage
        rw [f1', k_b7S, if_neg (by decide), if_neg (show ¬ nI N = 0 from nI_ne0 (by omega) (by omega)), if_pos a2]
      exact ⟨_, _, h1, h2, rfl, fun _ => ⟨rfl, a3⟩, cur, plan, old, sav, hs, flt, sfl, wat, swa, tn, ch, dep, nx, tx, fa, sv, ha, c1, c2, c3, c4, c5, c6, m1, m2, m3, m4, ⟨m5.1, m5.2.1, m5.2.2.1, m5.2.2.2.1, cl⟩⟩
  · have q1 := reqI6n no
    have h1 : f_L_groupAverage 6 6 1 (F 36) (F 37) v1 outD = some (1, outD) := by
      unfold f_L_groupAverage f_X8_groupAverage
      rw [q1, k_b1S, if_neg (by decide), k_b2S, if_neg (by decide), if_pos rfl]
    have h2 : f_X9_groupAverage fu 960 16 40 40 1783 (I 53) (F 53) (F 54) (F 55) v1 (I 50) (I 61) (I 62) (I 63) (F 59) (F 60) = some (FP.dconst0, 1, I 61, I 62, I 63, F 59, F 60) := by
      unfold f_X9_groupAverage
      rw [f1, k_b7S, if_pos rfl]
    exact ⟨_, _, h1, h2, rfl, fun q => absurd (show (1 : Int32) = 0 from q) (by decide), cur, plan, old, sav, hs, flt, sfl, wat, swa, tn, ch, dep, nx, tx, fa, sv, ha, c1, c2, c3, c4, c5, c6, m1, m2, m3, m4, m5⟩
