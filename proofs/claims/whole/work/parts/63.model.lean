theorem jc_div {l : Nat} (r : Nat) : jc l r / 1783 = l / 199 ∧ jc l r % 1783 = pp l r := by
  have h := pp_lt l r
  have e : jc l r = l / 199 * 1783 + pp l r := rfl
  rw [e]; omega
theorem si_mulr (f : Nat → Int) (c : Int) (n : Nat) : fb_si (fun k => f k * c) n = fb_si f n * c := by
  have := fb_si_mul c f n
  rw [Int.mul_comm, ← this]
  exact fb_si_cong (fun k _ => Int.mul_comm _ _)
/-- a weighted sum over the join is one over the pairs -/
theorem JW (mt : Nat → Nat → Bool) (mL mR w : Nat → Int) : fb_si (fun c => w c * JJ mt mL mR c) 106980 = fb_si (fun l => mL l * fb_si (fun r => mR r * (if mt l r = true then w (jc l r) else 0)) 190) 11940 := by
  have e1 : fb_si (fun c => w c * JJ mt mL mR c) 106980 = fb_si (fun c => fb_si (fun l => w c * (mL l * RW mt mR l c)) 11940) 106980 := fb_si_cong (fun c _ => by rw [fb_si_mul]; rfl)
  rw [e1, si_swap (fun c l => w c * (mL l * RW mt mR l c)) 11940 106980]
  refine fb_si_cong (fun l hl => ?_)
  have e2 : fb_si (fun c => w c * (mL l * RW mt mR l c)) 106980 = mL l * fb_si (fun c => fb_si (fun r => w c * (mR r * ix mt l c r)) 190) 106980 := by
    rw [← fb_si_mul]
    refine fb_si_cong (fun c _ => ?_)
    rw [fb_si_mul, ← Int.mul_assoc, Int.mul_comm (w c), Int.mul_assoc]; rfl
  rw [e2, si_swap (fun c r => w c * (mR r * ix mt l c r)) 190 106980]
  refine congrArg (fun z => mL l * z) ?_
  refine fb_si_cong (fun r _ => ?_)
  have e3 : fb_si (fun c => w c * (mR r * ix mt l c r)) 106980 = mR r * fb_si (fun c => w c * ix mt l c r) 106980 := by
    rw [← fb_si_mul]
    refine fb_si_cong (fun c _ => ?_)
    rw [← Int.mul_assoc, Int.mul_comm (w c), Int.mul_assoc]
  rw [e3]
  refine congrArg (fun z => mR r * z) ?_
  by_cases e : mt l r = true
  · rw [if_pos e]
    have e4 : fb_si (fun c => w c * ix mt l c r) 106980 = fb_si (fun c => if c = jc l r then w (jc l r) else 0) 106980 := fb_si_cong (fun c _ => by
      unfold ix
      by_cases x : c = jc l r
      · rw [if_pos ⟨e, x.symm⟩, if_pos x, x, Int.mul_one]
      · rw [if_neg (fun q => x q.2.symm), if_neg x, Int.mul_zero])
    rw [e4, si_one _ (jc_lt hl r)]
  · rw [if_neg e, si_0 (f := fun c => w c * ix mt l c r) (fun c _ => by rw [ix_0 c (Bool.eq_false_iff.mpr e), Int.mul_zero])]
def selK (kg l : Nat) : Bool := decide (l / 199 = kg)
def selG (g l : Nat) : Bool := decide (lg l = g)
theorem CW_K (mt : Nat → Nat → Bool) (mL mR : Nat → Int) (kg p : Nat) (hp : p < 1783) : CW mt mL mR (selK kg) p = JJ mt mL mR (kg * 1783 + p) := by
  unfold CW JJ
  refine fb_si_cong (fun l _ => congrArg (fun z => mL l * z) ?_)
  unfold RW
  by_cases e : l / 199 = kg
  · rw [if_pos (show selK kg l = true from decide_eq_true e)]
    refine fb_si_cong (fun r _ => congrArg (fun z => mR r * z) ?_)
    have h := jc_div (l := l) r
    unfold ip ix
    by_cases x : mt l r = true ∧ pp l r = p
    · rw [if_pos x, if_pos ⟨x.1, by omega⟩]
    · rw [if_neg x, if_neg (fun q => x ⟨q.1, by omega⟩)]
  · rw [if_neg (show ¬ selK kg l = true from fun q => e (of_decide_eq_true q))]
    refine (si_0 (fun r _ => ?_)).symm
    have h := jc_div (l := l) r
    have : ix mt l (kg * 1783 + p) r = 0 := if_neg (fun q => by omega)
    rw [this, Int.mul_zero]
/-- the products of a group, by place -/
def TL (m : Nat → Int) (g p : Nat) : Int := fb_si (fun c => if jg c = g ∧ c % 1783 = p then m c else 0) 106980
theorem CW_G (mt : Nat → Nat → Bool) (mL mR : Nat → Int) (g p : Nat) : CW mt mL mR (selG g) p = TL (JJ mt mL mR) g p := by
  have h := JW mt mL mR (fun c => if jg c = g ∧ c % 1783 = p then 1 else 0)
  have e : TL (JJ mt mL mR) g p = fb_si (fun c => (fun c => if jg c = g ∧ c % 1783 = p then (1 : Int) else 0) c * JJ mt mL mR c) 106980 := fb_si_cong (fun c _ => by
    show (if jg c = g ∧ c % 1783 = p then JJ mt mL mR c else 0) = (if jg c = g ∧ c % 1783 = p then (1 : Int) else 0) * JJ mt mL mR c
    split
    · rw [Int.one_mul]
    · rw [Int.zero_mul])
  rw [e, h]
  unfold CW
  refine fb_si_cong (fun l _ => congrArg (fun z => mL l * z) ?_)
  have hd := fun r => jc_div (l := l) r
  by_cases e2 : lg l = g
  · rw [if_pos (show selG g l = true from decide_eq_true e2)]
    refine fb_si_cong (fun r _ => congrArg (fun z => mR r * z) ?_)
    unfold ip
    have h1 : jg (jc l r) = lg l := by unfold jg lg; rw [(hd r).1]
    by_cases x : mt l r = true
    · rw [if_pos x]
      by_cases y : pp l r = p
      · rw [if_pos ⟨x, y⟩, if_pos ⟨by rw [h1, e2], by rw [(hd r).2, y]⟩]
      · rw [if_neg (fun q => y q.2), if_neg (fun q => y (by rw [← (hd r).2]; exact q.2))]
    · rw [if_neg (fun q => x q.1), if_neg x]
  · rw [if_neg (show ¬ selG g l = true from fun q => e2 (of_decide_eq_true q))]
    refine (si_0 (fun r _ => ?_)).symm
    have h1 : jg (jc l r) = lg l := by unfold jg lg; rw [(hd r).1]
    have : (if mt l r = true then (if jg (jc l r) = g ∧ jc l r % 1783 = p then (1 : Int) else 0) else 0) = 0 := by
      rw [h1]
      split
      · exact if_neg (fun q => e2 q.1)
      · rfl
    rw [this, Int.mul_zero]
theorem TL_w (m w : Nat → Int) (g : Nat) : fb_si (fun p => TL m g p * w p) 1783 = fb_si (fun c => if jg c = g then m c * w (c % 1783) else 0) 106980 := by
  have e : fb_si (fun p => TL m g p * w p) 1783 = fb_si (fun p => fb_si (fun c => (if jg c = g ∧ c % 1783 = p then m c else 0) * w p) 106980) 1783 := fb_si_cong (fun p _ => by rw [si_mulr]; rfl)
  rw [e, si_swap (fun p c => (if jg c = g ∧ c % 1783 = p then m c else 0) * w p) 106980 1783]
  refine fb_si_cong (fun c _ => ?_)
  by_cases x : jg c = g
  · rw [if_pos x]
    have e2 : fb_si (fun p => (if jg c = g ∧ c % 1783 = p then m c else 0) * w p) 1783 = fb_si (fun p => if p = c % 1783 then m c * w (c % 1783) else 0) 1783 := fb_si_cong (fun p _ => by
      by_cases y : p = c % 1783
      · rw [if_pos ⟨x, y.symm⟩, if_pos y, y]
      · rw [if_neg (fun q => y q.2.symm), if_neg y, Int.zero_mul])
    rw [e2, si_one _ (Nat.mod_lt _ (by decide))]
  · rw [if_neg x]
    exact si_0 (fun p _ => by rw [if_neg (fun q => x q.1), Int.zero_mul])
theorem TL_s (m : Nat → Int) (g : Nat) : fb_si (TL m g) 1783 = GS m g := by
  have h := TL_w m (fun _ => 1) g
  have e1 : fb_si (TL m g) 1783 = fb_si (fun p => TL m g p * 1) 1783 := fb_si_cong (fun p _ => (Int.mul_one _).symm)
  rw [e1, h]
  exact fb_si_cong (fun c _ => by split <;> simp)
theorem TL_t (m : Nat → Int) (g : Nat) : fb_si (fun p => TL m g p * ((p : Int) - 891)) 1783 = GT m g := TL_w m (fun p => (p : Int) - 891) g
