/-! THE INVARIANT. -/
def gI (l : List Int32) (k : Nat) : Int32 := l.getD k 0
def gF (l : List (Nat → Int32)) (k : Nat) : Nat → Int32 := l.getD k (fun _ => 0)
/-- two tables: counts of left rows, of right rows -/
abbrev T2 : Type := (Nat → Int) × (Nat → Int)
/-- a filter: how many steps, the steps, their numbers -/
abbrev F3 : Type := Nat × (Nat → Nat) × (Nat → Int)
/-- watches: how many, their groups, their bounds -/
abbrev W3 : Type := Nat × (Nat → Nat) × (Nat → Int32)
def C2 (t : T2) (ls lt : Int32) (lc ln : Nat → Int32) (rs rt : Int32) (rc rn : Nat → Int32) : Prop := CR 60 11940 t.1 ls lt lc ln ∧ CR 60 190 t.2 rs rt rc rn
def M2 (k : Nat) (t : T2) (rows size : Nat → Int32) : Prop := R2 k t.1 t.2 rows size
def mtF (f : F3) : Nat → Nat → Bool := MT f.1 f.2.1 f.2.2
def JF (f : F3) (t : T2) : Nat → Int := JJ (mtF f) t.1 t.2
def WW (w : W3) : Prop := w.1 ≤ 6 ∧ ∀ i, i < w.1 → w.2.1 i < 6
def WE (w : W3) (size : Int32) (groups bounds : Nat → Int32) : Prop := size = nI w.1 ∧ ∀ i, i < w.1 → groups i = nI (w.2.1 i) ∧ bounds i = w.2.2 i
def TE (tn : Nat) (tx : Nat → Nat) (length : Int32) (text : Nat → Int32) : Prop := length = nI tn ∧ ∀ i, i < tn → text i = nI (tx i)
/-- the class's tables -/
def ICt (cur plan sav : T2) (hs : Nat → T2) (I : Nat → Int32) (F : Nat → Nat → Int32) : Prop :=
  C2 cur (I 3) (I 4) (F 0) (F 1) (I 5) (I 6) (F 2) (F 3) ∧ C2 plan (I 7) (I 8) (F 4) (F 5) (I 9) (I 10) (F 6) (F 7) ∧ C2 sav (I 44) (I 45) (F 45) (F 46) (I 46) (I 47) (F 47) (F 48) ∧ C2 (hs 0) (I 13) (I 14) (F 8) (F 9) (I 15) (I 16) (F 10) (F 11) ∧ C2 (hs 1) (I 17) (I 18) (F 12) (F 13) (I 19) (I 20) (F 14) (F 15) ∧ C2 (hs 2) (I 21) (I 22) (F 16) (F 17) (I 23) (I 24) (F 18) (F 19) ∧ C2 (hs 3) (I 25) (I 26) (F 20) (F 21) (I 27) (I 28) (F 22) (F 23)
def ICf (flt sfl : F3) (I : Nat → Int32) (F : Nat → Nat → Int32) : Prop := FC flt.1 flt.2.1 flt.2.2 (I 29) (F 24) (F 25) ∧ FC sfl.1 sfl.2.1 sfl.2.2 (I 48) (F 49) (F 50)
def ICw (wat swa : W3) (I : Nat → Int32) (F : Nat → Nat → Int32) : Prop := WE wat (I 35) (F 30) (F 31) ∧ WE swa (I 49) (F 51) (F 52)
def ICr (tn : Nat) (tx : Nat → Nat) (I : Nat → Int32) (F : Nat → Nat → Int32) : Prop := TE tn tx (I 30) (F 26)
def ICv (flt : F3) (cur old : T2) (I : Nat → Int32) (F : Nat → Nat → Int32) : Prop :=
  CR 1140 106980 (JF flt cur) (I 36) (I 37) (F 32) (F 33) ∧ TT (JF flt cur) (F 36) (F 37) ∧ TT (JF flt old) (F 38) (F 39) ∧
  CR 2280 106980 (fun c => JF flt cur c - JF flt old c) (I 40) (I 41) (F 40) (F 41) ∧ CR 60 11940 (DG (mtF flt) cur.1 cur.2) (I 42) (I 43) (F 42) (F 43)
def ICi (ch dep nx : Nat) (fa sv : Int32) (I : Nat → Int32) : Prop := (I 0) = nI ch ∧ (I 12) = nI dep ∧ (I 11) = nI nx ∧ (I 1) = fa ∧ (I 2) = sv
/-- the reference's tables -/
def IMt (cur plan old sav : T2) (hs : Nat → T2) (dep nx : Nat) (F : Nat → Nat → Int32) : Prop :=
  M2 0 cur (F 53) (F 54) ∧ M2 2 plan (F 53) (F 54) ∧ M2 4 old (F 53) (F 54) ∧ M2 14 sav (F 53) (F 54) ∧ ∀ k, k < dep → M2 (6 + 2 * k) (hs ((nx + 3 - k) % 4)) (F 53) (F 54)
def IMf (flt sfl : F3) (I : Nat → Int32) (F : Nat → Nat → Int32) : Prop := FM flt.1 flt.2.1 flt.2.2 (I 53) (F 55) ∧ FM sfl.1 sfl.2.1 sfl.2.2 (I 56) (F 58)
def IMw (wat swa : W3) (I : Nat → Int32) (F : Nat → Nat → Int32) : Prop := WE wat (I 64) (F 63) (F 64) ∧ WE swa (I 65) (F 65) (F 66)
def IMr (tn : Nat) (tx : Nat → Nat) (I : Nat → Int32) (F : Nat → Nat → Int32) : Prop := TE tn tx (I 66) (F 67)
def IMi (ch dep : Nat) (fa sv : Int32) (I : Nat → Int32) (F : Nat → Nat → Int32) : Prop := (I 51) = nI ch ∧ (I 52) = nI dep ∧ (I 69) = fa ∧ (I 70) = sv ∧ CL (I 61) (F 60)
/-- what is said of the abstract state alone -/
def IAb (flt sfl : F3) (wat swa : W3) (tn ch dep nx : Nat) (tx : Nat → Nat) (sv : Int32) : Prop := FW flt.1 flt.2.1 flt.2.2 ∧ FW sfl.1 sfl.2.1 sfl.2.2 ∧ WW wat ∧ WW swa ∧ tn ≤ 40 ∧ (∀ i, i < tn → 33 ≤ tx i ∧ tx i ≤ 126) ∧ ch ≤ 40 ∧ dep ≤ 4 ∧ nx < 4 ∧ (sv = 0 ∨ sv = 1)
def Inv (I : Nat → Int32) (F : Nat → Nat → Int32) : Prop :=
  ∃ (cur plan old sav : T2) (hs : Nat → T2) (flt sfl : F3) (wat swa : W3) (tn ch dep nx : Nat) (tx : Nat → Nat) (fa sv : Int32), IAb flt sfl wat swa tn ch dep nx tx sv ∧ ICt cur plan sav hs I F ∧ ICf flt sfl I F ∧ ICw wat swa I F ∧ ICr tn tx I F ∧ ICv flt cur old I F ∧ ICi ch dep nx fa sv I ∧ IMt cur plan old sav hs dep nx F ∧ IMf flt sfl I F ∧ IMw wat swa I F ∧ IMr tn tx I F ∧ IMi ch dep fa sv I F
