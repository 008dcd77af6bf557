theorem c_nar : ∀ c, c < 127 → ((nI c).toUInt32 % 65536).toInt32 = nI c ∧ vp_nar .char (nI c) = nI c := by decide +kernel
theorem bw_nat {x : Int32} {lo hi : Nat} (h1 : lo < 2147483648) (h2 : hi < 2147483648) (h : bw x (nI lo) (nI hi) = true) : ∃ c, lo ≤ c ∧ c ≤ hi ∧ x = nI c := by
  rw [← zI_nat, ← zI_nat] at h
  have := bw_int (lo := lo) (hi := hi) (by omega) (by omega) (by omega) (by omega) h
  refine ⟨x.toInt.toNat, by omega, by omega, ?_⟩
  rw [← zI_nat, show ((x.toInt.toNat : Nat) : Int) = x.toInt by omega, zI_self]
theorem TE_push {tn : Nat} {tx : Nat → Nat} {len : Int32} {text : Nat → Int32} (h : TE tn tx len text) (c : Nat) : TE (tn + 1) (fun i => if i = tn then c else tx i) (nI (tn + 1)) (upd text tn (nI c)) := by
  refine ⟨rfl, fun i hi => ?_⟩
  show upd text tn (nI c) i = nI (if i = tn then c else tx i)
  rw [q_upd]
  by_cases e : i = tn
  · rw [if_pos e, if_pos e]
  · rw [if_neg e, if_neg e]; exact h.2 i (by omega)
theorem JJ_0 (mt : Nat → Nat → Bool) (mR : Nat → Int) : JJ mt (fun _ => 0) mR = fun _ => 0 := funext fun c => si_0 (fun l _ => Int.zero_mul _)
theorem DG_0 (mt : Nat → Nat → Bool) (mR : Nat → Int) : DG mt (fun _ => 0) mR = fun _ => 0 := funext fun c => by
  unfold DG
  by_cases x : PW mt mR c = 0
  · rw [if_pos x]
  · rw [if_neg x]
theorem R2_0 (t : Nat) : R2 t (fun _ => 0) (fun _ => 0) (fun _ => 0) (fun _ => 0) := by
  have h : ∀ t B, RT t B (fun _ => 0) (fun _ => 0) (fun _ => 0) := fun t B => ⟨0, fun _ => 0, rfl, Nat.zero_le _, fun i h => absurd h (Nat.not_lt_zero i), fun i j _ h => absurd h (Nat.not_lt_zero j), fun c => rfl⟩
  exact ⟨h _ _, h _ _⟩
theorem TT_0 : TT (fun _ => 0) (fun _ => 0) (fun _ => 0) := by
  intro g hg
  have h1 : GS (fun _ => 0) g = 0 := si_0 (fun c _ => by split <;> rfl)
  have h2 : GT (fun _ => 0) g = 0 := si_0 (fun c _ => by split <;> simp)
  rw [h1, h2]
  exact ⟨rfl, rfl⟩
theorem P_init : Inv (gI [0, (-1), 0, 0, 0, 0, 0, 0, 0, 0, 0, 0, 0, 0, 0, 0, 0, 0, 0, 0, 0, 0, 0, 0, 0, 0, 0, 0, 0, 0, 0, 0, 0, 0, 0, 0, 0, 0, 0, 0, 0, 0, 0, 0, 0, 0, 0, 0, 0, 0, 0, 0, 0, 0, 0, 0, 0, 0, 0, 0, 0, 1, 0, 0, 0, 0, 0, 0, 0, (-1), 0]) (gF [(fun _ => 0), (fun _ => 0), (fun _ => 0), (fun _ => 0), (fun _ => 0), (fun _ => 0), (fun _ => 0), (fun _ => 0), (fun _ => 0), (fun _ => 0), (fun _ => 0), (fun _ => 0), (fun _ => 0), (fun _ => 0), (fun _ => 0), (fun _ => 0), (fun _ => 0), (fun _ => 0), (fun _ => 0), (fun _ => 0), (fun _ => 0), (fun _ => 0), (fun _ => 0), (fun _ => 0), (fun _ => 0), (fun _ => 0), (fun _ => 0), (fun _ => 0), (fun _ => 0), (fun _ => 0), (fun _ => 0), (fun _ => 0), (fun _ => 0), (fun _ => 0), (fun _ => 0), (fun _ => 0), (fun _ => 0), (fun _ => 0), (fun _ => 0), (fun _ => 0), (fun _ => 0), (fun _ => 0), (fun _ => 0), (fun _ => 0), (fun _ => 0), (fun _ => 0), (fun _ => 0), (fun _ => 0), (fun _ => 0), (fun _ => 0), (fun _ => 0), (fun _ => 0), (fun _ => 0), (fun _ => 0), (fun _ => 0), (fun _ => 0), (fun _ => 0), (fun _ => 0), (fun _ => 0), (fun _ => 0), (fun _ => 0), (fun _ => 0), (fun _ => 0), (fun _ => 0), (fun _ => 0), (fun _ => 0), (fun _ => 0), (fun _ => 0)]) := by
  have zJ : JF (0, (fun _ => 0), fun _ => 0) ((fun _ => 0), fun _ => 0) = fun _ => 0 := JJ_0 _ _
  have zD : DG (mtF (0, (fun _ => 0), fun _ => 0)) (fun _ => 0) (fun _ => 0) = fun _ => 0 := DG_0 _ _
  have hJ : CR 1140 106980 (JF (0, (fun _ => 0), fun _ => 0) ((fun _ => 0), fun _ => 0)) 0 0 (fun _ => 0) (fun _ => 0) := by rw [zJ]; exact CR.empty _ _ _ _
  have hT : TT (JF (0, (fun _ => 0), fun _ => 0) ((fun _ => 0), fun _ => 0)) (fun _ => 0) (fun _ => 0) := by rw [zJ]; exact TT_0
  have hX : CR 2280 106980 (fun c => JF (0, (fun _ => 0), fun _ => 0) ((fun _ => 0), fun _ => 0) c - JF (0, (fun _ => 0), fun _ => 0) ((fun _ => 0), fun _ => 0) c) 0 0 (fun _ => 0) (fun _ => 0) := by
    rw [show (fun c => JF (0, (fun _ => 0), fun _ => 0) ((fun _ => 0), fun _ => 0) c - JF (0, (fun _ => 0), fun _ => 0) ((fun _ => 0), fun _ => 0) c) = fun _ => 0 from funext fun c => Int.sub_self _]
    exact CR.empty _ _ _ _
  have hG : CR 60 11940 (DG (mtF (0, (fun _ => 0), fun _ => 0)) (fun _ => 0) (fun _ => 0)) 0 0 (fun _ => 0) (fun _ => 0) := by rw [zD]; exact CR.empty _ _ _ _
  have hC : C2 ((fun _ => 0), fun _ => 0) 0 0 (fun _ => 0) (fun _ => 0) 0 0 (fun _ => 0) (fun _ => 0) := ⟨CR.empty _ _ _ _, CR.empty _ _ _ _⟩
  have hM : ∀ t, M2 t ((fun _ => 0), fun _ => 0) (fun _ => 0) (fun _ => 0) := fun t => R2_0 t
  have hF := FW_0 (fun _ => 0) (fun _ => 0)
  have hFC : FC 0 (fun _ => 0) (fun _ => 0) 0 (fun _ => 0) (fun _ => 0) := ⟨rfl, fun i h => absurd h (Nat.not_lt_zero i)⟩
  have hFM : FM 0 (fun _ => 0) (fun _ => 0) 0 (fun _ => 0) := ⟨rfl, fun i h => absurd h (Nat.not_lt_zero i)⟩
  have hW : WW (0, (fun _ => 0), fun _ => 0) := ⟨Nat.zero_le _, fun i h => absurd h (Nat.not_lt_zero i)⟩
  have hE : WE (0, (fun _ => 0), fun _ => 0) 0 (fun _ => 0) (fun _ => 0) := ⟨rfl, fun i h => absurd h (Nat.not_lt_zero i)⟩
  have hX2 : TE 0 (fun _ => 0) 0 (fun _ => 0) := ⟨rfl, fun i h => absurd h (Nat.not_lt_zero i)⟩
  exact ⟨((fun _ => 0), fun _ => 0), ((fun _ => 0), fun _ => 0), ((fun _ => 0), fun _ => 0), ((fun _ => 0), fun _ => 0), (fun _ => ((fun _ => 0), fun _ => 0)), (0, (fun _ => 0), fun _ => 0), (0, (fun _ => 0), fun _ => 0), (0, (fun _ => 0), fun _ => 0), (0, (fun _ => 0), fun _ => 0), 0, 0, 0, 0, (fun _ => 0), -1, 0, ⟨hF, hF, hW, hW, Nat.zero_le _, fun i h => absurd h (Nat.not_lt_zero i), Nat.zero_le _, Nat.zero_le _, by decide, Or.inl rfl⟩, ⟨hC, hC, hC, hC, hC, hC, hC⟩, ⟨hFC, hFC⟩, ⟨hE, hE⟩, hX2, ⟨hJ, hT, hT, hX, hG⟩, ⟨rfl, rfl, rfl, rfl, rfl⟩, ⟨hM 0, hM 2, hM 4, hM 14, fun k hk => absurd hk (Nat.not_lt_zero k)⟩, ⟨hFM, hFM⟩, ⟨hE, hE⟩, hX2, ⟨rfl, rfl, rfl, rfl, Or.inr ⟨rfl, fun _ _ => rfl⟩⟩⟩

theorem P_appendCharacter {fu : Nat} (hfu : 100000 ≤ fu) {I : Nat → Int32} {F : Nat → Nat → Int32} (hI : Inv I F) (out : Nat → Int64) (v1 : Int32) : ∃ (c9 : Int32 × Int32 × (Nat → Int32) × (Nat → Int64)) (u9 : Int32 × Int32 × Int32 × (Nat → Int32)), f_L_appendCharacter 40 1 v1 (I 30) (F 26) out = some c9 ∧ f_X9_appendCharacter 40 v1 (I 50) (I 66) (F 67) = some u9 ∧ u9.2.1 = c9.1 ∧ (c9.1 = 0 → c9.2.2.2 0 = u9.1.toInt64) ∧ Inv (gI [I 0, I 1, I 2, I 3, I 4, I 5, I 6, I 7, I 8, I 9, I 10, I 11, I 12, I 13, I 14, I 15, I 16, I 17, I 18, I 19, I 20, I 21, I 22, I 23, I 24, I 25, I 26, I 27, I 28, I 29, c9.2.1, I 31, I 32, I 33, I 34, I 35, I 36, I 37, I 38, I 39, I 40, I 41, I 42, I 43, I 44, I 45, I 46, I 47, I 48, I 49, u9.2.1, I 51, I 52, I 53, I 54, I 55, I 56, I 57, I 58, I 59, I 60, I 61, I 62, I 63, I 64, I 65, u9.2.2.1, I 67, I 68, I 69, I 70]) (gF [F 0, F 1, F 2, F 3, F 4, F 5, F 6, F 7, F 8, F 9, F 10, F 11, F 12, F 13, F 14, F 15, F 16, F 17, F 18, F 19, F 20, F 21, F 22, F 23, F 24, F 25, c9.2.2.1, F 27, F 28, F 29, F 30, F 31, F 32, F 33, F 34, F 35, F 36, F 37, F 38, F 39, F 40, F 41, F 42, F 43, F 44, F 45, F 46, F 47, F 48, F 49, F 50, F 51, F 52, F 53, F 54, F 55, F 56, F 57, F 58, F 59, F 60, F 61, F 62, F 63, F 64, F 65, F 66, u9.2.2.2]) := by
  obtain ⟨cur, plan, old, sav, hs, flt, sfl, wat, swa, tn, ch, dep, nx, tx, fa, sv, ha, c1, c2, c3, c4, c5, c6, m1, m2, m3, m4, m5⟩ := hI
  have ht4 := ha.2.2.2.2.1
  have e30 : I 30 = nI tn := c4.1
  have e66 : I 66 = nI tn := m4.1
  cases hb : bw v1 33 126 with
  | false =>
    have h1 : f_L_appendCharacter 40 1 v1 (I 30) (F 26) out = some (1, I 30, F 26, out) := by
      unfold f_L_appendCharacter f_X8_appendCharacter
      rw [f_within, hb, k_b1S, if_pos (by decide), k_b4S, if_neg (by decide), if_pos rfl]
    have h2 : f_X9_appendCharacter 40 v1 (I 50) (I 66) (F 67) = some (0, 1, I 66, F 67) := by
      unfold f_X9_appendCharacter f_X9_fails
      rw [f_between, hb, k_b1S, if_pos (by decide), k_b2S]
    exact ⟨_, _, h1, h2, rfl, fun q => absurd (show (1 : Int32) = 0 from q) (by decide), cur, plan, old, sav, hs, flt, sfl, wat, swa, tn, ch, dep, nx, tx, fa, sv, ha, c1, c2, c3, c4, c5, c6, m1, m2, m3, m4, m5⟩
  | true =>
    obtain ⟨c, hc1, hc2, ec⟩ := bw_nat (lo := 33) (hi := 126) (by decide) (by decide) hb
    have cn := c_nar c (by omega)
    by_cases z : tn = 40
    · have h1 : f_L_appendCharacter 40 1 v1 (I 30) (F 26) out = some (2, I 30, F 26, out) := by
        unfold f_L_appendCharacter f_X8_appendCharacter f_X2_length
        rw [f_within, hb, k_b1S, if_neg (by decide), k_b1S, if_neg (show ¬ I 30 < 40 by rw [e30, z]; decide), k_b4S, if_neg (by decide), if_neg (by decide), if_pos rfl]
      have h2 : f_X9_appendCharacter 40 v1 (I 50) (I 66) (F 67) = some (0, 2, I 66, F 67) := by
        unfold f_X9_appendCharacter f_X9_fails
        rw [f_between, hb, k_b1S, if_neg (by decide), if_pos (show I 66 = 40 by rw [e66, z]; rfl), k_b2S]
      exact ⟨_, _, h1, h2, rfl, fun q => absurd (show (2 : Int32) = 0 from q) (by decide), cur, plan, old, sav, hs, flt, sfl, wat, swa, tn, ch, dep, nx, tx, fa, sv, ha, c1, c2, c3, c4, c5, c6, m1, m2, m3, m4, m5⟩
    · have h1 : f_L_appendCharacter 40 1 v1 (I 30) (F 26) out = some (0, nI (tn + 1), upd (F 26) tn (nI c), vp_updL out (0 : Int32).toNatClampNeg (nI (tn + 1)).toInt64) := by
        unfold f_L_appendCharacter f_X8_appendCharacter f_X2_length f_X2_append
        rw [f_within, hb, k_b1S, if_neg (by decide), k_b1S, e30, if_pos (show nI tn < 40 from nI_lt (b := 40) (by omega) (by decide)), if_neg (nI_pos (by omega)), if_neg (show ¬ nI 40 ≤ nI tn by rw [q_le (by omega) (by omega)]; omega), if_pos (nI_in (c := tn) (N := 40) (by omega) (by decide)), k_b2S, k_b1S, k_b4S, if_pos rfl, if_pos (by decide), q_cl (by omega), ec, cn.1, cn.2, q_1, q_add]
      have h2 : f_X9_appendCharacter 40 v1 (I 50) (I 66) (F 67) = some (nI (tn + 1), 0, nI (tn + 1), upd (F 67) tn (nI c)) := by
        unfold f_X9_appendCharacter
        rw [f_between, hb, k_b1S, if_neg (by decide), e66, if_neg (show ¬ nI tn = 40 by rw [show (40 : Int32) = nI 40 from rfl, q_eq (by omega) (by omega)]; exact z), if_pos (nI_in (c := tn) (N := 40) (by omega) (by decide)), q_cl (by omega), ec, q_1, q_add]
      exact ⟨_, _, h1, h2, rfl, fun _ => rfl, cur, plan, old, sav, hs, flt, sfl, wat, swa, tn + 1, ch, dep, nx, (fun i => if i = tn then c else tx i), fa, sv, ⟨ha.1, ha.2.1, ha.2.2.1, ha.2.2.2.1, by omega, fun i hi => by
        show 33 ≤ (if i = tn then c else tx i) ∧ (if i = tn then c else tx i) ≤ 126
        by_cases e : i = tn
        · rw [if_pos e]; exact ⟨hc1, hc2⟩
        · rw [if_neg e]; exact ha.2.2.2.2.2.1 i (by omega), ha.2.2.2.2.2.2⟩, c1, c2, c3, TE_push c4 c, c5, c6, m1, m2, m3, TE_push m4 c, m5⟩

theorem P_accepts {fu : Nat} (hfu : 100000 ≤ fu) {I : Nat → Int32} {F : Nat → Nat → Int32} (hI : Inv I F) (out : Nat → Int64) (v1 : Int32) (v2 : Int32) (v3 : Int32) (v4 : Int32) : ∃ (c9 : Int32 × (Nat → Int64)) (u9 : Int32 × Int32 × (Nat → Int32)), f_L_accepts fu 40 40 1 (I 29) (F 24) (F 25) v1 v2 v3 v4 out = some c9 ∧ f_X9_accepts fu 40 40 (I 53) (F 55) v1 v2 v3 v4 (I 50) (F 59) = some u9 ∧ u9.2.1 = c9.1 ∧ (c9.1 = 0 → c9.2 0 = if u9.1 = 0 then 0 else 1) ∧ Inv (gI [I 0, I 1, I 2, I 3, I 4, I 5, I 6, I 7, I 8, I 9, I 10, I 11, I 12, I 13, I 14, I 15, I 16, I 17, I 18, I 19, I 20, I 21, I 22, I 23, I 24, I 25, I 26, I 27, I 28, I 29, I 30, I 31, I 32, I 33, I 34, I 35, I 36, I 37, I 38, I 39, I 40, I 41, I 42, I 43, I 44, I 45, I 46, I 47, I 48, I 49, u9.2.1, I 51, I 52, I 53, I 54, I 55, I 56, I 57, I 58, I 59, I 60, I 61, I 62, I 63, I 64, I 65, I 66, I 67, I 68, I 69, I 70]) (gF [F 0, F 1, F 2, F 3, F 4, F 5, F 6, F 7, F 8, F 9, F 10, F 11, F 12, F 13, F 14, F 15, F 16, F 17, F 18, F 19, F 20, F 21, F 22, F 23, F 24, F 25, F 26, F 27, F 28, F 29, F 30, F 31, F 32, F 33, F 34, F 35, F 36, F 37, F 38, F 39, F 40, F 41, F 42, F 43, F 44, F 45, F 46, F 47, F 48, F 49, F 50, F 51, F 52, F 53, F 54, F 55, F 56, F 57, F 58, u9.2.2, F 60, F 61, F 62, F 63, F 64, F 65, F 66, F 67]) := by
  obtain ⟨cur, plan, old, sav, hs, flt, sfl, wat, swa, tn, ch, dep, nx, tx, fa, sv, ha, c1, c2, c3, c4, c5, c6, m1, m2, m3, m4, m5⟩ := hI
  have i0 : f_X9_refuses 1 (I 50) = some (0, 1) := by
    unfold f_X9_refuses
    rw [if_pos nar0]
  cases hl : LV v1 v2 v3 with
  | false =>
    have h1 : f_L_accepts fu 40 40 1 (I 29) (F 24) (F 25) v1 v2 v3 v4 out = some (1, out) := by
      unfold f_L_accepts f_X8_accepts
      rw [f_reqL, hl, if_neg (by decide), k_b1S, if_neg (by decide), k_b2S, if_neg (by decide), if_pos rfl]
    have h2 : f_X9_accepts fu 40 40 (I 53) (F 55) v1 v2 v3 v4 (I 50) (F 59) = some (0, 1, F 59) := by
      unfold f_X9_accepts f_X9_accepts_18
      rw [f_isLeft9, hl, k_b1S, if_pos (by decide), i0, k_b2S, if_pos nar0]
    exact ⟨_, _, h1, h2, rfl, fun q => absurd (show (1 : Int32) = 0 from q) (by decide), cur, plan, old, sav, hs, flt, sfl, wat, swa, tn, ch, dep, nx, tx, fa, sv, ha, c1, c2, c3, c4, c5, c6, m1, m2, m3, m4, m5⟩
  | true =>
    cases hr : RV v1 v4 with
    | false =>
      have h1 : f_L_accepts fu 40 40 1 (I 29) (F 24) (F 25) v1 v2 v3 v4 out = some (1, out) := by
        unfold f_L_accepts f_X8_accepts
        rw [f_reqL, hl, if_pos rfl, k_b1S, if_pos rfl, f_reqR, hr, if_neg (by decide), k_b1S, if_neg (by decide), k_b2S, if_neg (by decide), if_pos rfl]
      have h2 : f_X9_accepts fu 40 40 (I 53) (F 55) v1 v2 v3 v4 (I 50) (F 59) = some (0, 1, F 59) := by
        unfold f_X9_accepts f_X9_accepts_18
        rw [f_isLeft9, hl, k_b1S, if_neg (by decide), f_isRight9, hr, k_b1S, if_pos (by decide), i0, k_b2S, if_pos nar0]
      exact ⟨_, _, h1, h2, rfl, fun q => absurd (show (1 : Int32) = 0 from q) (by decide), cur, plan, old, sav, hs, flt, sfl, wat, swa, tn, ch, dep, nx, tx, fa, sv, ha, c1, c2, c3, c4, c5, c6, m1, m2, m3, m4, m5⟩
    | true =>
      obtain ⟨q, hq, _, e1, e2, e3⟩ := LV_code hl
      obtain ⟨r, hrr, _, _, e4⟩ := RV_code hr
      have kv := kv_of hq r
      have g1 := f_holds1 hfu ha.1 c2.1 kv
      obtain ⟨st', g2⟩ := f_holds9 hfu ha.1 m2.1 kv (F 59)
      rw [zI_nat, zI_nat, ← e1, ← e2, ← e3, ← e4] at g1 g2
      generalize HF flt.1 flt.2.1 flt.2.2 (lk q) (lg q) (lv q) (rf r) = b at g1 g2
      have h2 : f_X9_accepts fu 40 40 (I 53) (F 55) v1 v2 v3 v4 (I 50) (F 59) = some (nI (bv b), 0, st') := by
        unfold f_X9_accepts
        rw [f_isLeft9, hl, k_b1S, if_neg (by decide), f_isRight9, hr, k_b1S, if_neg (by decide), g2, k_b2S, if_pos (vnar b)]
      cases b with
      | false =>
        have h1 : f_L_accepts fu 40 40 1 (I 29) (F 24) (F 25) v1 v2 v3 v4 out = some (0, vp_updL out (0 : Int32).toNatClampNeg 0) := by
          unfold f_L_accepts f_X8_accepts
          rw [f_reqL, hl, if_pos rfl, k_b1S, if_pos rfl, f_reqR, hr, if_pos rfl, k_b1S, if_pos rfl, g1, k_b1S, if_pos (vnar false), k_b2S, if_pos rfl, if_pos (by decide), if_pos (by decide)]
        exact ⟨_, _, h1, h2, rfl, fun _ => rfl, cur, plan, old, sav, hs, flt, sfl, wat, swa, tn, ch, dep, nx, tx, fa, sv, ha, c1, c2, c3, c4, c5, c6, m1, m2, m3, m4, m5⟩
      | true =>
        have h1 : f_L_accepts fu 40 40 1 (I 29) (F 24) (F 25) v1 v2 v3 v4 out = some (0, vp_updL out (0 : Int32).toNatClampNeg 1) := by
          unfold f_L_accepts f_X8_accepts
          rw [f_reqL, hl, if_pos rfl, k_b1S, if_pos rfl, f_reqR, hr, if_pos rfl, k_b1S, if_pos rfl, g1, k_b1S, if_pos (vnar true), k_b2S, if_pos rfl, if_neg (by decide), if_pos (by decide)]
        exact ⟨_, _, h1, h2, rfl, fun _ => rfl, cur, plan, old, sav, hs, flt, sfl, wat, swa, tn, ch, dep, nx, tx, fa, sv, ha, c1, c2, c3, c4, c5, c6, m1, m2, m3, m4, m5⟩
