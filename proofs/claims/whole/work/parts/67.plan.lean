section PLN
variable {fu B c ch t : Nat} {m : Nat → Int} {size total : Int32} {codes counts : Nat → Int32} {rows sizes : Nat → Int32} {thr : Int32}
theorem c_plan (hfu : 100000 ≤ fu) (hB : B ≤ 1000000) (hc : c < B) (h : CR 60 B m size total codes counts) (hb : TB B m) {a : Int} (ha : (a = 1 ∧ fb_si m B < 60) ∨ (a = -1 ∧ m c ≠ 0)) :
    ∃ s' t' co' cn', f_X8_planChange fu 60 60 (nI c) (zI a) (nI ch) size total codes counts = some (nI (ch + 1), nI (ch + 1), s', t', co', cn') ∧ CR 60 B (mu m c a) s' t' co' cn' := by
  obtain ⟨n, k, rfl, et, h⟩ := h
  have hmc := hb.le c
  have hnn : (n : Int) ≤ fb_si m B := by
    rw [h.sum (g := m) (fun c z => z), ← si_cnst1 n]
    exact si_mono n (fun i hi => by have := (h.2.1 i hi).2.2.1; have := hb.1 (k i); omega)
  obtain ⟨n', k', co', cn', e1, e2, _⟩ := f_add (fu := fu) (total := total) hfu (by decide) hB hc h (a := a) (by omega) (fun z => by omega)
  refine ⟨nI n', total + zI a, co', cn', ?_, n', k', rfl, ?_, e2⟩
  · unfold f_X8_planChange
    rw [e1, k_b4S, q_1, q_add]
  · rw [mu_si _ _ hc, et, zI_add]
theorem m_plans (hfu : 100000 ≤ fu) (ht : t < 16) (hB : B ≤ 1000000) (hc : c < B) (hch : ch ≤ 40) (h : RT t B m rows sizes) :
    (f_X9_plans fu 960 16 (nI t) (nI c) thr (nI ch) rows sizes = some (0, 2, nI ch, rows, sizes) ∧ (ch = 40 ∨ fb_si m B = 60)) ∨ (ch < 40 ∧ fb_si m B < 60 ∧ ∃ rows' size', f_X9_plans fu 960 16 (nI t) (nI c) thr (nI ch) rows sizes = some (nI (ch + 1), 0, nI (ch + 1), rows', size') ∧ RT t B (mu m c 1) rows' size' ∧ (∀ j, j < 60 * t ∨ 60 * t + 60 ≤ j → rows' j = rows j) ∧ (∀ j, j ≠ t → size' j = sizes j)) := by
  have h0 := h
  obtain ⟨n, r, hs, hk⟩ := h
  have hn := hk.1
  have htb := hk.tb
  unfold f_X9_plans f_X9_plans_20 f_X9_fails
  by_cases e : ch = 40
  · exact Or.inl ⟨by rw [if_pos (show nI ch = 40 by rw [e]; rfl), k_b2S], Or.inl e⟩
  · rw [if_neg (show ¬ nI ch = 40 by rw [show (40 : Int32) = nI 40 from rfl, q_eq (by omega) (by omega)]; exact e), if_pos (nI_in ht (by decide)), q_cl (by omega), hs, k_letS]
    by_cases e2 : n = 60
    · exact Or.inl ⟨by rw [if_pos (show nI n = 60 by rw [e2]; rfl), k_b2S], Or.inr (by rw [htb.2, e2]; rfl)⟩
    · rw [if_neg (show ¬ nI n = 60 by rw [show (60 : Int32) = nI 60 from rfl, q_eq (by omega) (by omega)]; exact e2)]
      have hlt : fb_si m B < 60 := by rw [htb.2]; omega
      obtain ⟨rows', size', p1, p2, p3, p4⟩ := f_puts hfu ht h0 hB hc hlt
      exact Or.inr ⟨by omega, hlt, rows', size', by rw [p1, k_b2S, q_1, q_add], p2, p3, p4⟩
theorem m_unplans (hfu : 100000 ≤ fu) (ht : t < 16) (hB : B ≤ 1000000) (hc : c < B) (hch : ch ≤ 40) (h : RT t B m rows sizes) :
    (f_X9_unplans fu 960 16 (nI t) (nI c) thr (nI ch) rows sizes = some (0, 2, nI ch, rows, sizes) ∧ ch = 40) ∨ (f_X9_unplans fu 960 16 (nI t) (nI c) thr (nI ch) rows sizes = some (0, 3, nI ch, rows, sizes) ∧ ch < 40 ∧ m c = 0) ∨ (ch < 40 ∧ m c ≠ 0 ∧ ∃ rows' size', f_X9_unplans fu 960 16 (nI t) (nI c) thr (nI ch) rows sizes = some (nI (ch + 1), 0, nI (ch + 1), rows', size') ∧ RT t B (mu m c (-1)) rows' size' ∧ (∀ j, j < 60 * t ∨ 60 * t + 60 ≤ j → rows' j = rows j) ∧ (∀ j, j ≠ t → size' j = sizes j)) := by
  have h0 := h
  obtain ⟨n, r, hs, hk⟩ := h
  have htb := hk.tb.1.le c
  unfold f_X9_unplans f_X9_fails
  by_cases e : ch = 40
  · exact Or.inl ⟨by rw [if_pos (show nI ch = 40 by rw [e]; rfl), k_b2S], e⟩
  · rw [if_neg (show ¬ nI ch = 40 by rw [show (40 : Int32) = nI 40 from rfl, q_eq (by omega) (by omega)]; exact e), f_countOf9 hfu ht hs hk hB hc, k_b1S]
    by_cases e2 : m c = 0
    · exact Or.inr (Or.inl ⟨by rw [if_pos (show zI (m c) = 0 by rw [e2]; rfl), k_b2S], by omega, e2⟩)
    · rw [if_neg (fun q => e2 ((zI_z (by omega) (by omega)).mp q))]
      obtain ⟨rows', size', p1, p2, p3, p4⟩ := f_takes hfu ht h0 hB hc e2
      exact Or.inr (Or.inr ⟨by omega, e2, rows', size', by rw [p1, k_b2S, q_1, q_add], p2, p3, p4⟩)
theorem R2_keep {k : Nat} {mL mR : Nat → Int} {rows' size' : Nat → Int32} (h : R2 k mL mR rows sizes) (hr : ∀ j, j < 60 * t ∨ 60 * t + 60 ≤ j → rows' j = rows j) (hs : ∀ j, j ≠ t → size' j = sizes j) (hk : k ≠ t ∧ k + 1 ≠ t) : R2 k mL mR rows' size' :=
  ⟨h.1.cong (fun i hi => hr _ (by omega)) (hs _ hk.1), h.2.cong (fun i hi => hr _ (by omega)) (hs _ hk.2)⟩
theorem f_roomB (hch : ch ≤ 40) : f_X8_requireRoomInBatch (nI ch) = some (if ch = 40 then 2 else 0) := by
  unfold f_X8_requireRoomInBatch
  by_cases e : ch = 40
  · rw [if_neg (by rw [e]; decide), if_pos e]
  · rw [if_pos (show nI ch < 40 from nI_lt (b := 40) (by omega) (by decide)), if_neg e]
theorem f_roomT (h : CR 60 B m size total codes counts) (hb : TB B m) : f_X8_requireRoomInTable total = some (if fb_si m B = 60 then 2 else 0) := by
  obtain ⟨n, k, _, et, _⟩ := h
  have h1 := hb.2.2
  have h2 := si_nonneg (f := m) B (fun i _ => hb.1 i)
  unfold f_X8_requireRoomInTable f_X0_total
  rw [k_b1S, et]
  by_cases e : fb_si m B = 60
  · rw [if_neg (by rw [e]; decide), if_pos e]
  · rw [if_pos (show zI (fb_si m B) < 60 from (zI_lt (b := 60) (by omega) (by omega) (by decide) (by decide)).mpr (by omega)), if_neg e]
theorem f_rowT (hfu : 100000 ≤ fu) (hB : B ≤ 1000000) (hc : c < B) (h : CR 60 B m size total codes counts) (hb : TB B m) : f_X8_requireRowInTable fu 60 60 size codes counts (nI c) = some (if m c = 0 then 4 else 0) := by
  obtain ⟨n, k, e, et, h⟩ := h
  have h1 := hb.le c
  unfold f_X8_requireRowInTable
  rw [e, f_countOf hfu (by decide) hB hc h, k_b1S]
  by_cases e : m c = 0
  · rw [if_neg (by rw [e]; decide), if_pos e]
  · rw [if_pos (show (0 : Int32) < zI (m c) from (zI_lt (a := 0) (by decide) (by decide) (by omega) (by omega)).mpr (by omega)), if_neg e]
end PLN
