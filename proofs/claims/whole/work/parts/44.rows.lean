/-- the difference, as far as T -/
def md (m1 m2 : Nat → Int) (T : Nat) : Nat → Int := fun c => if c < T then m1 c - m2 c else 0
section CRD
variable {lim l1 l2 B n1 n2 fu : Nat} {m1 m2 : Nat → Int} {k1 k2 : Nat → Nat} {c1 d1 c2 d2 : Nat → Int32}
theorem CRk.codeX {i : Nat} (hB : B ≤ 1000000) (h : CRk l1 B m1 n1 k1 c1 d1) : (if i < n1 then c1 i else nI 1000000) = nI (if i < n1 then k1 i else 1000000) := by
  by_cases e : i < n1
  · rw [if_pos e, if_pos e]; exact (h.2.1 i e).1
  · rw [if_neg e, if_neg e]
theorem CRk.past (h : CRk l1 B m1 n1 k1 c1 d1) {p T : Nat} (hp : p ≤ n1) (h1 : ∀ i, i < p → k1 i < T) {c : Nat} (hc : T ≤ c) (hne : ∀ i, p ≤ i → i < n1 → k1 i ≠ c) : m1 c = 0 := by
  by_cases z : m1 c = 0
  · exact z
  · obtain ⟨i, hi, ei⟩ := h.2.2.2 c z
    rcases Nat.lt_or_ge i p with x | x
    · have := h1 i x; omega
    · exact absurd ei (hne i x hi)
theorem f_diff_loop (hl : lim < 100000) (hl1 : l1 < 40000) (hl2 : l2 < 40000) (hB : B ≤ 1000000) (hn : n1 + n2 ≤ lim) (h1 : CRk l1 B m1 n1 k1 c1 d1) (h2 : CRk l2 B m2 n2 k2 c2 d2) (hb1 : ∀ c, -1000000 ≤ m1 c ∧ m1 c ≤ 1000000) (hb2 : ∀ c, -1000000 ≤ m2 c ∧ m2 c ≤ 1000000) :
    ∀ (d g pl mi turn n T : Nat) (k : Nat → Nat) (total : Int32) (codes counts : Nat → Int32), d + turn = n1 + n2 → d < g → pl ≤ n1 → mi ≤ n2 → turn ≤ pl + mi → n ≤ pl + mi → (∀ i, i < pl → k1 i < T) → (∀ i, pl ≤ i → i < n1 → T ≤ k1 i) → (∀ i, i < mi → k2 i < T) → (∀ i, mi ≤ i → i < n2 → T ≤ k2 i) → CRk lim B (md m1 m2 T) n k codes counts → total = zI (fb_si (md m1 m2 T) B) → (∀ i, i < n → k i < T) →
    ∃ size' total' codes' counts', f_X0_becomeDifference_23 fu lim lim l1 l1 l2 l2 (nI n1) c1 d1 (nI n2) c2 d2 g (nI pl) (nI mi) (nI (n1 + n2)) (nI turn) (nI n) total codes counts = some (size', total', codes', counts') ∧ CR lim B (fun c => m1 c - m2 c) size' total' codes' counts' := by
  have hn1 := h1.1
  have hn2 := h2.1
  intro d
  induction d with
  | zero =>
    intro g pl mi turn n T k total codes counts a1 a2 a3 a4 a5 a6 a7 a8 a9 a10 h ht hk
    obtain ⟨g', rfl⟩ : ∃ g', g = g' + 1 := ⟨g - 1, by omega⟩
    rw [fs_X0_becomeDifference_23, if_pos (by rw [q_le (by omega) (by omega)]; omega)]
    have e : md m1 m2 T = fun c => m1 c - m2 c := by
      funext c
      unfold md
      by_cases x : c < T
      · rw [if_pos x]
      · rw [if_neg x, h1.past (p := pl) a3 a7 (by omega) (fun i _ _ => by omega), h2.past (p := mi) a4 a9 (by omega) (fun i _ _ => by omega)]; rfl
    rw [e] at h ht
    exact ⟨_, _, _, _, rfl, n, k, rfl, ht, h⟩
  | succ d ih =>
    intro g pl mi turn n T k total codes counts a1 a2 a3 a4 a5 a6 a7 a8 a9 a10 h ht hk
    obtain ⟨g', rfl⟩ : ∃ g', g = g' + 1 := ⟨g - 1, by omega⟩
    rw [fs_X0_becomeDifference_23, if_neg (by rw [q_le (by omega) (by omega)]; omega), f_codeAt (by omega) hn1 (by omega), k_b1S, f_codeAt (by omega) hn2 (by omega), k_b1S, h1.codeX hB, h2.codeX hB]
    generalize ea : (if pl < n1 then k1 pl else 1000000) = a
    generalize eb : (if mi < n2 then k2 mi else 1000000) = b
    have ha : a ≤ 1000000 ∧ (pl < n1 → a = k1 pl ∧ a < B) ∧ (¬ pl < n1 → a = 1000000) := by
      by_cases x : pl < n1
      · rw [if_pos x] at ea
        have := (h1.2.1 pl x).2.2.2
        exact ⟨by omega, fun _ => ⟨ea.symm, by omega⟩, fun y => absurd x y⟩
      · rw [if_neg x] at ea
        exact ⟨by omega, fun y => absurd y x, fun _ => ea.symm⟩
    have hbb : b ≤ 1000000 ∧ (mi < n2 → b = k2 mi ∧ b < B) ∧ (¬ mi < n2 → b = 1000000) := by
      by_cases x : mi < n2
      · rw [if_pos x] at eb
        have := (h2.2.1 mi x).2.2.2
        exact ⟨by omega, fun _ => ⟨eb.symm, by omega⟩, fun y => absurd x y⟩
      · rw [if_neg x] at eb
        exact ⟨by omega, fun y => absurd y x, fun _ => eb.symm⟩
    obtain ⟨q, hq⟩ : ∃ q, q = (if b < a then b else a) := ⟨_, rfl⟩
    have e1 : (if nI b < nI a then nI b else nI a) = nI q := by
      rw [hq]
      by_cases x : b < a
      · rw [if_pos x, if_pos (by rw [q_lt (by omega) (by omega)]; exact x)]
      · rw [if_neg x, if_neg (by rw [q_lt (by omega) (by omega)]; exact x)]
    rw [e1, k_letS]
    have hqa : q ≤ a ∧ q ≤ b ∧ (q = a ∨ q = b) := by
      rw [hq]
      by_cases x : b < a
      · rw [if_pos x]; omega
      · rw [if_neg x]; omega
    by_cases z : q = 1000000
    · rw [if_pos (by rw [z]; rfl)]
      have e : md m1 m2 T = fun c => m1 c - m2 c := by
        funext c
        unfold md
        by_cases x : c < T
        · rw [if_pos x]
        · have x1 : ¬ pl < n1 := fun y => by have := (ha.2.1 y).2; omega
          have x2 : ¬ mi < n2 := fun y => by have := (hbb.2.1 y).2; omega
          rw [if_neg x, h1.past (p := pl) a3 a7 (by omega) (fun i _ _ => by omega), h2.past (p := mi) a4 a9 (by omega) (fun i _ _ => by omega)]; rfl
      rw [e] at h ht
      exact ⟨_, _, _, _, rfl, n, k, rfl, ht, h⟩
    · rw [if_neg (by rw [q_M, q_eq (by omega) (by omega)]; exact z)]
      have hTq : T ≤ q := by
        rcases hqa.2.2 with x | x
        · have y : pl < n1 := by
            by_cases w : pl < n1
            · exact w
            · have := ha.2.2 w; omega
          have := a8 pl (Nat.le_refl _) y
          have := (ha.2.1 y).1; omega
        · have y : mi < n2 := by
            by_cases w : mi < n2
            · exact w
            · have := hbb.2.2 w; omega
          have := a10 mi (Nat.le_refl _) y
          have := (hbb.2.1 y).1; omega
      have hqB : q < B := by
        rcases hqa.2.2 with x | x
        · by_cases w : pl < n1
          · have := (ha.2.1 w).2; omega
          · have := ha.2.2 w; omega
        · by_cases w : mi < n2
          · have := (hbb.2.1 w).2; omega
          · have := hbb.2.2 w; omega
      have g1 : ∀ i, pl ≤ i → i < n1 → a ≤ k1 i := fun i x y => by
        have w := (ha.2.1 (by omega)).1
        rcases Nat.lt_or_ge pl i with v | v
        · have := h1.2.2.1 pl i v y; omega
        · have : i = pl := by omega
          rw [this]; omega
      have g2 : ∀ i, mi ≤ i → i < n2 → b ≤ k2 i := fun i x y => by
        have w := (hbb.2.1 (by omega)).1
        rcases Nat.lt_or_ge mi i with v | v
        · have := h2.2.2.1 mi i v y; omega
        · have : i = mi := by omega
          rw [this]; omega
      have z1 : ∀ c, T ≤ c → c < a → m1 c = 0 := fun c x y => h1.past (p := pl) a3 a7 x (fun i u v => by have := g1 i u v; omega)
      have z2 : ∀ c, T ≤ c → c < b → m2 c = 0 := fun c x y => h2.past (p := mi) a4 a9 x (fun i u v => by have := g2 i u v; omega)
      have emd : md m1 m2 (q + 1) = mu (md m1 m2 T) q (m1 q - m2 q) := by
        funext c
        unfold mu md
        by_cases x : c = q
        · subst x; rw [if_pos (by omega), if_pos rfl, if_neg (by omega)]; omega
        · rw [if_neg x]
          by_cases y : c < T
          · rw [if_pos y, if_pos (by omega)]
          · rw [if_neg y]
            by_cases w : c < q + 1
            · rw [if_pos w, z1 c (by omega) (by omega), z2 c (by omega) (by omega)]; rfl
            · rw [if_neg w]
      have hq0 : md m1 m2 T q = 0 := if_neg (by omega)
      have step : ∀ pl' mi', pl ≤ pl' → mi ≤ mi' → pl' ≤ n1 → mi' ≤ n2 → turn + 1 ≤ pl' + mi' → (∀ i, i < pl' → k1 i < q + 1) → (∀ i, pl' ≤ i → i < n1 → q + 1 ≤ k1 i) → (∀ i, i < mi' → k2 i < q + 1) → (∀ i, mi' ≤ i → i < n2 → q + 1 ≤ k2 i) → n + 1 ≤ pl' + mi' →
          ∃ size' total' codes' counts', f_X0_becomeDifference_105 fu lim lim l1 l1 l2 l2 (nI n1) c1 d1 (nI n2) c2 d2 (f_X0_becomeDifference_23 fu lim lim l1 l1 l2 l2 (nI n1) c1 d1 (nI n2) c2 d2 g') (nI pl') (nI mi') (nI (n1 + n2)) (nI turn) (nI q) (zI (m1 q - m2 q)) (nI n) total codes counts = some (size', total', codes', counts') ∧ CR lim B (fun c => m1 c - m2 c) size' total' codes' counts' := by
        intro pl' mi' b1 b2 b3 b4 b5 b6 b7 b8 b9 b10
        have x1 := hb1 q
        have x2 := hb2 q
        unfold f_X0_becomeDifference_105 f_X0_becomeDifference_118
        by_cases w : m1 q - m2 q = 0
        · rw [if_pos (by rw [w]; rfl), k_letS, q_1, q_add]
          have e2 : md m1 m2 (q + 1) = md m1 m2 T := by
            rw [emd]; funext c; unfold mu
            by_cases x : c = q
            · rw [if_pos x, w]; omega
            · rw [if_neg x]
          refine ih g' pl' mi' (turn + 1) n (q + 1) k total codes counts (by omega) (by omega) b3 b4 b5 (by omega) b6 b7 b8 b9 (by rw [e2]; exact h) (by rw [e2]; exact ht) (fun i hi => by have := hk i hi; omega)
        · rw [if_neg (fun y => w ((zI_z (by omega) (by omega)).mp y)), f_append hl (by omega), k_b4S, k_letS, q_1, q_add]
          refine ih g' pl' mi' (turn + 1) (n + 1) (q + 1) _ _ _ _ (by omega) (by omega) b3 b4 b5 b10 b6 b7 b8 b9 (by rw [emd]; exact h.push (fun i hi => by have := hk i hi; omega) hqB (by omega) w hq0) (by rw [emd, mu_si _ _ hqB, ht, zI_add]) (fun i hi => ?_)
          show (if i < n then k i else q) < q + 1
          by_cases x : i < n
          · rw [if_pos x]; have := hk i x; omega
          · rw [if_neg x]; omega
      rw [k_b1S]
      by_cases xa : a = q
      · have pa : pl < n1 := by
          by_cases w : pl < n1
          · exact w
          · have := ha.2.2 w; omega
        rw [if_pos (by rw [xa]), f_countAt (by omega) hn1 (by omega), k_b1S, if_pos pa, k_letS, k_letS, q_1, q_add]
        unfold f_X0_becomeDifference_80
        rw [f_codeAt (by omega) hn2 (by omega), k_b1S, h2.codeX hB, eb]
        have ed : d1 pl = zI (m1 q) := by rw [(h1.2.1 pl pa).2.1, ← (ha.2.1 pa).1, xa]
        have f1 : ∀ i, i < pl + 1 → k1 i < q + 1 := fun i hi => by
          rcases Nat.lt_or_ge i pl with v | v
          · have := a7 i v; omega
          · have : i = pl := by omega
            rw [this]; have := (ha.2.1 pa).1; omega
        have f2 : ∀ i, pl + 1 ≤ i → i < n1 → q + 1 ≤ k1 i := fun i x y => by
          have := h1.2.2.1 pl i (by omega) y
          have := (ha.2.1 pa).1; omega
        by_cases xb : b = q
        · have pb : mi < n2 := by
            by_cases w : mi < n2
            · exact w
            · have := hbb.2.2 w; omega
          have ed2 : d2 mi = zI (m2 q) := by rw [(h2.2.1 mi pb).2.1, ← (hbb.2.1 pb).1, xb]
          rw [if_pos (by rw [xb]), f_countAt (by omega) hn2 (by omega), k_b1S, if_pos pb, k_letS, k_letS, q_1, q_add, ed, ed2]
          have e3 : (0 : Int32) + zI (m1 q) - zI (m2 q) = zI (m1 q - m2 q) := by
            rw [← zI_0, zI_add, zI_sub]; congr 1; omega
          rw [e3]
          refine step (pl + 1) (mi + 1) (by omega) (by omega) (by omega) (by omega) (by omega) f1 f2 (fun i hi => ?_) (fun i x y => ?_) (by omega)
          · rcases Nat.lt_or_ge i mi with v | v
            · have := a9 i v; omega
            · have : i = mi := by omega
              rw [this]; have := (hbb.2.1 pb).1; omega
          · have := h2.2.2.1 mi i (by omega) y
            have := (hbb.2.1 pb).1; omega
        · rw [if_neg (by rw [q_eq (by omega) (by omega)]; exact xb), ed]
          have e0 : m2 q = 0 := z2 q hTq (by omega)
          have e3 : (0 : Int32) + zI (m1 q) = zI (m1 q - m2 q) := by
            rw [← zI_0, zI_add, e0]; congr 1; omega
          rw [e3]
          refine step (pl + 1) mi (by omega) (by omega) (by omega) (by omega) (by omega) f1 f2 (fun i hi => by have := a9 i hi; omega) (fun i x y => by have := g2 i x y; omega) (by omega)
      · have xb : b = q := by omega
        have pb : mi < n2 := by
          by_cases w : mi < n2
          · exact w
          · have := hbb.2.2 w; omega
        have ed2 : d2 mi = zI (m2 q) := by rw [(h2.2.1 mi pb).2.1, ← (hbb.2.1 pb).1, xb]
        rw [if_neg (by rw [q_eq (by omega) (by omega)]; exact xa)]
        unfold f_X0_becomeDifference_80
        rw [f_codeAt (by omega) hn2 (by omega), k_b1S, h2.codeX hB, eb, if_pos (by rw [xb]), f_countAt (by omega) hn2 (by omega), k_b1S, if_pos pb, k_letS, k_letS, q_1, q_add, ed2]
        have e0 : m1 q = 0 := z1 q hTq (by omega)
        have e3 : (0 : Int32) - zI (m2 q) = zI (m1 q - m2 q) := by
          rw [← zI_0, zI_sub, e0]
        rw [e3]
        refine step pl (mi + 1) (by omega) (by omega) (by omega) (by omega) (by omega) (fun i hi => by have := a7 i hi; omega) (fun i x y => by have := g1 i x y; omega) (fun i hi => ?_) (fun i x y => ?_) (by omega)
        · rcases Nat.lt_or_ge i mi with v | v
          · have := a9 i v; omega
          · have : i = mi := by omega
            rw [this]; have := (hbb.2.1 pb).1; omega
        · have := h2.2.2.1 mi i (by omega) y
          have := (hbb.2.1 pb).1; omega
theorem f_diff {size1 total1 size2 total2 size total : Int32} {codes counts : Nat → Int32} (hfu : 100000 ≤ fu) (hl : lim < 80000) (hl1 : l1 + l2 ≤ lim) (hl3 : l1 < 40000) (hl4 : l2 < 40000) (hB : B ≤ 1000000) (h1 : CR l1 B m1 size1 total1 c1 d1) (h2 : CR l2 B m2 size2 total2 c2 d2) (hb1 : ∀ c, -1000000 ≤ m1 c ∧ m1 c ≤ 1000000) (hb2 : ∀ c, -1000000 ≤ m2 c ∧ m2 c ≤ 1000000) :
    ∃ size' total' codes' counts', f_X0_becomeDifference fu lim lim l1 l1 l2 l2 size1 c1 d1 size2 c2 d2 size total codes counts = some (size', total', codes', counts') ∧ CR lim B (fun c => m1 c - m2 c) size' total' codes' counts' := by
  obtain ⟨n1, k1, e1, _, h1⟩ := h1
  obtain ⟨n2, k2, e2, _, h2⟩ := h2
  subst e1; subst e2
  have hn1 := h1.1
  have hn2 := h2.1
  unfold f_X0_becomeDifference f_X0_clear
  rw [k_b2S, q_add, k_letS]
  have e : md m1 m2 0 = fun _ => 0 := by funext c; exact if_neg (by omega)
  exact f_diff_loop (by omega) hl3 hl4 hB (by omega) h1 h2 hb1 hb2 (n1 + n2) fu 0 0 0 0 0 (fun _ => 0) 0 codes counts (by omega) (by omega) (by omega) (by omega) (by omega) (by omega) (fun i h => by omega) (fun i _ _ => by omega) (fun i h => by omega) (fun i _ _ => by omega) (by rw [e]; exact CRk.empty _ _ _ _) (by rw [e, si_zero]; rfl) (fun i h => by omega)
end CRD
