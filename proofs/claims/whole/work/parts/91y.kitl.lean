/-! Calls in a large world: the callee's cells are marked place by place in one block of it. -/
def k_wk : List Bool → va_W → va_W → va_W → va_W → Prop
  | [], [], [], [], [] => True
  | true :: bs, x :: w, x' :: w', z :: w1, z' :: w1' => (x = z ∧ x' = z' ∧ x'.1 = x.1) ∧ k_wk bs w w' w1 w1'
  | false :: bs, x :: w, x' :: w', w1, w1' => x' = x ∧ k_wk bs w w' w1 w1'
  | _, _, _, _, _ => False
def k_tr (n : Nat) : List Bool → List Nat
  | [] => []
  | true :: bs => n :: k_tr (n + 1) bs
  | false :: bs => k_tr (n + 1) bs
theorem k_tr_ge : ∀ (bs : List Bool) (n a : Nat), a ∈ k_tr n bs → n ≤ a
  | [], _, _, h => absurd h List.not_mem_nil
  | true :: bs, n, a, h => by
    rcases List.mem_cons.mp h with e | h
    · omega
    · have := k_tr_ge bs (n + 1) a h; omega
  | false :: bs, n, a, h => by
    have := k_tr_ge bs (n + 1) a h; omega
theorem k_tr_nd : ∀ (bs : List Bool) (n : Nat), va_nd (k_tr n bs) = true
  | [], _ => rfl
  | true :: bs, n => by
    show (decide (n ∉ k_tr (n + 1) bs) && va_nd (k_tr (n + 1) bs)) = true
    rw [k_tr_nd bs (n + 1), Bool.and_true, decide_eq_true_eq]
    intro h
    have := k_tr_ge bs (n + 1) n h
    omega
  | false :: bs, n => k_tr_nd bs (n + 1)
theorem k_app1 (wl : va_W) (x : Nat × va_E) (t wr : va_W) : wl ++ (x :: t ++ wr) = (wl ++ [x]) ++ (t ++ wr) := by simp
theorem k_wk_at : ∀ (bs : List Bool) (wl ws ws' wr w1 w1' : va_W), k_wk bs ws ws' w1 w1' → k_at (wl ++ (ws ++ wr)) (k_tr wl.length bs) w1 ∧ k_at (wl ++ (ws' ++ wr)) (k_tr wl.length bs) w1'
  | [], wl, [], [], wr, [], [], _ => ⟨trivial, trivial⟩
  | true :: bs, wl, x :: w, x' :: w', wr, z :: w1, z' :: w1', h => by
    obtain ⟨⟨e1, e2, _⟩, h⟩ := h
    subst e1; subst e2
    have i1 := (k_wk_at bs (wl ++ [x]) w w' wr w1 w1' h).1
    have i2 := (k_wk_at bs (wl ++ [x']) w w' wr w1 w1' h).2
    rw [List.length_append] at i1 i2
    refine ⟨⟨by simp, ?_⟩, ⟨by simp, ?_⟩⟩
    · rw [k_app1]; exact i1
    · rw [k_app1]; exact i2
  | false :: bs, wl, x :: w, x' :: w', wr, w1, w1', h => by
    obtain ⟨e1, h⟩ := h
    subst e1
    have i1 := k_wk_at bs (wl ++ [x']) w w' wr w1 w1' h
    rw [List.length_append] at i1
    rw [k_app1, k_app1]
    exact i1
theorem k_wk_fst : ∀ (bs : List Bool) (ws ws' w1 w1' : va_W), k_wk bs ws ws' w1 w1' → ws'.map Prod.fst = ws.map Prod.fst
  | [], [], [], [], [], _ => rfl
  | true :: bs, x :: w, x' :: w', z :: w1, z' :: w1', h => by
    show x'.1 :: w'.map Prod.fst = x.1 :: w.map Prod.fst
    rw [h.1.2.2, k_wk_fst bs w w' w1 w1' h.2]
  | false :: bs, x :: w, x' :: w', w1, w1', h => by
    show x'.1 :: w'.map Prod.fst = x.1 :: w.map Prod.fst
    rw [h.1, k_wk_fst bs w w' w1 w1' h.2]
theorem k_wk_ot : ∀ (bs : List Bool) (wl ws ws' wr w1 w1' : va_W), k_wk bs ws ws' w1 w1' → ∀ i, i ∉ k_tr wl.length bs → (wl ++ (ws' ++ wr))[i]? = (wl ++ (ws ++ wr))[i]?
  | [], wl, [], [], wr, [], [], _, _, _ => rfl
  | true :: bs, wl, x :: w, x' :: w', wr, z :: w1, z' :: w1', h, i, hi => by
    have hne : i ≠ wl.length := fun e => hi (by rw [e]; exact List.mem_cons_self)
    have h2 : i ∉ k_tr (wl.length + 1) bs := fun q => hi (List.mem_cons_of_mem _ q)
    have i1 := k_wk_ot bs (wl ++ [x]) w w' wr w1 w1' h.2 i (by rw [List.length_append]; exact h2)
    rw [k_app1, k_app1, ← i1]
    rcases Nat.lt_or_gt_of_ne hne with c | c
    · rw [List.append_assoc, List.append_assoc, List.getElem?_append_left c, List.getElem?_append_left c]
    · have l1 : (wl ++ [x']).length ≤ i := by simp; omega
      have l2 : (wl ++ [x]).length ≤ i := by simp; omega
      have l3 : (wl ++ [x']).length = (wl ++ [x]).length := by simp
      rw [List.getElem?_append_right l1, List.getElem?_append_right l2, l3]
  | false :: bs, wl, x :: w, x' :: w', wr, w1, w1', h, i, hi => by
    obtain ⟨e1, h⟩ := h
    subst e1
    have h2 : i ∉ k_tr (wl.length + 1) bs := hi
    have i1 := k_wk_ot bs (wl ++ [x']) w w' wr w1 w1' h i (by rw [List.length_append]; exact h2)
    rw [k_app1, k_app1]
    exact i1
theorem k_sm_of {ws ws' : va_W} : ∀ (is : List Nat), (∀ i ∈ is, ws'[i]? = ws[i]?) → k_sm ws ws' is
  | [], _ => trivial
  | i :: is, h => ⟨h i List.mem_cons_self, k_sm_of is (fun j hj => h j (List.mem_cons_of_mem _ hj))⟩
def k_oth (n : Nat) (is : List Nat) : List Nat := (List.range n).filter (fun k => !is.contains k)
theorem k_wk_O {bs : List Bool} {ws ws' w1 w1' : va_W} (wl wr : va_W) (h : k_wk bs ws ws' w1 w1') : k_O (wl ++ (ws ++ wr)) (wl ++ (ws' ++ wr)) w1' (k_tr wl.length bs) (k_oth (wl ++ (ws' ++ wr)).length (k_tr wl.length bs)) := by
  refine ⟨(k_wk_at bs wl ws ws' wr w1 w1' h).2, k_sm_of _ (fun i hi => ?_), ?_⟩
  · have h2 := (List.mem_filter.mp hi).2
    refine k_wk_ot bs wl ws ws' wr w1 w1' h i (fun q => ?_)
    rw [List.contains_iff_mem.mpr q] at h2
    cases h2
  · unfold k_cov
    rw [List.all_eq_true]
    intro k hk
    by_cases c : (k_tr wl.length bs).contains k = true
    · rw [c]; rfl
    · have : (k_oth (wl ++ (ws' ++ wr)).length (k_tr wl.length bs)).contains k = true := List.contains_iff_mem.mpr (List.mem_filter.mpr ⟨hk, by rw [Bool.eq_false_iff.mpr c]; rfl⟩)
      rw [this, Bool.or_true]
theorem k_wk_d {bs : List Bool} {ws ws' w1 w1' : va_W} (wl wr : va_W) (h : k_wk bs ws ws' w1 w1') : (wl ++ (ws' ++ wr)).map Prod.fst = (wl ++ (ws ++ wr)).map Prod.fst := by
  rw [List.map_append, List.map_append, List.map_append, List.map_append, k_wk_fst bs ws ws' w1 w1' h]
section KL
variable {p : Program} {l : Launch} {e : Env} {R : Room} {s : State} {m : MethodId} {args : Array Value} {below : List Frame} {meth : Method} {c : Code} {H : Heap} {locs : List Loc} {cells slots : Nat} {Q : State → Prop} {pc : Nat} {ls : Array Slot} {rest st0 : List Value} {A : Nat → Prop} {D : va_G} {cA : Nat → ClassId} {ws w1 w1' ws' : va_W} {v : Option Value} {cc bytes : ByteArray} {mc ms maxL nL n index : Nat} {y : MethodName} {ret : Option FieldType} {hh : List (Nat × Nat × Nat × Nat)} {rm : Room} {own C : String} {As : List Value} {b ci N : Nat} {fs : List Value} {T : u_T} {H0 : Heap} {bs : List Bool}
theorem k_callHW (wl wr : va_W) (hM : k_MH l y bytes maxL ret hh rm D cA As w1 H.size v w1' mc ms) (hwk : k_wk bs ws ws' w1 w1') (hx : p.tables.exec = Jvm.exec) (hb : c.code = cc) (hml : c.maxLocals = nL) (hown : s.vm.findClass own = some m.cls) (hts : ∀ w ∈ LW, w.before args s = true) (hB : k_B D cA s) (hZ : k_ZU A s s.heap) (hSR : k_SR s) (hNC : k_NC s) (hA : ∀ q : Nat, s.heap.size ≤ q → A q) (hW : k_Wd D A s.heap (wl ++ (ws ++ wr)) H locs) (hl0 : ls.size = nL)
    (hcode : Cond.codeWith y bytes maxL ret hh ∈ LW) (hini : Cond.initialized y.cls ∈ LW) (hst : Cond.static y ∈ LW) (hl : Cond.methodLink own index y ∈ LW) (hd1 : k_D1 y n) (hR : k_RX rm R maxL mc ms) (hn : As.length = n)
    (hstack : st0 = As.reverse ++ rest) (hcat : (rest.map fun v => v.category).sum ≤ 8) (hf : cells + mc ≤ R.cells ∧ slots + ms ≤ R.slots) (hdg : decode cc pc = .ok (.invokestatic index, 3))
    {st1 : List Value} (hst1 : v.toList ++ rest = st1)
    (kk : ∀ (H1 : Heap) (locs1 : List Loc), k_Wd D A s.heap (wl ++ (ws' ++ wr)) H1 locs1 → W p l e R s m args below meth c H1 locs1 (cells + mc) (slots + ms) Q (F0 m (pc + 3) ls st1)) : W p l e R s m args below meth c H locs cells slots Q (F0 m pc ls st0) :=
  k_callH hM hx hb hml hown hts hB hZ hSR hNC hA hW hl0 hcode hini hst hl hd1 hR hn _ _ (k_wk_at bs wl ws ws' wr w1 w1' hwk).1 (k_tr_nd _ _) (k_wk_O wl wr hwk) (k_wk_d wl wr hwk) hstack hcat hf hdg hst1 kk
theorem k_callVW (wl wr : va_W) (hM : k_M l y bytes maxL ret rm D cA (.ref b :: As) w1 H.size v w1') (hwk : k_wk bs ws ws' w1 w1') (hx : p.tables.exec = Jvm.exec) (hb : c.code = cc) (hml : c.maxLocals = nL) (hown : s.vm.findClass own = some m.cls) (hts : ∀ w ∈ LW, w.before args s = true) (hB : k_B D cA s) (hA : ∀ q : Nat, H0.size ≤ q → A q) (hW : k_Wd D A H0 (wl ++ (ws ++ wr)) H locs) (hl0 : ls.size = nL)
    (hcode : Cond.code y bytes maxL ret ∈ LW) (hini : Cond.initialized y.cls ∈ LW) (him : Cond.instanceMethod y ∈ LW) (hse : Cond.selects C y y ∈ LW) (hl : Cond.methodLink own index y ∈ LW) (hd1 : k_D1 y n) (hR : k_Rm rm R maxL) (hn : As.length = n) (he : ws[0]? = some (b, .inr (ci, fs))) (hc : vwCl[ci]? = some (C, T, N))
    (hstack : st0 = As.reverse ++ .ref b :: rest) (hcat : (rest.map fun v => v.category).sum ≤ 8) (hf : cells ≤ R.cells ∧ slots ≤ R.slots) (hdg : decode cc pc = .ok (.invokevirtual index, 3))
    {st1 : List Value} (hst1 : v.toList ++ rest = st1) (kk : ∀ (H1 : Heap) (locs1 : List Loc), k_Wd D A H0 (wl ++ (ws' ++ wr)) H1 locs1 → W p l e R s m args below meth c H1 locs1 cells slots Q (F0 m (pc + 3) ls st1)) : W p l e R s m args below meth c H locs cells slots Q (F0 m pc ls st0) :=
  have he2 : (wl ++ (ws ++ wr))[wl.length]? = some (b, .inr (ci, fs)) := by
    rw [List.getElem?_append_right (Nat.le_refl _), Nat.sub_self]
    obtain ⟨h1, h2⟩ := List.getElem?_eq_some_iff.mp he
    rw [List.getElem?_append_left h1, he]
  k_callV hM hx hb hml hown hts hB hA hW hl0 hcode hini him hse hl hd1 hR hn wl.length he2 hc _ _ (k_wk_at bs wl ws ws' wr w1 w1' hwk).1 (k_tr_nd _ _) (k_wk_O wl wr hwk) (k_wk_d wl wr hwk) hstack hcat hf hdg hst1 kk
end KL
