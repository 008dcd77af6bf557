/-! My own layer: one word list for all methods, one contract form, calls that overwrite the callee's cells in place. -/
def wM (y : MethodName) (cc : ByteArray) (n : Nat) (r : Option FieldType) : List Cond := .code y cc n r :: LW
theorem k_good {w : Cond} (h : w ∈ LW) : (w.onTables && w.keeps) = true ∨ ∃ ty, w = .arrayClass ty := good_of_word (List.mem_filter.mp h).2
theorem k_goodM {y : MethodName} {cc : ByteArray} {n : Nat} {r : Option FieldType} (h : Cond.code y cc n r ∈ LW) : GoodIn LW (wM y cc n r) := fun w hw => (List.mem_cons.mp hw).elim (fun e => e ▸ ⟨h, k_good h⟩) (fun hw => ⟨hw, k_good hw⟩)
def k_ty (cA : Nat → ClassId) : List (ClassId × FieldType) := [(cA 0, .int), (cA 1, .char), (cA 2, .boolean), (cA 3, .long), (cA 4, .double), (cA 5, .object "ViewMaintainer$Tables")]
def k_isN : Cond → Bool
  | .fieldLinkNest _ _ _ _ _ _ => true
  | .methodLinkNest _ _ _ _ => true
  | _ => false
def LN : List Cond := lw_tbl.filter k_isN
theorem ln_in {w : Cond} (h : w ∈ lw_tbl) (g : k_isN w = true) : w ∈ LN := List.mem_filter.mpr ⟨h, g⟩
theorem k_isN_tab {w : Cond} (h : k_isN w = true) : w.onTables = true := by
  cases w <;> first | rfl | (simp [k_isN] at h)
theorem k_isN_warm {w : Cond} (h : k_isN w = true) {s U : State} (hW : s.WarmedH U.vm) (hZ : va_Nw w s) : va_Nw w U := by
  cases w <;> first | exact va_Nw.warmF hW hZ | exact va_Nw.warmM hW hZ | (simp [k_isN] at h)
def k_B (D : va_G) (cA : Nat → ClassId) (U : State) : Prop := va_K D vwCl (k_ty cA) U ∧ ∀ w ∈ LN, va_Nw w U
theorem k_B.warm {D : va_G} {cA : Nat → ClassId} {s U : State} (hW : s.WarmedH U.vm) (h : k_B D cA s) : k_B D cA U := ⟨va_K.moved hW.alike h.1, fun w hw => k_isN_warm (List.mem_filter.mp hw).2 hW (h.2 w hw)⟩
theorem k_B.call {D : va_G} {cA : Nat → ClassId} {U : State} {g : JFrame} {mk : MethodId} {a : Array Value} (h : k_B D cA U) : k_B D cA (U.calling g mk a) := ⟨va_K.moved (u := U) (U := U.calling g mk a) (Vm.Alike.refl U.vm) h.1, fun w hw => va_Nw.same (k_isN_tab (List.mem_filter.mp hw).2) (u := U) (U := U.calling g mk a) rfl (h.2 w hw)⟩
def k_P (D : va_G) (cA : Nat → ClassId) (ws : va_W) (sz : Nat) (U : State) : Prop := U.heap.size = sz ∧ va_P D vwCl ws U.heap ∧ k_B D cA U ∧ va_D (fun _ => True) ws
def k_Wd (D : va_G) (A : Nat → Prop) (H0 : Heap) (ws : va_W) (H : Heap) (locs : List Loc) : Prop := va_P D vwCl ws H ∧ va_D A ws ∧ va_S A H0 H locs
def k_Q (v : Option Value) (D : va_G) (ws : va_W) (A : Nat → Prop) : Array Value → State → Outcome → State → Prop := fun _ st oc t => oc = .returned v ∧ va_P D vwCl ws t.heap ∧ va_F A st t
def k_M (l : Launch) (y : MethodName) (cc : ByteArray) (n : Nat) (ret : Option FieldType) (rm : Room) (D : va_G) (cA : Nat → ClassId) (av : List Value) (ws : va_W) (sz : Nat) (v : Option Value) (ws' : va_W) : Prop :=
  Met l y (wM y cc n ret) rm (va_Pc av (k_P D cA ws sz)) (k_Q v D ws' (va_A ws sz)) 0 0 (va_A ws sz)
theorem k_blind {D : va_G} {cA : Nat → ClassId} {av : List Value} {ws : va_W} {sz : Nat} : FrameBlind (va_Pc av (k_P D cA ws sz)) := fun a U g mk q => by
  obtain ⟨q0, q1, qP, qK, qD⟩ := q
  exact ⟨q0, q1, qP, qK.call, qD⟩
theorem k_ofW {l : Launch} {y : MethodName} {cc : ByteArray} {maxL : Nat} {ret : Option FieldType} {rm : Room} {D : va_G} {cA : Nat → ClassId} {av : List Value} {ws : va_W} {sz : Nat} {v : Option Value} {ws' : va_W} (hy : plainName y.cls = true) (hlen : (lg_sl av).length ≤ maxL)
    (body : ∀ (p : Program) (e : Env) (s : State) (m : MethodId) (below : List Frame) (meth : Method) (c : Code) (A : Nat → Prop) (ls : Array Slot), p.tables.exec = Jvm.exec → c.code = cc → meth.sig.returnType = ret → c.maxLocals = maxL → (∀ w ∈ LW, w.before av.toArray s = true) → s.vm.findClass y.cls = some m.cls → meth.locks = false → k_B D cA s → (∀ q : Nat, s.heap.size ≤ q → A q) → k_Wd D A s.heap ws s.heap [] → lv_has ls maxL (lv_args 0 av) →
      W p l e rm s m av.toArray below meth c s.heap [] 0 0 (MQ below (k_Q v D ws' A) av.toArray s 0 0 A) (F0 m 0 ls [])) : k_M l y cc maxL ret rm D cA av ws sz v ws' := by
  refine Met.ofW (cc := cc) (maxL := maxL) (ret := ret) hy rfl ?_
  intro p e s m args below meth c s₁ B hml hv
  obtain ⟨rfl, hsz, hP, hK, hD0⟩ := hv
  have hts := atoms_spec (ws := wM y cc maxL ret) B.pre
  subst hsz
  have hD := hD0.self (sz := s.heap.size)
  have hl := lv_entry av (n := maxL) hlen
  rw [lg_entry_eq]
  exact body p e s m below meth c _ _ B.exec B.bytes B.returns hml (fun w h => hts w (List.mem_cons_of_mem _ h)) (findClass_of_methodNamed B.named) B.notSynchronized hK (fun q h => Or.inr h) ⟨hP, hD, va_S.rf⟩ hl
theorem k_D_same {A : Nat → Prop} {ws ws' : va_W} (h : ws'.map Prod.fst = ws.map Prod.fst) (hD : va_D A ws) : va_D A ws' := by
  have key : ∀ (k : Nat) (q : Nat × va_E), ws'[k]? = some q → ∃ q0, ws[k]? = some q0 ∧ q0.1 = q.1 := by
    intro k q hk
    have h1 : (ws'.map Prod.fst)[k]? = some q.1 := by rw [List.getElem?_map, hk]; rfl
    rw [h, List.getElem?_map] at h1
    cases hz : ws[k]? with
    | none => rw [hz] at h1; cases h1
    | some q0 => rw [hz] at h1; exact ⟨q0, rfl, Option.some.inj h1⟩
  refine ⟨fun i j x y hi hj hxy => ?_, fun k q hk => ?_⟩
  · obtain ⟨x0, h1, h2⟩ := key i x hi
    obtain ⟨y0, h3, h4⟩ := key j y hj
    exact hD.1 i j x0 y0 h1 h3 (h2.trans (hxy.trans h4.symm))
  · obtain ⟨q0, h1, h2⟩ := key k q hk
    rw [← h2]
    exact hD.2 k q0 h1
def k_at (ws : va_W) : List Nat → va_W → Prop
  | i :: is, x :: xs => ws[i]? = some x ∧ k_at ws is xs
  | [], [] => True
  | _, _ => False
theorem k_atM {ws : va_W} : ∀ (is : List Nat) (xs : va_W), k_at ws is xs → is.map (fun i => ws[i]?) = xs.map some
  | [], [], _ => rfl
  | i :: is, x :: xs, h => by
    show ws[i]? :: is.map (fun i => ws[i]?) = some x :: xs.map some
    rw [h.1, k_atM is xs h.2]
theorem k_at1 {ws : va_W} : ∀ (is : List Nat) (xs : va_W), k_at ws is xs → ∀ (j : Nat) (x : Nat × va_E), xs[j]? = some x → ∃ i, is[j]? = some i ∧ ws[i]? = some x
  | [], [], _, j, x, h => by simp at h
  | i :: is, y :: xs, h, 0, x, hx => ⟨i, rfl, by rw [h.1]; simpa using hx⟩
  | i :: is, y :: xs, h, j + 1, x, hx => by
    obtain ⟨i', h1, h2⟩ := k_at1 is xs h.2 j x (by simpa using hx)
    exact ⟨i', by simpa using h1, h2⟩
theorem k_at2 {ws : va_W} : ∀ (is : List Nat) (xs : va_W), k_at ws is xs → ∀ i ∈ is, ∃ (j : Nat) (x : Nat × va_E), xs[j]? = some x ∧ ws[i]? = some x
  | [], [], _, i, h => absurd h List.not_mem_nil
  | k :: is, y :: xs, h, i, hi => by
    rcases List.mem_cons.mp hi with e | hi
    · subst e; exact ⟨0, y, rfl, h.1⟩
    · obtain ⟨j, x, h1, h2⟩ := k_at2 is xs h.2 i hi
      exact ⟨j + 1, x, by simpa using h1, h2⟩
def k_sm (ws ws' : va_W) : List Nat → Prop
  | [] => True
  | i :: is => ws'[i]? = ws[i]? ∧ k_sm ws ws' is
theorem k_smE {ws ws' : va_W} : ∀ (is : List Nat), k_sm ws ws' is → ∀ i ∈ is, ws'[i]? = ws[i]?
  | k :: is, h, i, hi => by
    rcases List.mem_cons.mp hi with e | hi
    · subst e; exact h.1
    · exact k_smE is h.2 i hi
def k_cov (n : Nat) (is js : List Nat) : Bool := (List.range n).all fun k => is.contains k || js.contains k
def k_O (ws ws' w1' : va_W) (isC isR : List Nat) : Prop := k_at ws' isC w1' ∧ k_sm ws ws' isR ∧ k_cov ws'.length isC isR = true
theorem k_ovP {D : va_G} {A : Nat → Prop} {ws w1 w1' ws' : va_W} {H H1 : Heap} (hP : va_P D vwCl ws H) (hD : va_D A ws) (isC isR : List Nat) (hC : k_at ws isC w1) (hk : ∀ q : Nat, q < H.size → ¬ va_A w1 H.size q → H1[q]? = H[q]?) (hP1 : va_P D vwCl w1' H1) (ho : k_O ws ws' w1' isC isR) : va_P D vwCl ws' H1 := by
  obtain ⟨h1, h2, h3⟩ := ho
  intro k q hq
  by_cases hc : k ∈ isC
  · obtain ⟨j, x, e1, e2⟩ := k_at2 isC w1' h1 k hc
    rw [hq] at e2
    cases e2
    exact hP1 j q e1
  · have hlt : k < ws'.length := (List.getElem?_eq_some_iff.mp hq).1
    have h4 := List.all_eq_true.mp h3 k (List.mem_range.mpr hlt)
    have hr : k ∈ isR := by
      simp only [Bool.or_eq_true, List.contains_iff_mem] at h4
      rcases h4 with h | h
      · exact absurd h hc
      · exact h
    rw [k_smE isR h2 k hr] at hq
    have hl := (hP k q hq).lt
    refine (hP k q hq).kept (hk q.1 hl fun ha => ?_)
    rcases ha with ⟨j, x, hx⟩ | ha
    · obtain ⟨i, e1, e2⟩ := k_at1 isC w1 hC j (q.1, x) hx
      have h5 := hD.1 k i q (q.1, x) hq e2 rfl
      subst h5
      exact hc (List.mem_of_getElem? e1)
    · omega
theorem k_sub {D : va_G} {ws w1 : va_W} {H : Heap} (hP : va_P D vwCl ws H) (isC : List Nat) (hC : isC.map (fun i => ws[i]?) = w1.map some) : va_P D vwCl w1 H := by
  intro k q hk
  have h3 : (isC.map (fun i => ws[i]?))[k]? = some (some q) := by rw [hC, List.getElem?_map, hk]; rfl
  rw [List.getElem?_map] at h3
  cases hz : isC[k]? with
  | none => rw [hz] at h3; cases h3
  | some i => rw [hz] at h3; exact hP i q (Option.some.inj h3)
section KC
variable {p : Program} {l : Launch} {e : Env} {R : Room} {s : State} {m : MethodId} {args : Array Value} {below : List Frame} {meth : Method} {c : Code} {H H0 : Heap} {locs : List Loc} {cells slots : Nat} {Q : State → Prop} {pc : Nat} {ls : Array Slot} {rest st0 : List Value} {A : Nat → Prop} {D : va_G} {cA : Nat → ClassId} {ws w1 w1' ws' : va_W} {v : Option Value} {a : Array Value}
theorem k_call (hr : va_Run p l e R s m args below meth c H locs cells slots 0 0 (F0 m pc ls st0) rest (k_Q v D w1' (va_A w1 H.size) a) (va_A w1 H.size)) (hW : k_Wd D A H0 ws H locs) (hA : ∀ q : Nat, H0.size ≤ q → A q) (isC isR : List Nat) (hC : k_at ws isC w1) (ho : k_O ws ws' w1' isC isR) (hd : ws'.map Prod.fst = ws.map Prod.fst)
    {st1 : List Value} (hst1 : v.toList ++ rest = st1) (kk : ∀ (H1 : Heap) (locs1 : List Loc), k_Wd D A H0 ws' H1 locs1 → W p l e R s m args below meth c H1 locs1 cells slots Q (F0 m (pc + 3) ls st1)) : W p l e R s m args below meth c H locs cells slots Q (F0 m pc ls st0) := by
  subst hst1
  intro T hT X
  obtain ⟨hP, hD, hS⟩ := hW
  have hF : ∀ q, va_A w1 H.size q → A q := va_free hD hS hA isC (k_atM _ _ hC)
  obtain ⟨v', st₀, t, T', L, h0, X', hL, e1, e2, ⟨hv, hP1, hz, hk⟩, st⟩ := hr T hT X
  cases hv
  rw [h0] at hz hk
  have hk' : ∀ q : Nat, q < H.size → ¬ va_A w1 H.size q → T'.heap[q]? = H[q]? := fun q h1 h2 => by rw [e1]; exact hk q h1 h2
  obtain ⟨t2, a1, b1⟩ := kk T'.heap (locs ++ L) ⟨k_ovP hP hD isC isR hC hk' (by rw [e1]; exact hP1) ho, k_D_same hd hD, Nat.le_trans hS.1 (by rw [e1]; exact hz), fun q h1 h2 => by rw [hk' q (Nat.lt_of_lt_of_le h1 hS.1) (fun z => h2 (hF q z))]; exact hS.2.1 q h1 h2, fun q hq => by
      rcases List.mem_append.mp hq with h | h
      · exact hS.2.2 q h
      · exact hF _ (hL q h)⟩ T' rfl X'
  exact ⟨t2, st t2 a1, b1⟩
variable {y : MethodName} {bytes cc : ByteArray} {maxL nL n index : Nat} {ret : Option FieldType} {rm : Room} {own : String} {As : List Value} {b ci : Nat} {fs : List Value} {T : u_T} {N : Nat}
abbrev k_D1 (y : MethodName) (n : Nat) : Prop := y.cls ≠ "java/lang/invoke/MethodHandle" ∧ y.cls ≠ "java/lang/invoke/VarHandle" ∧ (parseMethodDescriptor y.desc).map (fun d => d.parameters.length) = some n
abbrev k_Rm (rm R : Room) (maxL : Nat) : Prop := rm.cells = 0 ∧ rm.slots = 0 ∧ rm.frames + 1 ≤ R.frames ∧ 8 + (maxL + 11) + rm.locals ≤ R.locals
theorem k_cb (hts : ∀ w ∈ LW, w.before args s = true) (hcode : Cond.code y bytes maxL ret ∈ LW) (hini : Cond.initialized y.cls ∈ LW) (hl : Cond.methodLink own index y ∈ LW) (hd1 : k_D1 y n) (hR : k_Rm rm R maxL) : CallB R s args own index y bytes maxL ret (wM y bytes maxL ret) rm 0 0 n :=
  callB_of n hts (k_goodM hcode) rfl hR.1 hR.2.1 (hts _ hini) (hts _ hl) hd1 hR.2.2
theorem k_pre (hB : k_B D cA s) (hW : k_Wd D A H0 ws H locs) (isC : List Nat) (hC : isC.map (fun i => ws[i]?) = w1.map some) (hn : va_nd isC = true) (av : List Value) : ∀ U : State, U.heap = H → s.WarmedH U.vm → va_Pc av (k_P D cA w1 H.size) av.toArray U := fun U hU hWm =>
  ⟨rfl, by rw [hU], by rw [hU]; exact k_sub hW.1 isC hC, hB.warm hWm, (hW.2.1.sub isC hn hC).weaken (fun _ _ _ _ => trivial)⟩
/-- a static call, own class -/
theorem k_callS (hM : k_M l y bytes maxL ret rm D cA As w1 H.size v w1') (hx : p.tables.exec = Jvm.exec) (hb : c.code = cc) (hml : c.maxLocals = nL) (hown : s.vm.findClass own = some m.cls) (hts : ∀ w ∈ LW, w.before args s = true) (hB : k_B D cA s) (hA : ∀ q : Nat, H0.size ≤ q → A q) (hW : k_Wd D A H0 ws H locs) (hl0 : ls.size = nL)
    (hcode : Cond.code y bytes maxL ret ∈ LW) (hini : Cond.initialized y.cls ∈ LW) (hst : Cond.static y ∈ LW) (hl : Cond.methodLink own index y ∈ LW) (hd1 : k_D1 y n) (hR : k_Rm rm R maxL) (hn : As.length = n) (isC isR : List Nat) (hC0 : k_at ws isC w1) (hnd : va_nd isC = true) (ho : k_O ws ws' w1' isC isR) (hd : ws'.map Prod.fst = ws.map Prod.fst)
    (hstack : st0 = As.reverse ++ rest) (hcat : (rest.map fun v => v.category).sum ≤ 8) (hf : cells ≤ R.cells ∧ slots ≤ R.slots) (hdg : decode cc pc = .ok (.invokestatic index, 3))
    {st1 : List Value} (hst1 : v.toList ++ rest = st1) (kk : ∀ (H1 : Heap) (locs1 : List Loc), k_Wd D A H0 ws' H1 locs1 → W p l e R s m args below meth c H1 locs1 cells slots Q (F0 m (pc + 3) ls st1)) : W p l e R s m args below meth c H locs cells slots Q (F0 m pc ls st0) :=
  k_call (va_runS (As := As) (rest := rest) (g := F0 m pc ls st0) (own := own) (Ts := LW) ⟨hx, hb, hml, hown, hts⟩ hM ⟨k_cb hts hcode hini hl hd1 hR, hts _ hst⟩ ⟨k_blind, k_pre hB hW isC (k_atM _ _ hC0) hnd As⟩ rfl hn hl0 hstack (lv_room hcat) hdg hf) hW hA isC isR hC0 ho hd hst1 kk
/-- a virtual call (private methods too) -/
theorem k_callV {C : String} (hM : k_M l y bytes maxL ret rm D cA (.ref b :: As) w1 H.size v w1') (hx : p.tables.exec = Jvm.exec) (hb : c.code = cc) (hml : c.maxLocals = nL) (hown : s.vm.findClass own = some m.cls) (hts : ∀ w ∈ LW, w.before args s = true) (hB : k_B D cA s) (hA : ∀ q : Nat, H0.size ≤ q → A q) (hW : k_Wd D A H0 ws H locs) (hl0 : ls.size = nL)
    (hcode : Cond.code y bytes maxL ret ∈ LW) (hini : Cond.initialized y.cls ∈ LW) (him : Cond.instanceMethod y ∈ LW) (hse : Cond.selects C y y ∈ LW) (hl : Cond.methodLink own index y ∈ LW) (hd1 : k_D1 y n) (hR : k_Rm rm R maxL) (hn : As.length = n) (q0 : Nat) (he : ws[q0]? = some (b, .inr (ci, fs))) (hc : vwCl[ci]? = some (C, T, N)) (isC isR : List Nat) (hC0 : k_at ws isC w1) (hnd : va_nd isC = true) (ho : k_O ws ws' w1' isC isR) (hd : ws'.map Prod.fst = ws.map Prod.fst)
    (hstack : st0 = As.reverse ++ .ref b :: rest) (hcat : (rest.map fun v => v.category).sum ≤ 8) (hf : cells ≤ R.cells ∧ slots ≤ R.slots) (hdg : decode cc pc = .ok (.invokevirtual index, 3))
    {st1 : List Value} (hst1 : v.toList ++ rest = st1) (kk : ∀ (H1 : Heap) (locs1 : List Loc), k_Wd D A H0 ws' H1 locs1 → W p l e R s m args below meth c H1 locs1 cells slots Q (F0 m (pc + 3) ls st1)) : W p l e R s m args below meth c H locs cells slots Q (F0 m pc ls st0) :=
  k_call (va_runV (As := As) (rest := rest) (b := b) (g := F0 m pc ls st0) (own := own) (C := C) (Ts := LW) ⟨hx, hb, hml, hown, hts⟩ hM ⟨k_cb hts hcode hini hl hd1 hR, hts _ him, hts _ hse⟩ ⟨k_blind, va_recv hB.1 hW.1 hc he, k_pre hB hW isC (k_atM _ _ hC0) hnd (.ref b :: As)⟩ rfl hn hl0 hstack (lv_room hcat) hdg hf) hW hA isC isR hC0 ho hd hst1 kk
end KC
def k_let {α β : Type} (e : α) (f : α → β) : β := f e
theorem k_letE {α β : Type} {e x : α} {f : α → β} {r : β} (hx : x = e) (h : k_let e f = r) : f x = r := by subst hx; exact h
theorem k_g {α : Type} {c : Prop} [Decidable c] {a : Option α} {r : α} (h : (if c then a else none) = some r) : c ∧ a = some r := by
  by_cases hc : c
  · rw [if_pos hc] at h; exact ⟨hc, h⟩
  · rw [if_neg hc] at h; cases h
theorem k_no {α : Type} {r : α} {P : Prop} (h : (none : Option α) = some r) : P := by cases h
theorem k_t {α : Type} {c : Prop} [Decidable c] {a b r : α} (hc : c) (h : (if c then a else b) = r) : a = r := (if_pos hc).symm.trans h
theorem k_f {α : Type} {c : Prop} [Decidable c] {a b r : α} (hc : ¬ c) (h : (if c then a else b) = r) : b = r := (if_neg hc).symm.trans h
theorem k_tb {x lo hi : Int} (h : ∀ k : Nat, lo + k ≤ hi → ¬ x = lo + k) : x < lo ∨ hi < x := by
  rcases Int.lt_or_le x lo with h1 | h1
  · exact Or.inl h1
  · rcases Int.lt_or_le hi x with h2 | h2
    · exact Or.inr h2
    · exact absurd (show x = lo + ((x - lo).toNat : Int) by omega) (h (x - lo).toNat (by omega))
def k_b1 {t0 γ : Type} (o : Option (t0)) (f : t0 → Option γ) : Option γ := match o with
  | some (x0) => f x0
  | none => none
theorem k_bE1 {t0 γ : Type} {o : Option (t0)} {f : t0 → Option γ} {r : γ} (h : k_b1 o f = some r) : ∃ x0, o = some (x0) ∧ f x0 = some r := by
  unfold k_b1 at h
  split at h
  · exact ⟨_, rfl, h⟩
  · cases h
def k_b2 {t0 t1 γ : Type} (o : Option (t0 × t1)) (f : t0 → t1 → Option γ) : Option γ := match o with
  | some (x0, x1) => f x0 x1
  | none => none
theorem k_bE2 {t0 t1 γ : Type} {o : Option (t0 × t1)} {f : t0 → t1 → Option γ} {r : γ} (h : k_b2 o f = some r) : ∃ x0 x1, o = some (x0, x1) ∧ f x0 x1 = some r := by
  unfold k_b2 at h
  split at h
  · exact ⟨_, _, rfl, h⟩
  · cases h
def k_b3 {t0 t1 t2 γ : Type} (o : Option (t0 × t1 × t2)) (f : t0 → t1 → t2 → Option γ) : Option γ := match o with
  | some (x0, x1, x2) => f x0 x1 x2
  | none => none
theorem k_bE3 {t0 t1 t2 γ : Type} {o : Option (t0 × t1 × t2)} {f : t0 → t1 → t2 → Option γ} {r : γ} (h : k_b3 o f = some r) : ∃ x0 x1 x2, o = some (x0, x1, x2) ∧ f x0 x1 x2 = some r := by
  unfold k_b3 at h
  split at h
  · exact ⟨_, _, _, rfl, h⟩
  · cases h
def k_b4 {t0 t1 t2 t3 γ : Type} (o : Option (t0 × t1 × t2 × t3)) (f : t0 → t1 → t2 → t3 → Option γ) : Option γ := match o with
  | some (x0, x1, x2, x3) => f x0 x1 x2 x3
  | none => none
theorem k_bE4 {t0 t1 t2 t3 γ : Type} {o : Option (t0 × t1 × t2 × t3)} {f : t0 → t1 → t2 → t3 → Option γ} {r : γ} (h : k_b4 o f = some r) : ∃ x0 x1 x2 x3, o = some (x0, x1, x2, x3) ∧ f x0 x1 x2 x3 = some r := by
  unfold k_b4 at h
  split at h
  · exact ⟨_, _, _, _, rfl, h⟩
  · cases h
def k_b5 {t0 t1 t2 t3 t4 γ : Type} (o : Option (t0 × t1 × t2 × t3 × t4)) (f : t0 → t1 → t2 → t3 → t4 → Option γ) : Option γ := match o with
  | some (x0, x1, x2, x3, x4) => f x0 x1 x2 x3 x4
  | none => none
theorem k_bE5 {t0 t1 t2 t3 t4 γ : Type} {o : Option (t0 × t1 × t2 × t3 × t4)} {f : t0 → t1 → t2 → t3 → t4 → Option γ} {r : γ} (h : k_b5 o f = some r) : ∃ x0 x1 x2 x3 x4, o = some (x0, x1, x2, x3, x4) ∧ f x0 x1 x2 x3 x4 = some r := by
  unfold k_b5 at h
  split at h
  · exact ⟨_, _, _, _, _, rfl, h⟩
  · cases h
def k_b6 {t0 t1 t2 t3 t4 t5 γ : Type} (o : Option (t0 × t1 × t2 × t3 × t4 × t5)) (f : t0 → t1 → t2 → t3 → t4 → t5 → Option γ) : Option γ := match o with
  | some (x0, x1, x2, x3, x4, x5) => f x0 x1 x2 x3 x4 x5
  | none => none
theorem k_bE6 {t0 t1 t2 t3 t4 t5 γ : Type} {o : Option (t0 × t1 × t2 × t3 × t4 × t5)} {f : t0 → t1 → t2 → t3 → t4 → t5 → Option γ} {r : γ} (h : k_b6 o f = some r) : ∃ x0 x1 x2 x3 x4 x5, o = some (x0, x1, x2, x3, x4, x5) ∧ f x0 x1 x2 x3 x4 x5 = some r := by
  unfold k_b6 at h
  split at h
  · exact ⟨_, _, _, _, _, _, rfl, h⟩
  · cases h
def k_b7 {t0 t1 t2 t3 t4 t5 t6 γ : Type} (o : Option (t0 × t1 × t2 × t3 × t4 × t5 × t6)) (f : t0 → t1 → t2 → t3 → t4 → t5 → t6 → Option γ) : Option γ := match o with
  | some (x0, x1, x2, x3, x4, x5, x6) => f x0 x1 x2 x3 x4 x5 x6
  | none => none
theorem k_bE7 {t0 t1 t2 t3 t4 t5 t6 γ : Type} {o : Option (t0 × t1 × t2 × t3 × t4 × t5 × t6)} {f : t0 → t1 → t2 → t3 → t4 → t5 → t6 → Option γ} {r : γ} (h : k_b7 o f = some r) : ∃ x0 x1 x2 x3 x4 x5 x6, o = some (x0, x1, x2, x3, x4, x5, x6) ∧ f x0 x1 x2 x3 x4 x5 x6 = some r := by
  unfold k_b7 at h
  split at h
  · exact ⟨_, _, _, _, _, _, _, rfl, h⟩
  · cases h
def k_b8 {t0 t1 t2 t3 t4 t5 t6 t7 γ : Type} (o : Option (t0 × t1 × t2 × t3 × t4 × t5 × t6 × t7)) (f : t0 → t1 → t2 → t3 → t4 → t5 → t6 → t7 → Option γ) : Option γ := match o with
  | some (x0, x1, x2, x3, x4, x5, x6, x7) => f x0 x1 x2 x3 x4 x5 x6 x7
  | none => none
theorem k_bE8 {t0 t1 t2 t3 t4 t5 t6 t7 γ : Type} {o : Option (t0 × t1 × t2 × t3 × t4 × t5 × t6 × t7)} {f : t0 → t1 → t2 → t3 → t4 → t5 → t6 → t7 → Option γ} {r : γ} (h : k_b8 o f = some r) : ∃ x0 x1 x2 x3 x4 x5 x6 x7, o = some (x0, x1, x2, x3, x4, x5, x6, x7) ∧ f x0 x1 x2 x3 x4 x5 x6 x7 = some r := by
  unfold k_b8 at h
  split at h
  · exact ⟨_, _, _, _, _, _, _, _, rfl, h⟩
  · cases h
def k_b9 {t0 t1 t2 t3 t4 t5 t6 t7 t8 γ : Type} (o : Option (t0 × t1 × t2 × t3 × t4 × t5 × t6 × t7 × t8)) (f : t0 → t1 → t2 → t3 → t4 → t5 → t6 → t7 → t8 → Option γ) : Option γ := match o with
  | some (x0, x1, x2, x3, x4, x5, x6, x7, x8) => f x0 x1 x2 x3 x4 x5 x6 x7 x8
  | none => none
theorem k_bE9 {t0 t1 t2 t3 t4 t5 t6 t7 t8 γ : Type} {o : Option (t0 × t1 × t2 × t3 × t4 × t5 × t6 × t7 × t8)} {f : t0 → t1 → t2 → t3 → t4 → t5 → t6 → t7 → t8 → Option γ} {r : γ} (h : k_b9 o f = some r) : ∃ x0 x1 x2 x3 x4 x5 x6 x7 x8, o = some (x0, x1, x2, x3, x4, x5, x6, x7, x8) ∧ f x0 x1 x2 x3 x4 x5 x6 x7 x8 = some r := by
  unfold k_b9 at h
  split at h
  · exact ⟨_, _, _, _, _, _, _, _, _, rfl, h⟩
  · cases h
def k_b10 {t0 t1 t2 t3 t4 t5 t6 t7 t8 t9 γ : Type} (o : Option (t0 × t1 × t2 × t3 × t4 × t5 × t6 × t7 × t8 × t9)) (f : t0 → t1 → t2 → t3 → t4 → t5 → t6 → t7 → t8 → t9 → Option γ) : Option γ := match o with
  | some (x0, x1, x2, x3, x4, x5, x6, x7, x8, x9) => f x0 x1 x2 x3 x4 x5 x6 x7 x8 x9
  | none => none
theorem k_bE10 {t0 t1 t2 t3 t4 t5 t6 t7 t8 t9 γ : Type} {o : Option (t0 × t1 × t2 × t3 × t4 × t5 × t6 × t7 × t8 × t9)} {f : t0 → t1 → t2 → t3 → t4 → t5 → t6 → t7 → t8 → t9 → Option γ} {r : γ} (h : k_b10 o f = some r) : ∃ x0 x1 x2 x3 x4 x5 x6 x7 x8 x9, o = some (x0, x1, x2, x3, x4, x5, x6, x7, x8, x9) ∧ f x0 x1 x2 x3 x4 x5 x6 x7 x8 x9 = some r := by
  unfold k_b10 at h
  split at h
  · exact ⟨_, _, _, _, _, _, _, _, _, _, rfl, h⟩
  · cases h
def k_b11 {t0 t1 t2 t3 t4 t5 t6 t7 t8 t9 t10 γ : Type} (o : Option (t0 × t1 × t2 × t3 × t4 × t5 × t6 × t7 × t8 × t9 × t10)) (f : t0 → t1 → t2 → t3 → t4 → t5 → t6 → t7 → t8 → t9 → t10 → Option γ) : Option γ := match o with
  | some (x0, x1, x2, x3, x4, x5, x6, x7, x8, x9, x10) => f x0 x1 x2 x3 x4 x5 x6 x7 x8 x9 x10
  | none => none
theorem k_bE11 {t0 t1 t2 t3 t4 t5 t6 t7 t8 t9 t10 γ : Type} {o : Option (t0 × t1 × t2 × t3 × t4 × t5 × t6 × t7 × t8 × t9 × t10)} {f : t0 → t1 → t2 → t3 → t4 → t5 → t6 → t7 → t8 → t9 → t10 → Option γ} {r : γ} (h : k_b11 o f = some r) : ∃ x0 x1 x2 x3 x4 x5 x6 x7 x8 x9 x10, o = some (x0, x1, x2, x3, x4, x5, x6, x7, x8, x9, x10) ∧ f x0 x1 x2 x3 x4 x5 x6 x7 x8 x9 x10 = some r := by
  unfold k_b11 at h
  split at h
  · exact ⟨_, _, _, _, _, _, _, _, _, _, _, rfl, h⟩
  · cases h
def k_b12 {t0 t1 t2 t3 t4 t5 t6 t7 t8 t9 t10 t11 γ : Type} (o : Option (t0 × t1 × t2 × t3 × t4 × t5 × t6 × t7 × t8 × t9 × t10 × t11)) (f : t0 → t1 → t2 → t3 → t4 → t5 → t6 → t7 → t8 → t9 → t10 → t11 → Option γ) : Option γ := match o with
  | some (x0, x1, x2, x3, x4, x5, x6, x7, x8, x9, x10, x11) => f x0 x1 x2 x3 x4 x5 x6 x7 x8 x9 x10 x11
  | none => none
theorem k_bE12 {t0 t1 t2 t3 t4 t5 t6 t7 t8 t9 t10 t11 γ : Type} {o : Option (t0 × t1 × t2 × t3 × t4 × t5 × t6 × t7 × t8 × t9 × t10 × t11)} {f : t0 → t1 → t2 → t3 → t4 → t5 → t6 → t7 → t8 → t9 → t10 → t11 → Option γ} {r : γ} (h : k_b12 o f = some r) : ∃ x0 x1 x2 x3 x4 x5 x6 x7 x8 x9 x10 x11, o = some (x0, x1, x2, x3, x4, x5, x6, x7, x8, x9, x10, x11) ∧ f x0 x1 x2 x3 x4 x5 x6 x7 x8 x9 x10 x11 = some r := by
  unfold k_b12 at h
  split at h
  · exact ⟨_, _, _, _, _, _, _, _, _, _, _, _, rfl, h⟩
  · cases h
def k_b13 {t0 t1 t2 t3 t4 t5 t6 t7 t8 t9 t10 t11 t12 γ : Type} (o : Option (t0 × t1 × t2 × t3 × t4 × t5 × t6 × t7 × t8 × t9 × t10 × t11 × t12)) (f : t0 → t1 → t2 → t3 → t4 → t5 → t6 → t7 → t8 → t9 → t10 → t11 → t12 → Option γ) : Option γ := match o with
  | some (x0, x1, x2, x3, x4, x5, x6, x7, x8, x9, x10, x11, x12) => f x0 x1 x2 x3 x4 x5 x6 x7 x8 x9 x10 x11 x12
  | none => none
theorem k_bE13 {t0 t1 t2 t3 t4 t5 t6 t7 t8 t9 t10 t11 t12 γ : Type} {o : Option (t0 × t1 × t2 × t3 × t4 × t5 × t6 × t7 × t8 × t9 × t10 × t11 × t12)} {f : t0 → t1 → t2 → t3 → t4 → t5 → t6 → t7 → t8 → t9 → t10 → t11 → t12 → Option γ} {r : γ} (h : k_b13 o f = some r) : ∃ x0 x1 x2 x3 x4 x5 x6 x7 x8 x9 x10 x11 x12, o = some (x0, x1, x2, x3, x4, x5, x6, x7, x8, x9, x10, x11, x12) ∧ f x0 x1 x2 x3 x4 x5 x6 x7 x8 x9 x10 x11 x12 = some r := by
  unfold k_b13 at h
  split at h
  · exact ⟨_, _, _, _, _, _, _, _, _, _, _, _, _, rfl, h⟩
  · cases h
def k_b14 {t0 t1 t2 t3 t4 t5 t6 t7 t8 t9 t10 t11 t12 t13 γ : Type} (o : Option (t0 × t1 × t2 × t3 × t4 × t5 × t6 × t7 × t8 × t9 × t10 × t11 × t12 × t13)) (f : t0 → t1 → t2 → t3 → t4 → t5 → t6 → t7 → t8 → t9 → t10 → t11 → t12 → t13 → Option γ) : Option γ := match o with
  | some (x0, x1, x2, x3, x4, x5, x6, x7, x8, x9, x10, x11, x12, x13) => f x0 x1 x2 x3 x4 x5 x6 x7 x8 x9 x10 x11 x12 x13
  | none => none
theorem k_bE14 {t0 t1 t2 t3 t4 t5 t6 t7 t8 t9 t10 t11 t12 t13 γ : Type} {o : Option (t0 × t1 × t2 × t3 × t4 × t5 × t6 × t7 × t8 × t9 × t10 × t11 × t12 × t13)} {f : t0 → t1 → t2 → t3 → t4 → t5 → t6 → t7 → t8 → t9 → t10 → t11 → t12 → t13 → Option γ} {r : γ} (h : k_b14 o f = some r) : ∃ x0 x1 x2 x3 x4 x5 x6 x7 x8 x9 x10 x11 x12 x13, o = some (x0, x1, x2, x3, x4, x5, x6, x7, x8, x9, x10, x11, x12, x13) ∧ f x0 x1 x2 x3 x4 x5 x6 x7 x8 x9 x10 x11 x12 x13 = some r := by
  unfold k_b14 at h
  split at h
  · exact ⟨_, _, _, _, _, _, _, _, _, _, _, _, _, _, rfl, h⟩
  · cases h
theorem iX0 : ∀ w ∈ u_ws RX0 TX0 4, w ∈ LW := by
  show ∀ w ∈ [Cond.laysFinal "ViewMaintainer$CountedRows" "ViewMaintainer$CountedRows" "codes" "[I", Cond.laysFinal "ViewMaintainer$CountedRows" "ViewMaintainer$CountedRows" "counts" "[I", Cond.lays "ViewMaintainer$CountedRows" "ViewMaintainer$CountedRows" "size" "I", Cond.lays "ViewMaintainer$CountedRows" "ViewMaintainer$CountedRows" "total" "I"], w ∈ LW
  exact List.forall_mem_cons.mpr ⟨q1_50, List.forall_mem_cons.mpr ⟨q1_52, List.forall_mem_cons.mpr ⟨q1_54, List.forall_mem_cons.mpr ⟨q1_56, fun _ h => absurd h List.not_mem_nil⟩⟩⟩⟩
theorem iX1 : ∀ w ∈ u_ws RX1 TX1 3, w ∈ LW := by
  show ∀ w ∈ [Cond.laysFinal "ViewMaintainer$Filter" "ViewMaintainer$Filter" "steps" "[I", Cond.laysFinal "ViewMaintainer$Filter" "ViewMaintainer$Filter" "numbers" "[I", Cond.lays "ViewMaintainer$Filter" "ViewMaintainer$Filter" "size" "I"], w ∈ LW
  exact List.forall_mem_cons.mpr ⟨q1_99, List.forall_mem_cons.mpr ⟨q1_101, List.forall_mem_cons.mpr ⟨q1_103, fun _ h => absurd h List.not_mem_nil⟩⟩⟩
theorem iX2 : ∀ w ∈ u_ws RX2 TX2 7, w ∈ LW := by
  show ∀ w ∈ [Cond.laysFinal "ViewMaintainer$FilterReader" "ViewMaintainer$FilterReader" "text" "[C", Cond.lays "ViewMaintainer$FilterReader" "ViewMaintainer$FilterReader" "length" "I", Cond.lays "ViewMaintainer$FilterReader" "ViewMaintainer$FilterReader" "position" "I", Cond.laysFinal "ViewMaintainer$FilterReader" "ViewMaintainer$FilterReader" "waiting" "[I", Cond.lays "ViewMaintainer$FilterReader" "ViewMaintainer$FilterReader" "waitingSize" "I", Cond.lays "ViewMaintainer$FilterReader" "ViewMaintainer$FilterReader" "openParentheses" "I", Cond.laysFinal "ViewMaintainer$FilterReader" "ViewMaintainer$FilterReader" "draft" "LViewMaintainer$Filter;"], w ∈ LW
  exact List.forall_mem_cons.mpr ⟨q1_121, List.forall_mem_cons.mpr ⟨q1_123, List.forall_mem_cons.mpr ⟨q1_125, List.forall_mem_cons.mpr ⟨q1_127, List.forall_mem_cons.mpr ⟨q1_129, List.forall_mem_cons.mpr ⟨q1_131, List.forall_mem_cons.mpr ⟨q1_133, fun _ h => absurd h List.not_mem_nil⟩⟩⟩⟩⟩⟩⟩
theorem iX3 : ∀ w ∈ u_ws RX3 TX3 2, w ∈ LW := by
  show ∀ w ∈ [Cond.laysFinal "ViewMaintainer$GroupTotals" "ViewMaintainer$GroupTotals" "sizes" "[I", Cond.laysFinal "ViewMaintainer$GroupTotals" "ViewMaintainer$GroupTotals" "sums" "[I"], w ∈ LW
  exact List.forall_mem_cons.mpr ⟨q1_169, List.forall_mem_cons.mpr ⟨q1_171, fun _ h => absurd h List.not_mem_nil⟩⟩
theorem iX4 : ∀ w ∈ u_ws RX4 TX4 3, w ∈ LW := by
  show ∀ w ∈ [Cond.laysFinal "ViewMaintainer$History" "ViewMaintainer$History" "kept" "[LViewMaintainer$Tables;", Cond.lays "ViewMaintainer$History" "ViewMaintainer$History" "next" "I", Cond.lays "ViewMaintainer$History" "ViewMaintainer$History" "depth" "I"], w ∈ LW
  exact List.forall_mem_cons.mpr ⟨q1_83, List.forall_mem_cons.mpr ⟨q1_85, List.forall_mem_cons.mpr ⟨q1_87, fun _ h => absurd h List.not_mem_nil⟩⟩⟩
theorem iX5 : ∀ w ∈ u_ws RX5 TX5 2, w ∈ LW := by
  show ∀ w ∈ [Cond.laysFinal "ViewMaintainer$Tables" "ViewMaintainer$Tables" "left" "LViewMaintainer$CountedRows;", Cond.laysFinal "ViewMaintainer$Tables" "ViewMaintainer$Tables" "right" "LViewMaintainer$CountedRows;"], w ∈ LW
  exact List.forall_mem_cons.mpr ⟨q1_66, List.forall_mem_cons.mpr ⟨q1_68, fun _ h => absurd h List.not_mem_nil⟩⟩
theorem iX6 : ∀ w ∈ u_ws RX6 TX6 7, w ∈ LW := by
  show ∀ w ∈ [Cond.lays "ViewMaintainer$Views" "ViewMaintainer$Views" "join" "LViewMaintainer$CountedRows;", Cond.lays "ViewMaintainer$Views" "ViewMaintainer$Views" "oldJoin" "LViewMaintainer$CountedRows;", Cond.lays "ViewMaintainer$Views" "ViewMaintainer$Views" "totals" "LViewMaintainer$GroupTotals;", Cond.lays "ViewMaintainer$Views" "ViewMaintainer$Views" "oldTotals" "LViewMaintainer$GroupTotals;", Cond.laysFinal "ViewMaintainer$Views" "ViewMaintainer$Views" "change" "LViewMaintainer$CountedRows;", Cond.laysFinal "ViewMaintainer$Views" "ViewMaintainer$Views" "dangling" "LViewMaintainer$CountedRows;", Cond.laysFinal "ViewMaintainer$Views" "ViewMaintainer$Views" "tally" "[I"], w ∈ LW
  exact List.forall_mem_cons.mpr ⟨q1_181, List.forall_mem_cons.mpr ⟨q1_183, List.forall_mem_cons.mpr ⟨q1_185, List.forall_mem_cons.mpr ⟨q1_187, List.forall_mem_cons.mpr ⟨q1_189, List.forall_mem_cons.mpr ⟨q1_191, List.forall_mem_cons.mpr ⟨q1_193, fun _ h => absurd h List.not_mem_nil⟩⟩⟩⟩⟩⟩⟩
theorem iX7 : ∀ w ∈ u_ws RX7 TX7 3, w ∈ LW := by
  show ∀ w ∈ [Cond.laysFinal "ViewMaintainer$Watches" "ViewMaintainer$Watches" "groups" "[I", Cond.laysFinal "ViewMaintainer$Watches" "ViewMaintainer$Watches" "bounds" "[I", Cond.lays "ViewMaintainer$Watches" "ViewMaintainer$Watches" "size" "I"], w ∈ LW
  exact List.forall_mem_cons.mpr ⟨q1_146, List.forall_mem_cons.mpr ⟨q1_148, List.forall_mem_cons.mpr ⟨q1_150, fun _ h => absurd h List.not_mem_nil⟩⟩⟩
theorem iX8 : ∀ w ∈ u_ws RX8 TX8 13, w ∈ LW := by
  show ∀ w ∈ [Cond.laysFinal "ViewMaintainer" "ViewMaintainer" "tables" "LViewMaintainer$Tables;", Cond.laysFinal "ViewMaintainer" "ViewMaintainer" "planned" "LViewMaintainer$Tables;", Cond.lays "ViewMaintainer" "ViewMaintainer" "changesInBatch" "I", Cond.laysFinal "ViewMaintainer" "ViewMaintainer" "history" "LViewMaintainer$History;", Cond.laysFinal "ViewMaintainer" "ViewMaintainer" "filter" "LViewMaintainer$Filter;", Cond.laysFinal "ViewMaintainer" "ViewMaintainer" "reader" "LViewMaintainer$FilterReader;", Cond.lays "ViewMaintainer" "ViewMaintainer" "fault" "I", Cond.laysFinal "ViewMaintainer" "ViewMaintainer" "watches" "LViewMaintainer$Watches;", Cond.laysFinal "ViewMaintainer" "ViewMaintainer" "views" "LViewMaintainer$Views;", Cond.lays "ViewMaintainer" "ViewMaintainer" "isSaved" "Z", Cond.laysFinal "ViewMaintainer" "ViewMaintainer" "savedTables" "LViewMaintainer$Tables;", Cond.laysFinal "ViewMaintainer" "ViewMaintainer" "savedFilter" "LViewMaintainer$Filter;", Cond.laysFinal "ViewMaintainer" "ViewMaintainer" "savedWatches" "LViewMaintainer$Watches;"], w ∈ LW
  exact List.forall_mem_cons.mpr ⟨q1_209, List.forall_mem_cons.mpr ⟨q1_211, List.forall_mem_cons.mpr ⟨q1_213, List.forall_mem_cons.mpr ⟨q1_215, List.forall_mem_cons.mpr ⟨q1_217, List.forall_mem_cons.mpr ⟨q1_219, List.forall_mem_cons.mpr ⟨q1_221, List.forall_mem_cons.mpr ⟨q1_223, List.forall_mem_cons.mpr ⟨q1_225, List.forall_mem_cons.mpr ⟨q1_227, List.forall_mem_cons.mpr ⟨q1_229, List.forall_mem_cons.mpr ⟨q1_231, List.forall_mem_cons.mpr ⟨q1_233, fun _ h => absurd h List.not_mem_nil⟩⟩⟩⟩⟩⟩⟩⟩⟩⟩⟩⟩⟩
theorem iX9 : ∀ w ∈ u_ws RX9 TX9 36, w ∈ LW := by
  show ∀ w ∈ [Cond.lays "ViewMaintainerModel" "ViewMaintainerModel" "thrown" "I", Cond.laysFinal "ViewMaintainerModel" "ViewMaintainerModel" "rows" "[I", Cond.laysFinal "ViewMaintainerModel" "ViewMaintainerModel" "size" "[I", Cond.lays "ViewMaintainerModel" "ViewMaintainerModel" "changes" "I", Cond.lays "ViewMaintainerModel" "ViewMaintainerModel" "undoable" "I", Cond.laysFinal "ViewMaintainerModel" "ViewMaintainerModel" "filter" "[I", Cond.laysFinal "ViewMaintainerModel" "ViewMaintainerModel" "made" "[I", Cond.laysFinal "ViewMaintainerModel" "ViewMaintainerModel" "pending" "[I", Cond.laysFinal "ViewMaintainerModel" "ViewMaintainerModel" "savedFilter" "[I", Cond.laysFinal "ViewMaintainerModel" "ViewMaintainerModel" "stack" "[Z", Cond.lays "ViewMaintainerModel" "ViewMaintainerModel" "filterSize" "I", Cond.lays "ViewMaintainerModel" "ViewMaintainerModel" "madeSize" "I", Cond.lays "ViewMaintainerModel" "ViewMaintainerModel" "pendings" "I", Cond.lays "ViewMaintainerModel" "ViewMaintainerModel" "savedFilterSize" "I", Cond.laysFinal "ViewMaintainerModel" "ViewMaintainerModel" "counts" "[I", Cond.lays "ViewMaintainerModel" "ViewMaintainerModel" "foundKey" "I", Cond.lays "ViewMaintainerModel" "ViewMaintainerModel" "foundGroup" "I", Cond.lays "ViewMaintainerModel" "ViewMaintainerModel" "foundProduct" "I", Cond.lays "ViewMaintainerModel" "ViewMaintainerModel" "foundMany" "I", Cond.lays "ViewMaintainerModel" "ViewMaintainerModel" "isClean" "Z", Cond.lays "ViewMaintainerModel" "ViewMaintainerModel" "groupRows" "I", Cond.lays "ViewMaintainerModel" "ViewMaintainerModel" "groupTotal" "I", Cond.laysFinal "ViewMaintainerModel" "ViewMaintainerModel" "totals" "[I", Cond.laysFinal "ViewMaintainerModel" "ViewMaintainerModel" "ranked" "[I", Cond.laysFinal "ViewMaintainerModel" "ViewMaintainerModel" "watchGroup" "[I", Cond.laysFinal "ViewMaintainerModel" "ViewMaintainerModel" "watchBound" "[I", Cond.laysFinal "ViewMaintainerModel" "ViewMaintainerModel" "savedGroup" "[I", Cond.laysFinal "ViewMaintainerModel" "ViewMaintainerModel" "savedBound" "[I", Cond.lays "ViewMaintainerModel" "ViewMaintainerModel" "watches" "I", Cond.lays "ViewMaintainerModel" "ViewMaintainerModel" "savedWatches" "I", Cond.laysFinal "ViewMaintainerModel" "ViewMaintainerModel" "text" "[I", Cond.lays "ViewMaintainerModel" "ViewMaintainerModel" "length" "I", Cond.lays "ViewMaintainerModel" "ViewMaintainerModel" "at" "I", Cond.lays "ViewMaintainerModel" "ViewMaintainerModel" "parens" "I", Cond.lays "ViewMaintainerModel" "ViewMaintainerModel" "faultAt" "I", Cond.lays "ViewMaintainerModel" "ViewMaintainerModel" "isSaved" "Z"], w ∈ LW
  exact List.forall_mem_cons.mpr ⟨q5_162, List.forall_mem_cons.mpr ⟨q5_164, List.forall_mem_cons.mpr ⟨q5_166, List.forall_mem_cons.mpr ⟨q5_168, List.forall_mem_cons.mpr ⟨q5_170, List.forall_mem_cons.mpr ⟨q5_172, List.forall_mem_cons.mpr ⟨q5_174, List.forall_mem_cons.mpr ⟨q5_176, List.forall_mem_cons.mpr ⟨q5_178, List.forall_mem_cons.mpr ⟨q5_180, List.forall_mem_cons.mpr ⟨q5_182, List.forall_mem_cons.mpr ⟨q5_184, List.forall_mem_cons.mpr ⟨q5_186, List.forall_mem_cons.mpr ⟨q5_188, List.forall_mem_cons.mpr ⟨q5_190, List.forall_mem_cons.mpr ⟨q5_192, List.forall_mem_cons.mpr ⟨q5_194, List.forall_mem_cons.mpr ⟨q5_196, List.forall_mem_cons.mpr ⟨q5_198, List.forall_mem_cons.mpr ⟨q5_200, List.forall_mem_cons.mpr ⟨q5_202, List.forall_mem_cons.mpr ⟨q5_204, List.forall_mem_cons.mpr ⟨q5_206, List.forall_mem_cons.mpr ⟨q5_208, List.forall_mem_cons.mpr ⟨q5_210, List.forall_mem_cons.mpr ⟨q5_212, List.forall_mem_cons.mpr ⟨q5_214, List.forall_mem_cons.mpr ⟨q5_216, List.forall_mem_cons.mpr ⟨q5_218, List.forall_mem_cons.mpr ⟨q5_220, List.forall_mem_cons.mpr ⟨q5_222, List.forall_mem_cons.mpr ⟨q5_224, List.forall_mem_cons.mpr ⟨q5_226, List.forall_mem_cons.mpr ⟨q5_228, List.forall_mem_cons.mpr ⟨q5_230, List.forall_mem_cons.mpr ⟨q5_232, fun _ h => absurd h List.not_mem_nil⟩⟩⟩⟩⟩⟩⟩⟩⟩⟩⟩⟩⟩⟩⟩⟩⟩⟩⟩⟩⟩⟩⟩⟩⟩⟩⟩⟩⟩⟩⟩⟩⟩⟩⟩⟩
theorem k_narZ {v : Int32} (h : vp_nar .boolean v = v) : narrow .boolean (.int v) = .int v := by
  have e : narrow .boolean (.int v) = .int (vp_nar .boolean v) := rfl
  rw [e, h]
theorem k_narC {v : Int32} (h : vp_nar .char v = v) : narrow .char (.int v) = .int v := by
  have e : narrow .char (.int v) = .int (vp_nar .char v) := rfl
  rw [e, h]
