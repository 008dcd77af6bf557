/-! Constructors: cells come; their addresses are named by a function. -/
def k_QN (D : va_G) (sh : (Nat → Nat) → va_W) (A : Nat → Prop) : Array Value → State → Outcome → State → Prop := fun _ st oc t => oc = .returned none ∧ (∃ ad : Nat → Nat, va_P D vwCl (sh ad) t.heap ∧ va_D A (sh ad)) ∧ va_F A st t
def k_PI (D : va_G) (cA : Nat → ClassId) (ws : va_W) (sz : Nat) (U : State) : Prop := k_P D cA ws sz U ∧ va_AO "ViewMaintainer$Tables" U
def k_MI (l : Launch) (y : MethodName) (cc : ByteArray) (n : Nat) (rm : Room) (D : va_G) (cA : Nat → ClassId) (av : List Value) (ws : va_W) (sz : Nat) (sh : (Nat → Nat) → va_W) (mc ms : Nat) : Prop :=
  Met l y (wM y cc n none) rm (va_Pc av (k_PI D cA ws sz)) (k_QN D sh (va_A ws sz)) mc ms (va_A ws sz)
theorem k_blindI {D : va_G} {cA : Nat → ClassId} {av : List Value} {ws : va_W} {sz : Nat} : FrameBlind (va_Pc av (k_PI D cA ws sz)) := fun a U g mk q => by
  obtain ⟨q0, ⟨q1, qP, qK, qD⟩, qO⟩ := q
  exact ⟨q0, ⟨q1, qP, qK.call, qD⟩, va_AO.moved (u := U) (U := U.calling g mk a) (Vm.Alike.refl U.vm) qO⟩
theorem k_ofWI {l : Launch} {y : MethodName} {cc : ByteArray} {maxL : Nat} {rm : Room} {D : va_G} {cA : Nat → ClassId} {av : List Value} {ws : va_W} {sz : Nat} {sh : (Nat → Nat) → va_W} {mc ms : Nat} (hy : plainName y.cls = true) (hlen : (lg_sl av).length ≤ maxL)
    (body : ∀ (p : Program) (e : Env) (s : State) (m : MethodId) (below : List Frame) (meth : Method) (c : Code) (A : Nat → Prop) (ls : Array Slot), p.tables.exec = Jvm.exec → c.code = cc → meth.sig.returnType = none → c.maxLocals = maxL → (∀ w ∈ LW, w.before av.toArray s = true) → s.vm.findClass y.cls = some m.cls → meth.locks = false → meth.name = y.name → k_B D cA s → (∀ q : Nat, s.heap.size ≤ q → A q) → k_Wd D A s.heap ws s.heap [] → lv_has ls maxL (lv_args 0 av) → va_AO "ViewMaintainer$Tables" s →
      W p l e rm s m av.toArray below meth c s.heap [] 0 0 (MQ below (k_QN D sh A) av.toArray s mc ms A) (F0 m 0 ls [])) : k_MI l y cc maxL rm D cA av ws sz sh mc ms := by
  refine Met.ofW (cc := cc) (maxL := maxL) (ret := none) hy rfl ?_
  intro p e s m args below meth c s₁ B hml hv
  obtain ⟨rfl, ⟨hsz, hP, hK, hD0⟩, hO⟩ := hv
  have hts := atoms_spec (ws := wM y cc maxL none) B.pre
  subst hsz
  have hD := hD0.self (sz := s.heap.size)
  have hl := lv_entry av (n := maxL) hlen
  rw [lg_entry_eq]
  exact body p e s m below meth c _ _ B.exec B.bytes B.returns hml (fun w h => hts w (List.mem_cons_of_mem _ h)) (findClass_of_methodNamed B.named) B.notSynchronized (name_of_methodNamed B.named B.method).1 hK (fun q h => Or.inr h) ⟨hP, hD, va_S.rf⟩ hl hO
section KI
variable {p : Program} {l : Launch} {e : Env} {R : Room} {s : State} {m : MethodId} {args : Array Value} {below : List Frame} {meth : Method} {c : Code} {H H0 : Heap} {locs : List Loc} {cells slots mc ms : Nat} {Q : State → Prop} {pc : Nat} {ls : Array Slot} {rest st0 : List Value} {A : Nat → Prop} {D : va_G} {cA : Nat → ClassId} {ws w1 wr : va_W} {cc : ByteArray} {a : Array Value} {sh : (Nat → Nat) → va_W}
theorem k_callN (hr : va_Run p l e R s m args below meth c H locs cells slots mc ms (F0 m pc ls st0) rest (k_QN D sh (va_A w1 H.size) a) (va_A w1 H.size)) (hW : k_Wd D A H0 ws H locs) (hA : ∀ q : Nat, H0.size ≤ q → A q) (isC isR : List Nat) (hC : isC.map (fun i => ws[i]?) = w1.map some) (hR : isR.map (fun i => ws[i]?) = wr.map some) (hn : va_nd isR = true) (hdis : ∀ i ∈ isR, i ∉ isC)
    (kk : ∀ (ad : Nat → Nat) (H1 : Heap) (locs1 : List Loc), k_Wd D A H0 (wr ++ sh ad) H1 locs1 → W p l e R s m args below meth c H1 locs1 (cells + mc) (slots + ms) Q (F0 m (pc + 3) ls rest)) : W p l e R s m args below meth c H locs cells slots Q (F0 m pc ls st0) := by
  intro T hT X
  obtain ⟨hP, hD, hS⟩ := hW
  have hF : ∀ q, va_A w1 H.size q → A q := va_free hD hS hA isC hC
  obtain ⟨v', st₀, t, T', L, h0, X', hL, e1, e2, ⟨hv, ⟨ad, hP1, hD1⟩, hz, hk⟩, st⟩ := hr T hT X
  cases hv
  rw [h0] at hz hk
  have hk' : ∀ q : Nat, q < H.size → ¬ va_A w1 H.size q → T'.heap[q]? = H[q]? := fun q h1 h2 => by rw [e1]; exact hk q h1 h2
  obtain ⟨j1, j2⟩ := va_join hP hD isC isR hC hR hn hdis hk' hF (by rw [e1]; exact hP1) hD1
  obtain ⟨t2, a1, b1⟩ := kk ad T'.heap (locs ++ L) ⟨j1, j2, Nat.le_trans hS.1 (by rw [e1]; exact hz), fun q h1 h2 => by rw [hk' q (Nat.lt_of_lt_of_le h1 hS.1) (fun z => h2 (hF q z))]; exact hS.2.1 q h1 h2, fun q hq => by
      rcases List.mem_append.mp hq with h | h
      · exact hS.2.2 q h
      · exact hF _ (hL q h)⟩ T' rfl X'
  exact ⟨t2, st t2 a1, b1⟩
variable {y : MethodName} {bytes : ByteArray} {maxL nL n index : Nat} {rm : Room} {own : String} {As : List Value} {b : Nat} {x9 : va_E}
/-- 'new C(..)': the last cell is the fresh one; what its constructor makes stands in its place -/
theorem k_callI (hM : k_MI l y bytes maxL rm D cA (.ref b :: As) [(b, x9)] H.size sh mc ms) (hx : p.tables.exec = Jvm.exec) (hb : c.code = cc) (hml : c.maxLocals = nL) (hown : s.vm.findClass own = some m.cls) (hts : ∀ w ∈ LW, w.before args s = true) (hB : k_B D cA s) (hO : va_AO "ViewMaintainer$Tables" s) (hA : ∀ q : Nat, H0.size ≤ q → A q) (hW : k_Wd D A H0 ws H locs) (hl0 : ls.size = nL)
    (hcode : Cond.code y bytes maxL none ∈ LW) (hini : Cond.initialized y.cls ∈ LW) (him : Cond.instanceMethod y ∈ LW) (hy : y.name = "<init>") (hl : Cond.methodLink own index y ∈ LW) (hd1 : k_D1 y n) (hR0 : rm.cells = mc ∧ rm.slots = ms ∧ rm.frames + 1 ≤ R.frames ∧ 8 + (maxL + 11) + rm.locals ≤ R.locals) (hn0 : As.length = n)
    (k : Nat) (hC : [k].map (fun i => ws[i]?) = [(b, x9)].map some) (isR : List Nat) (hR : isR.map (fun i => ws[i]?) = wr.map some) (hn : va_nd isR = true) (hdis : isR.contains k = false)
    (hstack : st0 = As.reverse ++ .ref b :: rest) (hcat : (rest.map fun v => v.category).sum ≤ 8) (hf : cells + mc ≤ R.cells ∧ slots + ms ≤ R.slots) (hdg : decode cc pc = .ok (.invokespecial index, 3))
    (kk : ∀ (ad : Nat → Nat) (H1 : Heap) (locs1 : List Loc), k_Wd D A H0 (wr ++ sh ad) H1 locs1 → W p l e R s m args below meth c H1 locs1 (cells + mc) (slots + ms) Q (F0 m (pc + 3) ls rest)) : W p l e R s m args below meth c H locs cells slots Q (F0 m pc ls st0) :=
  k_callN (va_runI (As := As) (rest := rest) (b := b) (g := F0 m pc ls st0) (own := own) (Ts := LW) ⟨hx, hb, hml, hown, hts⟩ hM ⟨callB_of n hts (k_goodM hcode) rfl hR0.1 hR0.2.1 (hts _ hini) (hts _ hl) hd1 hR0.2.2, hy, hts _ him⟩ ⟨k_blindI, fun U hU hWm => by
      obtain ⟨h1, h2⟩ := k_pre (w1 := [(b, x9)]) hB hW [k] hC rfl (.ref b :: As) U hU hWm
      exact ⟨h1, h2, hO.moved hWm.alike⟩⟩ rfl hn0 hl0 hstack (lv_room hcat) hdg hf) hW hA [k] isR hC hR hn (fun i hi hk => by
      rcases List.mem_singleton.mp hk with rfl
      have h3 := List.contains_iff_mem.mpr hi
      rw [hdis] at h3
      cases h3) kk
/-- the same, a nest mate's private constructor -/
theorem k_callIN {host : String} (hM : k_MI l y bytes maxL rm D cA (.ref b :: As) [(b, x9)] H.size sh mc ms) (hx : p.tables.exec = Jvm.exec) (hb : c.code = cc) (hml : c.maxLocals = nL) (hown : s.vm.findClass own = some m.cls) (hts : ∀ w ∈ LW, w.before args s = true) (hB : k_B D cA s) (hO : va_AO "ViewMaintainer$Tables" s) (hA : ∀ q : Nat, H0.size ≤ q → A q) (hW : k_Wd D A H0 ws H locs) (hl0 : ls.size = nL)
    (hcode : Cond.code y bytes maxL none ∈ LW) (hini : Cond.initialized y.cls ∈ LW) (him : Cond.instanceMethod y ∈ LW) (hy : y.name = "<init>") (hl : va_Nw (.methodLinkNest own index y host) s) (hd1 : k_D1 y n) (hR0 : rm.cells = mc ∧ rm.slots = ms ∧ rm.frames + 1 ≤ R.frames ∧ 8 + (maxL + 11) + rm.locals ≤ R.locals) (hn0 : As.length = n)
    (k : Nat) (hC : [k].map (fun i => ws[i]?) = [(b, x9)].map some) (isR : List Nat) (hR : isR.map (fun i => ws[i]?) = wr.map some) (hn : va_nd isR = true) (hdis : isR.contains k = false)
    (hstack : st0 = As.reverse ++ .ref b :: rest) (hcat : (rest.map fun v => v.category).sum ≤ 8) (hf : cells + mc ≤ R.cells ∧ slots + ms ≤ R.slots) (hdg : decode cc pc = .ok (.invokespecial index, 3))
    (kk : ∀ (ad : Nat → Nat) (H1 : Heap) (locs1 : List Loc), k_Wd D A H0 (wr ++ sh ad) H1 locs1 → W p l e R s m args below meth c H1 locs1 (cells + mc) (slots + ms) Q (F0 m (pc + 3) ls rest)) : W p l e R s m args below meth c H locs cells slots Q (F0 m pc ls st0) :=
  k_callN (va_runIN (As := As) (rest := rest) (b := b) (g := F0 m pc ls st0) (own := own) (Ts := LW) ⟨hx, hb, hml, hown, hts⟩ hM ⟨va_cnB n hts (k_goodM hcode) rfl hR0.1 hR0.2.1 hl (hts _ hini) hd1 hR0.2.2, hy, hts _ him⟩ ⟨k_blindI, fun U hU hWm => by
      obtain ⟨h1, h2⟩ := k_pre (w1 := [(b, x9)]) hB hW [k] hC rfl (.ref b :: As) U hU hWm
      exact ⟨h1, h2, hO.moved hWm.alike⟩⟩ rfl hn0 hl0 hstack (lv_room hcat) hdg hf) hW hA [k] isR hC hR hn (fun i hi hk => by
      rcases List.mem_singleton.mp hk with rfl
      have h3 := List.contains_iff_mem.mpr hi
      rw [hdis] at h3
      cases h3) kk
theorem k_newa {atype : ArrayType} {nm : String} (hx : p.tables.exec = Jvm.exec) (hb : c.code = cc) (hts : ∀ w ∈ LW, w.before args s = true) (hB : k_B D cA s) (hA : ∀ q : Nat, H0.size ≤ q → A q) (hW : k_Wd D A H0 ws H locs) (t0 : Nat) (ht : (k_ty cA)[t0]? = some (cA t0, newarray.typeOf atype)) (hra : ∀ c : ClassId, va_RA s c (newarray.typeOf atype) → s.vm.findClass nm = some c) (harr : Cond.arrayClass (newarray.typeOf atype) ∈ LW)
    {n : Int32} {N' : Nat} {a0 : vp_A} (ha : ∀ cA : ClassId, vp_cell cA a0 = arrV cA N' (fun _ => defaultValue (newarray.typeOf atype))) (hn : ¬ n < 0) (hN : n.toNatClampNeg = N') (hbytes : N' * componentBytes (newarray.typeOf atype) ≤ 536870912) (hcells : cells + 1 ≤ R.cells) (hslots : slots + N' ≤ R.slots) (hdg : decode cc pc = .ok (.newarray atype, 2))
    (kk : ∀ (q : Nat) (H1 : Heap), k_Wd D A H0 (ws ++ [(q, .inl (cA t0, a0))]) H1 locs → W p l e R s m args below meth c H1 locs (cells + 1) (slots + N') Q (F0 m (pc + 2) ls (.ref q :: rest))) : W p l e R s m args below meth c H locs cells slots Q (F0 m pc ls (.int n :: rest)) := by
  refine va_newa hx hb (hts _ harr) rfl hB.1 hW.1 hW.2.1 hW.2.2 hA ha hn hN hbytes hcells hslots hdg (fun q cB H1 hK hP hD hS => ?_)
  have e1 : s.vm.findClass nm = some cB := hra cB (hK.2 6 (cB, newarray.typeOf atype) rfl).2
  have e2 : s.vm.findClass nm = some (cA t0) := hra (cA t0) (hB.1.2 t0 _ ht).2
  have e3 : cB = cA t0 := Option.some.inj (e1.symm.trans e2)
  subst e3
  exact kk q H1 ⟨hP, hD, hS⟩
theorem k_newq {own : String} {index : Nat} (hx : p.tables.exec = Jvm.exec) (hb : c.code = cc) (hown : s.vm.findClass own = some m.cls) (hclink : (Cond.classLink own index "ViewMaintainer$Tables").before args s = true) (hO : va_AO "ViewMaintainer$Tables" s) (hB : k_B D cA s) (hA : ∀ q : Nat, H0.size ≤ q → A q) (hW : k_Wd D A H0 ws H locs)
    {n : Int32} {N' : Nat} (hn : ¬ n < 0) (hN : n.toNatClampNeg = N') (hbytes : N' * 4 ≤ 536870912) (hcells : cells + 1 ≤ R.cells) (hslots : slots + N' ≤ R.slots) (hdg : decode cc pc = .ok (.anewarray index, 3))
    (kk : ∀ (q : Nat) (H1 : Heap), k_Wd D A H0 (ws ++ [(q, .inl (cA 5, N', .inr (.inr (.inr (.inr (fun _ => none))))))]) H1 locs → W p l e R s m args below meth c H1 locs (cells + 1) (slots + N') Q (F0 m (pc + 3) ls (.ref q :: rest))) : W p l e R s m args below meth c H locs cells slots Q (F0 m pc ls (.int n :: rest)) := by
  refine va_newq hx hb hown hclink hO hB.1 hW.1 hW.2.1 hW.2.2 hA hn hN hbytes hcells hslots hdg (fun q cB H1 hK hP hD hS => ?_)
  have e1 := (hK.2 6 (cB, .object "ViewMaintainer$Tables") rfl).2
  have e2 := (hB.1.2 5 (cA 5, .object "ViewMaintainer$Tables") rfl).2
  obtain ⟨_, _, _, _, _, f1⟩ := e1
  obtain ⟨_, _, _, _, _, f2⟩ := e2
  have e3 : cB = cA 5 := Option.some.inj (f1.symm.trans f2)
  subst e3
  exact kk q H1 ⟨hP, hD, hS⟩
end KI
