/-! The law's own helpers: methods with an exception table that catch what their callee throws, and never throw. -/
def k_NC (U : State) : Prop := ∀ a b : Nat, 1 ≤ a → a ≤ 4 → 1 ≤ b → b ≤ 4 → a ≠ b → va_Nc (k_E a) (k_E b) U
theorem k_NC.moved {u U : State} (hvm : u.vm.Alike U.vm) (h : k_NC u) : k_NC U := fun a b h1 h2 h3 h4 h5 => (h a b h1 h2 h3 h4 h5).moved hvm
def wH (y : MethodName) (cc : ByteArray) (n : Nat) (r : Option FieldType) (hh : List (Nat × Nat × Nat × Nat)) : List Cond := .codeWith y cc n r hh :: LW
theorem k_goodH {y : MethodName} {cc : ByteArray} {n : Nat} {r : Option FieldType} {hh : List (Nat × Nat × Nat × Nat)} (h : Cond.codeWith y cc n r hh ∈ LW) : GoodIn LW (wH y cc n r hh) := fun w hw => (List.mem_cons.mp hw).elim (fun e => e ▸ ⟨h, k_good h⟩) (fun hw => ⟨hw, k_good hw⟩)
def k_PH (D : va_G) (cA : Nat → ClassId) (ws : va_W) (sz : Nat) (U : State) : Prop := k_PX D cA ws sz U ∧ k_NC U
def k_MH (l : Launch) (y : MethodName) (cc : ByteArray) (n : Nat) (ret : Option FieldType) (hh : List (Nat × Nat × Nat × Nat)) (rm : Room) (D : va_G) (cA : Nat → ClassId) (av : List Value) (ws : va_W) (sz : Nat) (v : Option Value) (ws' : va_W) (mc ms : Nat) : Prop :=
  vx_Met l y (wH y cc n ret hh) rm (va_Pc av (k_PH D cA ws sz)) (k_QR 0 v D ws' (va_A ws sz)) (k_XC 0 D ws' (va_A ws sz)) mc ms (va_A ws sz)
theorem k_blindH {D : va_G} {cA : Nat → ClassId} {av : List Value} {ws : va_W} {sz : Nat} : FrameBlind (va_Pc av (k_PH D cA ws sz)) := fun a U g mk q => by
  obtain ⟨q0, q1, q2⟩ := q
  obtain ⟨_, q3⟩ := k_blindX (D := D) (cA := cA) (av := av) (ws := ws) (sz := sz) a U g mk ⟨q0, q1⟩
  exact ⟨q0, q3, k_NC.moved (u := U) (U := U.calling g mk a) (Vm.Alike.refl U.vm) q2⟩
theorem k_ofWH {l : Launch} {y : MethodName} {cc : ByteArray} {maxL : Nat} {ret : Option FieldType} {hh : List (Nat × Nat × Nat × Nat)} {rm : Room} {D : va_G} {cA : Nat → ClassId} {av : List Value} {ws : va_W} {sz : Nat} {v : Option Value} {ws' : va_W} {mc ms : Nat} (hy : plainName y.cls = true) (hlen : (lg_sl av).length ≤ maxL)
    (body : ∀ (p : Program) (e : Env) (s : State) (m : MethodId) (below : List Frame) (meth : Method) (c : Code) (A : Nat → Prop) (ls : Array Slot), p.tables.exec = Jvm.exec → c.code = cc → meth.sig.returnType = ret → c.maxLocals = maxL → (∀ w ∈ LW, w.before av.toArray s = true) → s.vm.findClass y.cls = some m.cls → meth.locks = false → k_B D cA s → (∀ q : Nat, s.heap.size ≤ q → A q) → k_Wd D A s.heap ws s.heap [] → lv_has ls maxL (lv_args 0 av) → c.exceptionTable.toList = tableOf hh → k_ZU A s s.heap → k_SR s → k_NC s →
      W p l e rm s m av.toArray below meth c s.heap [] 0 0 (vx_MQ below (k_QR 0 v D ws' A) (k_XC 0 D ws' A) av.toArray s mc ms A) (F0 m 0 ls [])) : k_MH l y cc maxL ret hh rm D cA av ws sz v ws' mc ms := by
  refine vx_ofWH (cc := cc) (maxL := maxL) (ret := ret) (hh := hh) hy rfl ?_
  intro p e s m args below meth c s₁ B hml hv
  obtain ⟨rfl, ⟨⟨hsz, hP, hK, hD0⟩, hZ, hSR⟩, hNC⟩ := hv
  have hts := atoms_spec (ws := wH y cc maxL ret hh) B.pre
  have htab := vx_table (x := y) B (hts _ List.mem_cons_self)
  subst hsz
  have hD := hD0.self (sz := s.heap.size)
  have hl := lv_entry av (n := maxL) hlen
  rw [lg_entry_eq]
  exact body p e s m below meth c _ _ B.exec B.bytes B.returns hml (fun w h => hts w (List.mem_cons_of_mem _ h)) (findClass_of_methodNamed B.named) B.notSynchronized hK (fun q h => Or.inr h) ⟨hP, hD, va_S.rf⟩ hl htab hZ hSR hNC
section KW
variable {p : Program} {l : Launch} {e : Env} {R : Room} {s : State} {m : MethodId} {args : Array Value} {below : List Frame} {meth : Method} {c : Code} {H : Heap} {locs : List Loc} {cells slots : Nat} {Q : State → Prop} {pc : Nat} {ls : Array Slot} {rest st0 : List Value} {A : Nat → Prop} {D : va_G} {cA : Nat → ClassId} {ws w1 w1' ws' : va_W} {v : Option Value} {cc bytes : ByteArray} {mc ms maxL nL n index : Nat} {y : MethodName} {ret : Option FieldType} {hh : List (Nat × Nat × Nat × Nat)} {rm : Room} {own : String} {As : List Value}
theorem k_callH (hM : k_MH l y bytes maxL ret hh rm D cA As w1 H.size v w1' mc ms) (hx : p.tables.exec = Jvm.exec) (hb : c.code = cc) (hml : c.maxLocals = nL) (hown : s.vm.findClass own = some m.cls) (hts : ∀ w ∈ LW, w.before args s = true) (hB : k_B D cA s) (hZ : k_ZU A s s.heap) (hSR : k_SR s) (hNC : k_NC s) (hA : ∀ q : Nat, s.heap.size ≤ q → A q) (hW : k_Wd D A s.heap ws H locs) (hl0 : ls.size = nL)
    (hcode : Cond.codeWith y bytes maxL ret hh ∈ LW) (hini : Cond.initialized y.cls ∈ LW) (hst : Cond.static y ∈ LW) (hl : Cond.methodLink own index y ∈ LW) (hd1 : k_D1 y n) (hR : k_RX rm R maxL mc ms) (hn : As.length = n) (isC isR : List Nat) (hC0 : k_at ws isC w1) (hnd : va_nd isC = true) (ho : k_O ws ws' w1' isC isR) (hd : ws'.map Prod.fst = ws.map Prod.fst)
    (hstack : st0 = As.reverse ++ rest) (hcat : (rest.map fun v => v.category).sum ≤ 8) (hf : cells + mc ≤ R.cells ∧ slots + ms ≤ R.slots) (hdg : decode cc pc = .ok (.invokestatic index, 3))
    {st1 : List Value} (hst1 : v.toList ++ rest = st1)
    (kk : ∀ (H1 : Heap) (locs1 : List Loc), k_Wd D A s.heap ws' H1 locs1 → W p l e R s m args below meth c H1 locs1 (cells + mc) (slots + ms) Q (F0 m (pc + 3) ls st1)) : W p l e R s m args below meth c H locs cells slots Q (F0 m pc ls st0) :=
  k_callX (vx_runSX (As := As) (rest := rest) (g := F0 m pc ls st0) (own := own) (Ts := LW) ⟨hx, hb, hml, hown, hts⟩ hM ⟨⟨hR.1, hR.2.1, hR.2.2.1, hR.2.2.2, pay_in hts (k_goodH hcode), List.mem_cons_self⟩, hts _ hcode, hts _ hini, ⟨hd1.1, hd1.2.1⟩, fun sig h => by
      have h2 := hd1.2.2
      rw [h] at h2
      exact (Option.some.inj h2).symm, hts _ hl, hts _ hst⟩ ⟨k_blindH, fun U hU hWm => by
      obtain ⟨h1, h2⟩ := k_preX hB hZ hSR hW hA isC hC0 hnd As U hU hWm
      exact ⟨h1, h2, hNC.moved hWm.alike⟩⟩ rfl hn hl0 hstack (lv_room hcat) hdg hf) hW hA isC isR hC0 ho hd hst1 (fun h => absurd rfl h) (fun _ => kk)
end KW
theorem kc_1 : Cond.castable (k_E 1) (k_E 1) ∈ LC := List.mem_filter.mpr ⟨r_q3_76, rfl⟩
theorem kc_2 : Cond.castable (k_E 2) (k_E 2) ∈ LC := List.mem_filter.mpr ⟨r_q3_149, rfl⟩
theorem kc_3 : Cond.castable (k_E 3) (k_E 3) ∈ LC := List.mem_filter.mpr ⟨r_q4_24, rfl⟩
theorem kc_4 : Cond.castable (k_E 4) (k_E 4) ∈ LC := List.mem_filter.mpr ⟨r_q3_188, rfl⟩
