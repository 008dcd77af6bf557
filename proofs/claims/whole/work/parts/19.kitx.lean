/-! Methods that return or throw. -/
def k_isC : Cond → Bool
  | .castable _ _ => true
  | .declares _ => true
  | _ => false
def LC : List Cond := lw_tbl.filter k_isC
theorem k_isC_tab {w : Cond} (h : k_isC w = true) : w.onTables = true := by
  cases w <;> first | rfl | (simp [k_isC] at h)
theorem k_isC_warm {w : Cond} (h : k_isC w = true) {s U : State} (hW : s.WarmedH U.vm) (hZ : va_Nw w s) : va_Nw w U := by
  cases w <;> first | exact va_Nw.warmC hW hZ | exact va_Nw.warmD hW hZ | (simp [k_isC] at h)
def k_E (x : Nat) : String := match x with
  | 1 => "java/lang/IllegalArgumentException"
  | 2 => "java/lang/IllegalStateException"
  | 3 => "java/lang/IndexOutOfBoundsException"
  | _ => "java/util/NoSuchElementException"
def k_ss : List (Nat × String) := [(302, "a number of the left row is out of range"), (294, "the batch has 40 changes"), (298, "the planned table has 60 rows"), (300, "the planned table does not contain the row"), (304, "a number of the right row is out of range"), (132, "no call of apply to undo"), (306, "no such row, column, group or watch"), (296, "the group has no rows"), (216, "no such index in the group"), (228, "no group of this rank"), (235, "there are 6 watches"), (252, "the character is not from 33 to 126"), (258, "the text has 40 characters"), (267, "the text has a fault"), (288, "nothing was saved")]
def k_SR (U : State) : Prop := (∀ q ∈ k_ss, ∃ a, vk_R "ViewMaintainer" q.1 q.2 a U) ∧ ∀ w ∈ LC, va_Nw w U
theorem k_SR.warm {s U : State} (hW : s.WarmedH U.vm) (h : k_SR s) : k_SR U := ⟨fun q hq => (h.1 q hq).imp fun _ h => h.warm hW, fun w hw => k_isC_warm (List.mem_filter.mp hw).2 hW (h.2 w hw)⟩
theorem k_SR.call {U : State} {g : JFrame} {mk : MethodId} {a : Array Value} (h : k_SR U) : k_SR (U.calling g mk a) := ⟨fun q hq => (h.1 q hq).imp fun _ h => h.same rfl, fun w hw => va_Nw.same (k_isC_tab (List.mem_filter.mp hw).2) (u := U) (U := U.calling g mk a) rfl (h.2 w hw)⟩
def k_ZU (A : Nat → Prop) (U : State) (H : Heap) : Prop := vx_Zq Bundle.tN "UNASSIGNED_STACK" Bundle.steD A U H ∧ vx_Zq Bundle.tN "SUPPRESSED_SENTINEL" Bundle.listD A U H ∧ k_ST A U H
def k_PX (D : va_G) (cA : Nat → ClassId) (ws : va_W) (sz : Nat) (U : State) : Prop := k_P D cA ws sz U ∧ k_ZU (va_A ws sz) U U.heap ∧ k_SR U
def k_QR (x : Nat) (v : Option Value) (D : va_G) (ws : va_W) (A : Nat → Prop) : Array Value → State → Outcome → State → Prop := fun a st oc t => x = 0 ∧ k_Q v D ws A a st oc t
def k_XC (x : Nat) (D : va_G) (ws : va_W) (A : Nat → Prop) : String → State → State → Prop := fun E st t => x ≠ 0 ∧ E = k_E x ∧ va_P D vwCl ws t.heap ∧ va_F A st t
def k_MX (l : Launch) (y : MethodName) (cc : ByteArray) (n : Nat) (ret : Option FieldType) (rm : Room) (D : va_G) (cA : Nat → ClassId) (av : List Value) (ws : va_W) (sz x : Nat) (v : Option Value) (ws' : va_W) (mc ms : Nat) : Prop :=
  vx_Met l y (wM y cc n ret) rm (va_Pc av (k_PX D cA ws sz)) (k_QR x v D ws' (va_A ws sz)) (k_XC x D ws' (va_A ws sz)) mc ms (va_A ws sz)
theorem k_blindX {D : va_G} {cA : Nat → ClassId} {av : List Value} {ws : va_W} {sz : Nat} : FrameBlind (va_Pc av (k_PX D cA ws sz)) := fun a U g mk q => by
  obtain ⟨q0, ⟨q1, qP, qK, qD⟩, qZ, qS⟩ := q
  exact ⟨q0, ⟨q1, qP, qK.call, qD⟩, ⟨vx_Zq.moved (u := U) (U := U.calling g mk a) (Vm.Alike.refl U.vm) qZ.1, vx_Zq.moved (u := U) (U := U.calling g mk a) (Vm.Alike.refl U.vm) qZ.2.1, qZ.2.2.call⟩, qS.call⟩
theorem k_ofWX {l : Launch} {y : MethodName} {cc : ByteArray} {maxL : Nat} {ret : Option FieldType} {rm : Room} {D : va_G} {cA : Nat → ClassId} {av : List Value} {ws : va_W} {sz x : Nat} {v : Option Value} {ws' : va_W} {mc ms : Nat} (hy : plainName y.cls = true) (hlen : (lg_sl av).length ≤ maxL)
    (body : ∀ (p : Program) (e : Env) (s : State) (m : MethodId) (below : List Frame) (meth : Method) (c : Code) (A : Nat → Prop) (ls : Array Slot), p.tables.exec = Jvm.exec → c.code = cc → meth.sig.returnType = ret → c.maxLocals = maxL → (∀ w ∈ LW, w.before av.toArray s = true) → s.vm.findClass y.cls = some m.cls → meth.locks = false → k_B D cA s → (∀ q : Nat, s.heap.size ≤ q → A q) → k_Wd D A s.heap ws s.heap [] → lv_has ls maxL (lv_args 0 av) → (∀ x ∈ c.exceptionTable.toList, False) → k_ZU A s s.heap → k_SR s →
      W p l e rm s m av.toArray below meth c s.heap [] 0 0 (vx_MQ below (k_QR x v D ws' A) (k_XC x D ws' A) av.toArray s mc ms A) (F0 m 0 ls [])) : k_MX l y cc maxL ret rm D cA av ws sz x v ws' mc ms := by
  refine vx_ofW (cc := cc) (maxL := maxL) (ret := ret) hy rfl ?_
  intro p e s m args below meth c s₁ B hml htab hv
  obtain ⟨rfl, ⟨hsz, hP, hK, hD0⟩, hZ, hSR⟩ := hv
  have hts := atoms_spec (ws := wM y cc maxL ret) B.pre
  subst hsz
  have hD := hD0.self (sz := s.heap.size)
  have hl := lv_entry av (n := maxL) hlen
  rw [lg_entry_eq]
  exact body p e s m below meth c _ _ B.exec B.bytes B.returns hml (fun w h => hts w (List.mem_cons_of_mem _ h)) (findClass_of_methodNamed B.named) B.notSynchronized hK (fun q h => Or.inr h) ⟨hP, hD, va_S.rf⟩ hl htab hZ hSR
theorem xat_1 : ∀ w ∈ vx_atS "ViewMaintainer" 254 "java/lang/IllegalArgumentException" ["java/lang/RuntimeException", "java/lang/Exception"], w ∈ lw_tbl ∧ (goodWord w || k_isC w) = true := by decide +kernel
theorem xat_2 : ∀ w ∈ vx_atS "ViewMaintainer" 134 "java/lang/IllegalStateException" ["java/lang/RuntimeException", "java/lang/Exception"], w ∈ lw_tbl ∧ (goodWord w || k_isC w) = true := by decide +kernel
theorem xat_3 : ∀ w ∈ vx_atS "ViewMaintainer" 230 "java/lang/IndexOutOfBoundsException" ["java/lang/RuntimeException", "java/lang/Exception"], w ∈ lw_tbl ∧ (goodWord w || k_isC w) = true := by decide +kernel
theorem k_hat {args : Array Value} {s : State} {L : List Cond} (h : ∀ w ∈ L, w ∈ lw_tbl ∧ (goodWord w || k_isC w) = true) (hts : ∀ w ∈ LW, w.before args s = true) (hSR : k_SR s) : ∀ w ∈ L, w.before args s = true := fun w hw => by
  obtain ⟨h1, h2⟩ := h w hw
  rcases (Bool.or_eq_true _ _).mp h2 with h3 | h3
  · exact hts w (lw_in h1 h3)
  · exact va_Nw.use (k_isC_tab h3) (hSR.2 w (List.mem_filter.mpr ⟨h1, h3⟩))
theorem k_hgd {L : List Cond} {own cls : String} {ik : Nat} (h : ∀ w ∈ L, w ∈ lw_tbl ∧ (goodWord w || k_isC w) = true) : ∀ w ∈ Cond.classLink own ik cls :: Cond.initialized cls :: L, vx_ot w = true := fun w hw => by
  rcases List.mem_cons.mp hw with e | hw
  · subst e; rfl
  · rcases List.mem_cons.mp hw with e | hw
    · subst e; rfl
    · obtain ⟨h1, h2⟩ := h w hw
      rcases (Bool.or_eq_true _ _).mp h2 with h3 | h3
      · show (w.onTables || goodWord w) = true
        rw [h3, Bool.or_true]
      · show (w.onTables || goodWord w) = true
        rw [k_isC_tab h3, Bool.true_or]
section KX
variable {p : Program} {l : Launch} {e : Env} {R : Room} {s : State} {m : MethodId} {args : Array Value} {below : List Frame} {meth : Method} {c : Code} {H H0 : Heap} {locs : List Loc} {cells slots : Nat} {Q : State → Prop} {pc : Nat} {ls : Array Slot} {rest st0 : List Value} {A : Nat → Prop} {D : va_G} {cA : Nat → ClassId} {ws w1 w1' ws' : va_W} {v : Option Value} {cc : ByteArray} {mc ms x : Nat}
theorem k_xpost {t : State} (hW : k_Wd D A s.heap ws H locs) (hx : x ≠ 0) {E : String} (hE : E = k_E x) (hz : H.size ≤ t.heap.size) (hk : ∀ q : Nat, q < H.size → t.heap[q]? = H[q]?) : k_XC x D ws A E s t :=
  ⟨hx, hE, hW.1.kept (fun k q hq => hk q.1 (hW.1 k q hq).lt), Nat.le_trans hW.2.2.1 hz, fun q h1 h2 => (hk q (Nat.lt_of_lt_of_le h1 hW.2.2.1)).trans (hW.2.2.2.1 q h1 h2)⟩
/-- throw new E("text"), the text by a wide index -/
theorem k_throwW {ik is ic : Nat} {cls text : String} {Qc : Array Value → State → Outcome → State → Prop} (hx : p.tables.exec = Jvm.exec) (hb : c.code = cc) (hl : l.stackTraces = false) (hown : s.vm.findClass "ViewMaintainer" = some m.cls) (hts : ∀ w ∈ LW, w.before args s = true) (hlocks : meth.locks = false) (htab : ∀ x ∈ c.exceptionTable.toList, False) (hZ : k_ZU A s s.heap) (hSR : k_SR s) (hW : k_Wd D A s.heap ws H locs) (hsz : ls.size = c.maxLocals)
    (hcls : Bundle.fit cls = true) (hnames : ∀ n ∈ ["java/lang/RuntimeException", "java/lang/Exception"], Bundle.fit n = true) (hk : Cond.classLink "ViewMaintainer" ik cls ∈ LW) (hini : Cond.initialized cls ∈ LW) (hs : (is, text) ∈ k_ss) (hat : ∀ w ∈ vx_atS "ViewMaintainer" ic cls ["java/lang/RuntimeException", "java/lang/Exception"], w ∈ lw_tbl ∧ (goodWord w || k_isC w) = true) (hx0 : x ≠ 0) (hE : cls = k_E x)
    (d0 : decode cc pc = .ok (.new ik, 3)) (d3 : decode cc (pc + 3) = .ok (.dup, 1)) (d4 : decode cc (pc + 4) = .ok (.ldc_w is, 3)) (d7 : decode cc (pc + 7) = .ok (.invokespecial ic, 3)) (d10 : decode cc (pc + 10) = .ok (.athrow, 1))
    (hRf : 5 < R.frames) (hRl : (rest.map fun v => v.category).sum + 82 ≤ R.locals) (hRc : cells + 1 ≤ R.cells) (hRs : slots + 6 ≤ R.slots) (hc : cells + 1 ≤ mc) (hs2 : slots + 6 ≤ ms) : W p l e R s m args below meth c H locs cells slots (vx_MQ below Qc (k_XC x D ws A) args s mc ms A) (F0 m pc ls rest) := by
  obtain ⟨sa, hstr⟩ := hSR.1 (is, text) hs
  exact vx_throwSW hx hb hl hown hcls hnames (hts _ hk) (hts _ hini) hstr (k_hat hat hts hSR) (k_hgd hat) hZ.1 hZ.2.1 hW.2.2 hsz d0 d3 d4 d7 d10 (fun x h => (htab x h).elim) hRf hRl hRc hRs hlocks (fun t _ hz hk => k_xpost hW hx0 hE hz hk) hW.2.2.2.2 hc hs2
/-- the same, by a short index -/
theorem k_throwN {ik is ic : Nat} {cls text : String} {Qc : Array Value → State → Outcome → State → Prop} (hx : p.tables.exec = Jvm.exec) (hb : c.code = cc) (hl : l.stackTraces = false) (hown : s.vm.findClass "ViewMaintainer" = some m.cls) (hts : ∀ w ∈ LW, w.before args s = true) (hlocks : meth.locks = false) (htab : ∀ x ∈ c.exceptionTable.toList, False) (hZ : k_ZU A s s.heap) (hSR : k_SR s) (hW : k_Wd D A s.heap ws H locs) (hsz : ls.size = c.maxLocals)
    (hcls : Bundle.fit cls = true) (hnames : ∀ n ∈ ["java/lang/RuntimeException", "java/lang/Exception"], Bundle.fit n = true) (hk : Cond.classLink "ViewMaintainer" ik cls ∈ LW) (hini : Cond.initialized cls ∈ LW) (hs : (is, text) ∈ k_ss) (hat : ∀ w ∈ vx_atS "ViewMaintainer" ic cls ["java/lang/RuntimeException", "java/lang/Exception"], w ∈ lw_tbl ∧ (goodWord w || k_isC w) = true) (hx0 : x ≠ 0) (hE : cls = k_E x)
    (d0 : decode cc pc = .ok (.new ik, 3)) (d3 : decode cc (pc + 3) = .ok (.dup, 1)) (d4 : decode cc (pc + 4) = .ok (.ldc is, 2)) (d6 : decode cc (pc + 6) = .ok (.invokespecial ic, 3)) (d9 : decode cc (pc + 9) = .ok (.athrow, 1))
    (hRf : 5 < R.frames) (hRl : (rest.map fun v => v.category).sum + 82 ≤ R.locals) (hRc : cells + 1 ≤ R.cells) (hRs : slots + 6 ≤ R.slots) (hc : cells + 1 ≤ mc) (hs2 : slots + 6 ≤ ms) : W p l e R s m args below meth c H locs cells slots (vx_MQ below Qc (k_XC x D ws A) args s mc ms A) (F0 m pc ls rest) := by
  obtain ⟨sa, hstr⟩ := hSR.1 (is, text) hs
  exact vx_throwS hx hb hl hown hcls hnames (hts _ hk) (hts _ hini) hstr (k_hat hat hts hSR) (k_hgd hat) hZ.1 hZ.2.1 hW.2.2 hsz d0 d3 d4 d6 d9 (fun x h => (htab x h).elim) hRf hRl hRc hRs hlocks (fun t _ hz hk => k_xpost hW hx0 hE hz hk) hW.2.2.2.2 hc hs2
/-- an exception of a callee goes on -/
theorem k_out {q : Addr} {ce : Cell} {Qc : Array Value → State → Outcome → State → Prop} (hlocks : meth.locks = false) (htab : ∀ x ∈ c.exceptionTable.toList, False) (hW : k_Wd D A s.heap ws H locs) (hcell : H[q]? = some ce) (hv : ce.vm = .none) (hcl : s.vm.findClass (k_E x) = some ce.cls) (hx0 : x ≠ 0) (hc : cells ≤ mc) (hs : slots ≤ ms) : vx_W p l e R s m args below meth c H locs cells slots (vx_MQ below Qc (k_XC x D ws A) args s mc ms A) (F0 m pc ls rest) q :=
  vx_out (fun x h => (htab x h).elim) hlocks hcell hv hcl (fun t ht _ => k_xpost hW hx0 rfl (by rw [ht]; exact Nat.le_refl _) (fun q _ => by rw [ht])) hW.2.2.2.2 hc hs
theorem k_callX {a : Array Value} (hr : vx_Run p l e R s m args below meth c H locs cells slots mc ms (F0 m pc ls st0) rest (k_QR x v D w1' (va_A w1 H.size) a) (k_XC x D w1' (va_A w1 H.size)) (va_A w1 H.size)) (hW : k_Wd D A H0 ws H locs) (hA : ∀ q : Nat, H0.size ≤ q → A q) (isC isR : List Nat) (hC : k_at ws isC w1) (ho : k_O ws ws' w1' isC isR) (hd : ws'.map Prod.fst = ws.map Prod.fst)
    {st1 : List Value} (hst1 : v.toList ++ rest = st1)
    (kx : x ≠ 0 → ∀ (H1 : Heap) (locs1 : List Loc) (q9 : Addr) (ce : Cell), k_Wd D A H0 ws' H1 locs1 → H1[q9]? = some ce → ce.vm = .none → s.vm.findClass (k_E x) = some ce.cls → vx_W p l e R s m args below meth c H1 locs1 (cells + mc) (slots + ms) Q (F0 m pc ls rest) q9)
    (kk : x = 0 → ∀ (H1 : Heap) (locs1 : List Loc), k_Wd D A H0 ws' H1 locs1 → W p l e R s m args below meth c H1 locs1 (cells + mc) (slots + ms) Q (F0 m (pc + 3) ls st1)) : W p l e R s m args below meth c H locs cells slots Q (F0 m pc ls st0) := by
  subst hst1
  intro T hT X
  obtain ⟨hP, hD, hS⟩ := hW
  have hF : ∀ q, va_A w1 H.size q → A q := va_free hD hS hA isC (k_atM _ _ hC)
  have mk : ∀ (t T' : State) (L : List Loc), T'.heap = t.heap → va_P D vwCl w1' t.heap → H.size ≤ t.heap.size → (∀ q : Nat, q < H.size → ¬ va_A w1 H.size q → t.heap[q]? = H[q]?) → (∀ q ∈ L, va_A w1 H.size q.base) → k_Wd D A H0 ws' T'.heap (locs ++ L) := by
    intro t T' L e1 hP1 hz hk hL
    have hk' : ∀ q : Nat, q < H.size → ¬ va_A w1 H.size q → T'.heap[q]? = H[q]? := fun q h1 h2 => by rw [e1]; exact hk q h1 h2
    exact ⟨k_ovP hP hD isC isR hC hk' (by rw [e1]; exact hP1) ho, k_D_same hd hD, Nat.le_trans hS.1 (by rw [e1]; exact hz), fun q h1 h2 => by rw [hk' q (Nat.lt_of_lt_of_le h1 hS.1) (fun z => h2 (hF q z))]; exact hS.2.1 q h1 h2, fun q hq => by
      rcases List.mem_append.mp hq with h | h
      · exact hS.2.2 q h
      · exact hF _ (hL q h)⟩
  rcases hr T hT X with ⟨v', st₀, t, T', L, h0, X', hL, e1, e2, ⟨hx0, hv, hP1, hz, hk⟩, st⟩ | ⟨q9, st₀, t, T', L, E, ce, h0, X', hL, e1, e2, ⟨hx0, hE, hP1, hz, hk⟩, hce, hvm, hcl, st⟩
  · cases hv
    rw [h0] at hz hk
    obtain ⟨t2, a1, b1⟩ := kk hx0 T'.heap (locs ++ L) (mk t T' L e1 hP1 hz hk hL) T' rfl X'
    exact ⟨t2, st t2 a1, b1⟩
  · rw [h0] at hz hk
    subst hE
    obtain ⟨t2, a1, b1⟩ := kx hx0 T'.heap (locs ++ L) q9 ce (mk t T' L e1 hP1 hz hk hL) (by rw [e1]; exact hce) hvm hcl T' rfl X'
    exact ⟨t2, st.trans a1, b1⟩
variable {y : MethodName} {bytes : ByteArray} {maxL nL n index : Nat} {ret : Option FieldType} {rm : Room} {own : String} {As : List Value} {b ci : Nat} {fs : List Value} {T : u_T} {N : Nat}
abbrev k_RX (rm R : Room) (maxL mc ms : Nat) : Prop := rm.cells = mc ∧ rm.slots = ms ∧ rm.frames + 1 ≤ R.frames ∧ 8 + (maxL + 11) + rm.locals ≤ R.locals
theorem k_preX (hB : k_B D cA s) (hZ : k_ZU A s s.heap) (hSR : k_SR s) (hW : k_Wd D A s.heap ws H locs) (hA : ∀ q : Nat, s.heap.size ≤ q → A q) (isC : List Nat) (hC : k_at ws isC w1) (hn : va_nd isC = true) (av : List Value) : ∀ U : State, U.heap = H → s.WarmedH U.vm → va_Pc av (k_PX D cA w1 H.size) av.toArray U := fun U hU hWm => by
  obtain ⟨h1, h2⟩ := k_pre hB hW isC (k_atM _ _ hC) hn av U hU hWm
  have hF : ∀ q, va_A w1 H.size q → A q := va_free hW.2.1 hW.2.2 hA isC (k_atM _ _ hC)
  have hq : ∀ a : Nat, a < s.heap.size → ¬ A a → U.heap[a]? = s.heap[a]? := fun a ha hn => by rw [hU]; exact hW.2.2.2.1 a ha hn
  exact ⟨h1, h2, ⟨((hZ.1.moved hWm.alike).kept hq).narrow hF, ((hZ.2.1.moved hWm.alike).kept hq).narrow hF, ((hZ.2.2.warm hWm).kept hq).narrow hF⟩, hSR.warm hWm⟩
theorem k_cbX (hts : ∀ w ∈ LW, w.before args s = true) (hcode : Cond.code y bytes maxL ret ∈ LW) (hini : Cond.initialized y.cls ∈ LW) (hl : Cond.methodLink own index y ∈ LW) (hd1 : k_D1 y n) (hR : k_RX rm R maxL mc ms) : CallB R s args own index y bytes maxL ret (wM y bytes maxL ret) rm mc ms n :=
  callB_of n hts (k_goodM hcode) rfl hR.1 hR.2.1 (hts _ hini) (hts _ hl) hd1 hR.2.2
theorem k_callSX (hM : k_MX l y bytes maxL ret rm D cA As w1 H.size x v w1' mc ms) (hx : p.tables.exec = Jvm.exec) (hb : c.code = cc) (hml : c.maxLocals = nL) (hown : s.vm.findClass own = some m.cls) (hts : ∀ w ∈ LW, w.before args s = true) (hB : k_B D cA s) (hZ : k_ZU A s s.heap) (hSR : k_SR s) (hA : ∀ q : Nat, s.heap.size ≤ q → A q) (hW : k_Wd D A s.heap ws H locs) (hl0 : ls.size = nL)
    (hcode : Cond.code y bytes maxL ret ∈ LW) (hini : Cond.initialized y.cls ∈ LW) (hst : Cond.static y ∈ LW) (hl : Cond.methodLink own index y ∈ LW) (hd1 : k_D1 y n) (hR : k_RX rm R maxL mc ms) (hn : As.length = n) (isC isR : List Nat) (hC0 : k_at ws isC w1) (hnd : va_nd isC = true) (ho : k_O ws ws' w1' isC isR) (hd : ws'.map Prod.fst = ws.map Prod.fst)
    (hstack : st0 = As.reverse ++ rest) (hcat : (rest.map fun v => v.category).sum ≤ 8) (hf : cells + mc ≤ R.cells ∧ slots + ms ≤ R.slots) (hdg : decode cc pc = .ok (.invokestatic index, 3))
    {st1 : List Value} (hst1 : v.toList ++ rest = st1)
    (kx : x ≠ 0 → ∀ (H1 : Heap) (locs1 : List Loc) (q9 : Addr) (ce : Cell), k_Wd D A s.heap ws' H1 locs1 → H1[q9]? = some ce → ce.vm = .none → s.vm.findClass (k_E x) = some ce.cls → vx_W p l e R s m args below meth c H1 locs1 (cells + mc) (slots + ms) Q (F0 m pc ls rest) q9)
    (kk : x = 0 → ∀ (H1 : Heap) (locs1 : List Loc), k_Wd D A s.heap ws' H1 locs1 → W p l e R s m args below meth c H1 locs1 (cells + mc) (slots + ms) Q (F0 m (pc + 3) ls st1)) : W p l e R s m args below meth c H locs cells slots Q (F0 m pc ls st0) :=
  k_callX (vx_runS (As := As) (rest := rest) (g := F0 m pc ls st0) (own := own) (Ts := LW) ⟨hx, hb, hml, hown, hts⟩ hM ⟨k_cbX hts hcode hini hl hd1 hR, hts _ hst⟩ ⟨k_blindX, k_preX hB hZ hSR hW hA isC hC0 hnd As⟩ rfl hn hl0 hstack (lv_room hcat) hdg hf) hW hA isC isR hC0 ho hd hst1 kx kk
theorem k_callVX {C : String} (hM : k_MX l y bytes maxL ret rm D cA (.ref b :: As) w1 H.size x v w1' mc ms) (hx : p.tables.exec = Jvm.exec) (hb : c.code = cc) (hml : c.maxLocals = nL) (hown : s.vm.findClass own = some m.cls) (hts : ∀ w ∈ LW, w.before args s = true) (hB : k_B D cA s) (hZ : k_ZU A s s.heap) (hSR : k_SR s) (hA : ∀ q : Nat, s.heap.size ≤ q → A q) (hW : k_Wd D A s.heap ws H locs) (hl0 : ls.size = nL)
    (hcode : Cond.code y bytes maxL ret ∈ LW) (hini : Cond.initialized y.cls ∈ LW) (him : Cond.instanceMethod y ∈ LW) (hse : Cond.selects C y y ∈ LW) (hl : Cond.methodLink own index y ∈ LW) (hd1 : k_D1 y n) (hR : k_RX rm R maxL mc ms) (hn : As.length = n) (q0 : Nat) (he : ws[q0]? = some (b, .inr (ci, fs))) (hc : vwCl[ci]? = some (C, T, N)) (isC isR : List Nat) (hC0 : k_at ws isC w1) (hnd : va_nd isC = true) (ho : k_O ws ws' w1' isC isR) (hd : ws'.map Prod.fst = ws.map Prod.fst)
    (hstack : st0 = As.reverse ++ .ref b :: rest) (hcat : (rest.map fun v => v.category).sum ≤ 8) (hf : cells + mc ≤ R.cells ∧ slots + ms ≤ R.slots) (hdg : decode cc pc = .ok (.invokevirtual index, 3))
    {st1 : List Value} (hst1 : v.toList ++ rest = st1)
    (kx : x ≠ 0 → ∀ (H1 : Heap) (locs1 : List Loc) (q9 : Addr) (ce : Cell), k_Wd D A s.heap ws' H1 locs1 → H1[q9]? = some ce → ce.vm = .none → s.vm.findClass (k_E x) = some ce.cls → vx_W p l e R s m args below meth c H1 locs1 (cells + mc) (slots + ms) Q (F0 m pc ls rest) q9)
    (kk : x = 0 → ∀ (H1 : Heap) (locs1 : List Loc), k_Wd D A s.heap ws' H1 locs1 → W p l e R s m args below meth c H1 locs1 (cells + mc) (slots + ms) Q (F0 m (pc + 3) ls st1)) : W p l e R s m args below meth c H locs cells slots Q (F0 m pc ls st0) :=
  k_callX (vx_runV (As := As) (rest := rest) (b := b) (g := F0 m pc ls st0) (own := own) (C := C) (Ts := LW) ⟨hx, hb, hml, hown, hts⟩ hM ⟨k_cbX hts hcode hini hl hd1 hR, hts _ him, hts _ hse⟩ ⟨k_blindX, va_recv hB.1 hW.1 hc he, k_preX hB hZ hSR hW hA isC hC0 hnd (.ref b :: As)⟩ rfl hn hl0 hstack (lv_room hcat) hdg hf) hW hA isC isR hC0 ho hd hst1 kx kk
end KX
