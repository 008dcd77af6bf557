/-! Two constant texts of the class ("kgvfp", "<=>") and String.indexOf(int) on them: methods of the JDK, by contract over a text that nobody writes. -/
def k_Sx (b t n : Nat) (f : Nat → Int32) (A : Nat → Prop) (U : State) (H : Heap) : Prop :=
  va_O "java/lang/String" b A U H ∧ va_OF "java/lang/String" "coder" "B" (.int 0) b A U H ∧ va_OF "java/lang/String" "value" "[B" (.ref t) b A U H ∧ va_T .byte t n (fun j => .int (f j)) A U H ∧ va_Z "java/lang/String" "COMPACT_STRINGS" "Z" (.int 1) A U H
theorem k_Sx.moved {b t n : Nat} {f : Nat → Int32} {A : Nat → Prop} {u U : State} {H : Heap} (hvm : u.vm.Alike U.vm) (h : k_Sx b t n f A u H) : k_Sx b t n f A U H :=
  ⟨va_O.moved hvm h.1, va_OF.moved hvm h.2.1, va_OF.moved hvm h.2.2.1, va_T.moved hvm h.2.2.2.1, va_Z.moved hvm h.2.2.2.2⟩
theorem k_Sx.kept {b t n : Nat} {f : Nat → Int32} {A : Nat → Prop} {U : State} {H H1 : Heap} (h : k_Sx b t n f A U H) (hq : ∀ a : Nat, a < H.size → ¬ A a → H1[a]? = H[a]?) : k_Sx b t n f A U H1 :=
  ⟨h.1.kept hq, h.2.1.kept hq, h.2.2.1.kept hq, h.2.2.2.1.kept hq, h.2.2.2.2.kept hq⟩
theorem k_Sx.narrow {b t n : Nat} {f : Nat → Int32} {A B : Nat → Prop} {U : State} {H : Heap} (h : k_Sx b t n f A U H) (hAB : ∀ q, B q → A q) : k_Sx b t n f B U H :=
  ⟨h.1.narrow hAB, h.2.1.narrow hAB, h.2.2.1.narrow hAB, h.2.2.2.1.narrow hAB, h.2.2.2.2.narrow hAB⟩
def k_PS (D : va_G) (cA : Nat → ClassId) (b t n : Nat) (f : Nat → Int32) (sz : Nat) (U : State) : Prop := k_P D cA [] sz U ∧ k_Sx b t n f (va_A [] sz) U U.heap
def k_MS (l : Launch) (y : MethodName) (cc : ByteArray) (nL : Nat) (ret : Option FieldType) (rm : Room) (D : va_G) (cA : Nat → ClassId) (b t n : Nat) (f : Nat → Int32) (av : List Value) (sz : Nat) (v : Option Value) : Prop :=
  Met l y (wM y cc nL ret) rm (va_Pc av (k_PS D cA b t n f sz)) (k_Q v D [] (va_A [] sz)) 0 0 (va_A [] sz)
theorem k_blindS {D : va_G} {cA : Nat → ClassId} {b t n : Nat} {f : Nat → Int32} {av : List Value} {sz : Nat} : FrameBlind (va_Pc av (k_PS D cA b t n f sz)) := fun a U g mk q => by
  obtain ⟨q0, ⟨q1, qP, qK, qD⟩, qS⟩ := q
  exact ⟨q0, ⟨q1, qP, qK.call, qD⟩, k_Sx.moved (u := U) (U := U.calling g mk a) (Vm.Alike.refl U.vm) qS⟩
theorem k_ofWS {l : Launch} {y : MethodName} {cc : ByteArray} {maxL : Nat} {ret : Option FieldType} {rm : Room} {D : va_G} {cA : Nat → ClassId} {b t n : Nat} {f : Nat → Int32} {av : List Value} {sz : Nat} {v : Option Value} (hy : plainName y.cls = true) (hlen : (lg_sl av).length ≤ maxL)
    (body : ∀ (p : Program) (e : Env) (s : State) (m : MethodId) (below : List Frame) (meth : Method) (c : Code) (A : Nat → Prop) (ls : Array Slot), p.tables.exec = Jvm.exec → c.code = cc → meth.sig.returnType = ret → c.maxLocals = maxL → (∀ w ∈ LW, w.before av.toArray s = true) → s.vm.findClass y.cls = some m.cls → meth.locks = false → k_B D cA s → (∀ q : Nat, s.heap.size ≤ q → A q) → k_Wd D A s.heap [] s.heap [] → lv_has ls maxL (lv_args 0 av) → k_Sx b t n f A s s.heap →
      W p l e rm s m av.toArray below meth c s.heap [] 0 0 (MQ below (k_Q v D [] A) av.toArray s 0 0 A) (F0 m 0 ls [])) : k_MS l y cc maxL ret rm D cA b t n f av sz v := by
  refine Met.ofW (cc := cc) (maxL := maxL) (ret := ret) hy rfl ?_
  intro p e s m args below meth c s₁ B hml hv
  obtain ⟨rfl, ⟨hsz, hP, hK, hD0⟩, hSx⟩ := hv
  have hts := atoms_spec (ws := wM y cc maxL ret) B.pre
  subst hsz
  have hD := hD0.self (sz := s.heap.size)
  have hl := lv_entry av (n := maxL) hlen
  rw [lg_entry_eq]
  exact body p e s m below meth c _ _ B.exec B.bytes B.returns hml (fun w h => hts w (List.mem_cons_of_mem _ h)) (findClass_of_methodNamed B.named) B.notSynchronized hK (fun q h => Or.inr h) ⟨hP, hD, va_S.rf⟩ hl hSx
theorem k_sm_self (ws : va_W) : ∀ is : List Nat, k_sm ws ws is
  | [] => trivial
  | _ :: is => ⟨rfl, k_sm_self ws is⟩
theorem k_cov_self (n : Nat) : k_cov n [] (List.range n) = true := by
  unfold k_cov
  rw [List.all_eq_true]
  intro k hk
  simp at hk ⊢
  exact hk
section KS
variable {p : Program} {l : Launch} {e : Env} {R : Room} {s : State} {m : MethodId} {args : Array Value} {below : List Frame} {meth : Method} {c : Code} {H : Heap} {locs : List Loc} {cells slots : Nat} {Q : State → Prop} {pc : Nat} {ls : Array Slot} {rest st0 : List Value} {A : Nat → Prop} {D : va_G} {cA : Nat → ClassId} {ws : va_W} {v : Option Value} {a : Array Value}
theorem k_call0 {H0 : Heap} (hr : va_Run p l e R s m args below meth c H locs cells slots 0 0 (F0 m pc ls st0) rest (k_Q v D [] (va_A [] H.size) a) (va_A [] H.size)) (hW : k_Wd D A H0 ws H locs) (hA : ∀ q : Nat, H0.size ≤ q → A q)
    {st1 : List Value} (hst1 : v.toList ++ rest = st1) (kk : ∀ (H1 : Heap) (locs1 : List Loc), k_Wd D A H0 ws H1 locs1 → W p l e R s m args below meth c H1 locs1 cells slots Q (F0 m (pc + 3) ls st1)) : W p l e R s m args below meth c H locs cells slots Q (F0 m pc ls st0) :=
  k_call hr hW hA [] (List.range ws.length) trivial ⟨trivial, k_sm_self ws _, k_cov_self _⟩ rfl hst1 kk
theorem k_preS {b t n : Nat} {f : Nat → Int32} (hB : k_B D cA s) (hS : k_Sx b t n f A s s.heap) (hW : k_Wd D A s.heap ws H locs) (hA : ∀ q : Nat, s.heap.size ≤ q → A q) (av : List Value) : ∀ U : State, U.heap = H → s.WarmedH U.vm → va_Pc av (k_PS D cA b t n f H.size) av.toArray U := fun U hU hWm => by
  obtain ⟨h1, h2⟩ := k_pre (w1 := []) hB hW [] rfl rfl av U hU hWm
  have hF : ∀ q, va_A [] H.size q → A q := va_free hW.2.1 hW.2.2 hA [] rfl
  have hq : ∀ a : Nat, a < s.heap.size → ¬ A a → U.heap[a]? = s.heap[a]? := fun a ha hn => by rw [hU]; exact hW.2.2.2.1 a ha hn
  exact ⟨h1, h2, ((hS.moved hWm.alike).kept hq).narrow hF⟩
variable {y : MethodName} {bytes cc : ByteArray} {maxL nL nn index : Nat} {ret : Option FieldType} {rm : Room} {own : String} {As : List Value} {b t n : Nat} {f : Nat → Int32}
theorem k_callSS (hM : k_MS l y bytes maxL ret rm D cA b t n f As H.size v) (hx : p.tables.exec = Jvm.exec) (hb : c.code = cc) (hml : c.maxLocals = nL) (hown : s.vm.findClass own = some m.cls) (hts : ∀ w ∈ LW, w.before args s = true) (hB : k_B D cA s) (hA : ∀ q : Nat, s.heap.size ≤ q → A q) (hW : k_Wd D A s.heap ws H locs) (hl0 : ls.size = nL) (hS : k_Sx b t n f A s s.heap)
    (hcode : Cond.code y bytes maxL ret ∈ LW) (hini : Cond.initialized y.cls ∈ LW) (hst : Cond.static y ∈ LW) (hl : Cond.methodLink own index y ∈ LW) (hd1 : k_D1 y nn) (hR : k_Rm rm R maxL) (hn : As.length = nn)
    (hstack : st0 = As.reverse ++ rest) (hcat : (rest.map fun v => v.category).sum ≤ 8) (hf : cells ≤ R.cells ∧ slots ≤ R.slots) (hdg : decode cc pc = .ok (.invokestatic index, 3))
    {st1 : List Value} (hst1 : v.toList ++ rest = st1) (kk : ∀ (H1 : Heap) (locs1 : List Loc), k_Wd D A s.heap ws H1 locs1 → W p l e R s m args below meth c H1 locs1 cells slots Q (F0 m (pc + 3) ls st1)) : W p l e R s m args below meth c H locs cells slots Q (F0 m pc ls st0) :=
  k_call0 (va_runS (As := As) (rest := rest) (g := F0 m pc ls st0) (own := own) (Ts := LW) ⟨hx, hb, hml, hown, hts⟩ hM ⟨k_cb hts hcode hini hl hd1 hR, hts _ hst⟩ ⟨k_blindS, k_preS hB hS hW hA As⟩ rfl hn hl0 hstack (lv_room hcat) hdg hf) hW hA hst1 kk
theorem k_callVS (hM : k_MS l y bytes maxL ret rm D cA b t n f (.ref b :: As) H.size v) (hx : p.tables.exec = Jvm.exec) (hb : c.code = cc) (hml : c.maxLocals = nL) (hown : s.vm.findClass own = some m.cls) (hts : ∀ w ∈ LW, w.before args s = true) (hB : k_B D cA s) (hA : ∀ q : Nat, s.heap.size ≤ q → A q) (hW : k_Wd D A s.heap ws H locs) (hl0 : ls.size = nL) (hS : k_Sx b t n f A s s.heap)
    (hcode : Cond.code y bytes maxL ret ∈ LW) (hini : Cond.initialized y.cls ∈ LW) (him : Cond.instanceMethod y ∈ LW) (hse : Cond.selects "java/lang/String" y y ∈ LW) (hl : Cond.methodLink own index y ∈ LW) (hd1 : k_D1 y nn) (hR : k_Rm rm R maxL) (hn : As.length = nn)
    (hstack : st0 = As.reverse ++ .ref b :: rest) (hcat : (rest.map fun v => v.category).sum ≤ 8) (hf : cells ≤ R.cells ∧ slots ≤ R.slots) (hdg : decode cc pc = .ok (.invokevirtual index, 3))
    {st1 : List Value} (hst1 : v.toList ++ rest = st1) (kk : ∀ (H1 : Heap) (locs1 : List Loc), k_Wd D A s.heap ws H1 locs1 → W p l e R s m args below meth c H1 locs1 cells slots Q (F0 m (pc + 3) ls st1)) : W p l e R s m args below meth c H locs cells slots Q (F0 m pc ls st0) :=
  have hrv : ∃ cell : Cell, H[b]? = some cell ∧ cell.vm.isStatics = false ∧ s.vm.findClass "java/lang/String" = some cell.cls := by
    obtain ⟨cell, h1, h2, h3, -⟩ := hS.1.kept hW.2.2.2.1
    exact ⟨cell, h1, h2, h3⟩
  k_call0 (va_runV (As := As) (rest := rest) (b := b) (g := F0 m pc ls st0) (own := own) (C := "java/lang/String") (Ts := LW) ⟨hx, hb, hml, hown, hts⟩ hM ⟨k_cb hts hcode hini hl hd1 hR, hts _ him, hts _ hse⟩ ⟨k_blindS, hrv, k_preS hB hS hW hA (.ref b :: As)⟩ rfl hn hl0 hstack (lv_room hcat) hdg hf) hW hA hst1 kk
end KS
section KSM
variable (l : Launch) (D : va_G) (cA : Nat → ClassId) (sz b t n : Nat) (f : Nat → Int32)
theorem qz_coder : Cond.fieldLink "java/lang/String" 15 "java/lang/String" "coder" "B" ∈ LW := lw_in r_q7_80 rfl
theorem qz_value : Cond.fieldLink "java/lang/String" 9 "java/lang/String" "value" "[B" ∈ LW := lw_in r_q7_81 rfl
abbrev rm_S0 : Room := { frames := 0, cells := 0, slots := 0, locals := 0 }
abbrev rm_S1 : Room := { frames := 1, cells := 0, slots := 0, locals := 25 }
abbrev rm_S2 : Room := { frames := 2, cells := 0, slots := 0, locals := 48 }
abbrev rm_S3 : Room := { frames := 3, cells := 0, slots := 0, locals := 70 }
theorem ms_coder : k_MS l yJ0_coder_7d493 prog_22_method_152_code 1 (some .byte) rm_S0 D cA b t n f [.ref b] sz (some (.int 0)) := by
  refine k_ofWS (by decide) (Nat.le_of_ble_eq_true rfl) ?_
  intro p e s m below meth c A ls hx hb hr hml hts hown hlocks hB hA hW hl hS
  have hl : lv_has ls 1 [(0, .ref b)] := hl
  refine va_gets hx hb hS.2.2.2.2 hW.2.2 hown (hts _ q4_235) (fun _ h => h) dJ0_coder_7d493_0 ?_
  refine lv_if_eq (tgt := 13) hx hb dJ0_coder_7d493_3 (by decide) (fun h => absurd h (by decide)) (fun _ => ?_)
  refine lv_aload_n hx hb dJ0_coder_7d493_6 rfl (lv_at hl 0 rfl) ?_
  refine vk_getf hx hb hS.2.1 hW.2.2 hown (hts _ qz_coder) (fun _ h => h) dJ0_coder_7d493_7 ?_
  refine lv_goto (tgt := 14) hx hb dJ0_coder_7d493_10 (by decide) ?_
  exact W.zret hx hb hr rfl (fun t ht hWm => ⟨rfl, by rw [ht]; exact hW.1, hW.2.2.F ht⟩) hW.2.2.2.2 dJ0_coder_7d493_14
theorem ms_isLatin1 : k_MS l yJ0_isLatin1_aae02 prog_22_method_154_code 1 (some .boolean) rm_S0 D cA b t n f [.ref b] sz (some (.int 1)) := by
  refine k_ofWS (by decide) (Nat.le_of_ble_eq_true rfl) ?_
  intro p e s m below meth c A ls hx hb hr hml hts hown hlocks hB hA hW hl hS
  have hl : lv_has ls 1 [(0, .ref b)] := hl
  refine va_gets hx hb hS.2.2.2.2 hW.2.2 hown (hts _ q4_235) (fun _ h => h) dJ0_isLatin1_aae02_0 ?_
  refine lv_if_eq (tgt := 17) hx hb dJ0_isLatin1_aae02_3 (by decide) (fun h => absurd h (by decide)) (fun _ => ?_)
  refine lv_aload_n hx hb dJ0_isLatin1_aae02_6 rfl (lv_at hl 0 rfl) ?_
  refine vk_getf hx hb hS.2.1 hW.2.2 hown (hts _ qz_coder) (fun _ h => h) dJ0_isLatin1_aae02_7 ?_
  refine lv_if_ne (tgt := 17) hx hb dJ0_isLatin1_aae02_10 (by decide) (fun h => absurd rfl h) (fun _ => ?_)
  refine lv_iconst (v := 1) hx hb dJ0_isLatin1_aae02_13 (by decide) ?_
  refine lv_goto (tgt := 18) hx hb dJ0_isLatin1_aae02_14 (by decide) ?_
  exact W.zret hx hb hr rfl (fun t ht hWm => ⟨rfl, by rw [ht]; exact hW.1, hW.2.2.F ht⟩) hW.2.2.2.2 dJ0_isLatin1_aae02_18
theorem pd_coder : k_D1 yJ0_coder_7d493 0 := by decide +kernel
theorem pd_isLatin1 : k_D1 yJ0_isLatin1_aae02 0 := by decide +kernel
theorem pd_length : k_D1 yJ0_length_8abf5 0 := by decide +kernel
theorem pd_indexOf2 : k_D1 yJ0_indexOf_7cf53 2 := by decide +kernel
theorem pd_indexOf1 : k_D1 yJ0_indexOf_0f7a4 1 := by decide +kernel
theorem pd_indexOf4 : k_D1 yJ1_indexOf_4cfef 4 := by decide +kernel
theorem pd_indexOfChar : k_D1 yJ1_indexOfChar_4cfef 4 := by decide +kernel
theorem ms_length (hn : nI n >>> ((0 : Int32) &&& 31) = nI n) : k_MS l yJ0_length_8abf5 prog_22_method_54_code 1 (some .int) rm_S1 D cA b t n f [.ref b] sz (some (.int (nI n))) := by
  refine k_ofWS (by decide) (Nat.le_of_ble_eq_true rfl) ?_
  intro p e s m below meth c A ls hx hb hr hml hts hown hlocks hB hA hW hl hS
  have hl : lv_has ls 1 [(0, .ref b)] := hl
  refine lv_aload_n hx hb dJ0_length_8abf5_0 rfl (lv_at hl 0 rfl) ?_
  refine vk_getf hx hb hS.2.2.1 hW.2.2 hown (hts _ qz_value) (fun _ h => h) dJ0_length_8abf5_1 ?_
  refine va_tlen hx hb hS.2.2.2.1 hW.2.2 (v := nI n) rfl dJ0_length_8abf5_4 ?_
  refine lv_aload_n hx hb dJ0_length_8abf5_5 rfl (lv_at hl 0 rfl) ?_
  refine k_callVS (As := []) (rest := [.int (nI n)]) (ms_coder l D cA _ b t n f) hx hb hml hown hts hB hA hW hl.1 hS q5_4 q1_21 q5_2 q5_3 q5_1 pd_coder ⟨rfl, rfl, Nat.le_of_ble_eq_true rfl, Nat.le_of_ble_eq_true rfl⟩ rfl rfl (Nat.le_of_ble_eq_true rfl) ⟨Nat.zero_le _, Nat.zero_le _⟩ dJ0_length_8abf5_6 (st1 := [.int 0, .int (nI n)]) rfl (fun H locs hW => ?_)
  refine lv_ishr hx hb dJ0_length_8abf5_9 ?_
  rw [hn]
  exact W.iret hx hb hr (fun t ht hWm => ⟨rfl, by rw [ht]; exact hW.1, hW.2.2.F ht⟩) hW.2.2.2.2 dJ0_length_8abf5_10
end KSM
/-- the first place from j on where the byte stands, k places looked at -/
def k_ix (f : Nat → Int32) (v : Int32) : Nat → Nat → Int32
  | 0, _ => -1
  | k + 1, j => if f j = v then nI j else k_ix f v k (j + 1)
def k_IX (f : Nat → Int32) (n : Nat) (v : Int32) : Int32 := if v < 0 then -1 else if 255 < v then -1 else k_ix f v.toInt8.toInt32 n 0
section KSN
variable (l : Launch) (D : va_G) (cA : Nat → ClassId) (sz b t n : Nat) (f : Nat → Int32)
theorem ms_indexOfChar (v : Int32) (hn : n < 2 ^ 31) : k_MS l yJ1_indexOfChar_4cfef prog_23_method_23_code 6 (some .int) rm_S0 D cA b t n f [.ref t, .int v, .int 0, .int (nI n)] sz (some (.int (k_ix f v.toInt8.toInt32 n 0))) := by
  refine k_ofWS (by decide) (Nat.le_of_ble_eq_true rfl) ?_
  intro p e s m below meth c A ls hx hb hr hml hts hown hlocks hB hA hW hl hS
  have hl : lv_has ls 6 [(0, .ref t), (1, .int v), (2, .int 0), (3, .int (nI n))] := hl
  obtain ⟨H, eH⟩ : ∃ H, H = s.heap := ⟨_, rfl⟩
  obtain ⟨locs, eL⟩ : ∃ L : List Loc, L = [] := ⟨_, rfl⟩
  have hW : k_Wd D A s.heap [] H locs := by rw [eH, eL]; exact hW
  suffices K : W p l e rm_S0 s m [.ref t, .int v, .int 0, .int (nI n)].toArray below meth c H locs 0 0 (MQ below (k_Q (some (.int (k_ix f v.toInt8.toInt32 n 0))) D [] A) [.ref t, .int v, .int 0, .int (nI n)].toArray s 0 0 A) (F0 m 0 ls []) by rw [eH, eL] at K; exact K
  clear eH eL
  obtain ⟨r, er⟩ : ∃ r, r = k_ix f v.toInt8.toInt32 n 0 := ⟨_, rfl⟩
  rw [← er]
  have J7 : ∀ (k j : Nat) (ls : Array Slot), k + j = n → lv_has ls 6 [(0, .ref t), (3, .int (nI n)), (4, .int v.toInt8.toInt32), (5, .int (nI j))] → r = k_ix f v.toInt8.toInt32 k j → W p l e rm_S0 s m [.ref t, .int v, .int 0, .int (nI n)].toArray below meth c H locs 0 0 (MQ below (k_Q (some (.int r)) D [] A) [.ref t, .int v, .int 0, .int (nI n)].toArray s 0 0 A) (F0 m 7 ls []) := by
    intro k
    induction k with
    | zero =>
      intro j ls hj hl hr1
      refine lv_iload hx hb dJ1_indexOfChar_4cfef_7 (lv_at hl 3 rfl) ?_
      refine lv_iload_n hx hb dJ1_indexOfChar_4cfef_9 rfl (lv_at hl 1 rfl) ?_
      refine lv_icmp_ge (tgt := 31) hx hb dJ1_indexOfChar_4cfef_10 (by decide) (fun _ => ?_) (fun h => absurd (nI_le (by omega) (by omega)) h)
      refine lv_iconst (v := -1) hx hb dJ1_indexOfChar_4cfef_31 (by decide) ?_
      rw [hr1]
      exact W.iret hx hb hr (fun t ht hWm => ⟨rfl, by rw [ht]; exact hW.1, hW.2.2.F ht⟩) hW.2.2.2.2 dJ1_indexOfChar_4cfef_32
    | succ k ih =>
      intro j ls hj hl hr1
      refine lv_iload hx hb dJ1_indexOfChar_4cfef_7 (lv_at hl 3 rfl) ?_
      refine lv_iload_n hx hb dJ1_indexOfChar_4cfef_9 rfl (lv_at hl 1 rfl) ?_
      refine lv_icmp_ge (tgt := 31) hx hb dJ1_indexOfChar_4cfef_10 (by decide) (fun h => absurd h (nI_ge (by omega) (by omega))) (fun _ => ?_)
      refine lv_aload_n hx hb dJ1_indexOfChar_4cfef_13 rfl (lv_at hl 0 rfl) ?_
      refine lv_iload hx hb dJ1_indexOfChar_4cfef_14 (lv_at hl 3 rfl) ?_
      refine va_tb hx hb hS.2.2.2.1 hW.2.2 (vp_in_nI (by omega) hn) (v := .int (f j)) (by rw [nI_clamp (by omega)]) dJ1_indexOfChar_4cfef_16 ?_
      refine lv_iload hx hb dJ1_indexOfChar_4cfef_17 (lv_at hl 2 rfl) ?_
      refine lv_icmp_ne (tgt := 25) hx hb dJ1_indexOfChar_4cfef_19 (by decide) (fun h => ?_) (fun h => ?_)
      · refine lv_iinc (v := nI (j + 1)) (lv' := [(5, .int (nI (j + 1))), (0, .ref t), (3, .int (nI n)), (4, .int v.toInt8.toInt32)]) hx hb dJ1_indexOfChar_4cfef_25 hl (k := 3) rfl (nI_1 j) (by decide) rfl (fun ls hl => ?_)
        refine lv_goto (tgt := 7) hx hb dJ1_indexOfChar_4cfef_28 (by decide) ?_
        refine ih (j + 1) ls (by omega) (lv_sub hl [1, 2, 3, 0] rfl) ?_
        rw [hr1]
        exact if_neg h
      · refine lv_iload hx hb dJ1_indexOfChar_4cfef_22 (lv_at hl 3 rfl) ?_
        have e1 : r = nI j := hr1.trans (if_pos h)
        rw [e1]
        exact W.iret hx hb hr (fun t ht hWm => ⟨rfl, by rw [ht]; exact hW.1, hW.2.2.F ht⟩) hW.2.2.2.2 dJ1_indexOfChar_4cfef_24
  refine lv_iload_n hx hb dJ1_indexOfChar_4cfef_0 rfl (lv_at hl 1 rfl) ?_
  refine lv_i2b hx hb dJ1_indexOfChar_4cfef_1 rfl ?_
  refine lv_istore (lv' := [(4, .int v.toInt8.toInt32), (0, .ref t), (1, .int v), (2, .int 0), (3, .int (nI n))]) hx hb dJ1_indexOfChar_4cfef_2 hl (by decide) rfl (fun ls hl => ?_)
  refine lv_iload_n hx hb dJ1_indexOfChar_4cfef_4 rfl (lv_at hl 3 rfl) ?_
  refine lv_istore (lv' := [(5, .int 0), (4, .int v.toInt8.toInt32), (0, .ref t), (1, .int v), (2, .int 0), (3, .int (nI n))]) hx hb dJ1_indexOfChar_4cfef_5 hl (by decide) rfl (fun ls hl => ?_)
  exact J7 n 0 ls (by omega) (lv_sub hl [2, 5, 1, 0] rfl) er
theorem ms_canEncode (v : Int32) : k_MS l yJ1_canEncode_9a6ad prog_23_method_4_code 1 (some .boolean) rm_S0 D cA b t n f [.int v] sz (some (.int (if v < 0 then 0 else if 255 < v then 0 else 1))) := by
  refine k_ofWS (by decide) (Nat.le_of_ble_eq_true rfl) ?_
  intro p e s m below meth c A ls hx hb hr hml hts hown hlocks hB hA hW hl hS
  have hl : lv_has ls 1 [(0, .int v)] := hl
  refine lv_iload_n hx hb dJ1_canEncode_9a6ad_0 rfl (lv_at hl 0 rfl) ?_
  refine lv_if_lt (tgt := 15) hx hb dJ1_canEncode_9a6ad_1 (by decide) (fun h => ?_) (fun h => ?_)
  · rw [if_pos h]
    refine lv_iconst (v := 0) hx hb dJ1_canEncode_9a6ad_15 (by decide) ?_
    exact W.zret hx hb hr rfl (fun t ht hWm => ⟨rfl, by rw [ht]; exact hW.1, hW.2.2.F ht⟩) hW.2.2.2.2 dJ1_canEncode_9a6ad_16
  · rw [if_neg h]
    refine lv_iload_n hx hb dJ1_canEncode_9a6ad_4 rfl (lv_at hl 0 rfl) ?_
    refine lv_sipush (v := 255) hx hb dJ1_canEncode_9a6ad_5 (by decide) ?_
    refine lv_icmp_gt (tgt := 15) hx hb dJ1_canEncode_9a6ad_8 (by decide) (fun h => ?_) (fun h => ?_)
    · rw [if_pos h]
      refine lv_iconst (v := 0) hx hb dJ1_canEncode_9a6ad_15 (by decide) ?_
      exact W.zret hx hb hr rfl (fun t ht hWm => ⟨rfl, by rw [ht]; exact hW.1, hW.2.2.F ht⟩) hW.2.2.2.2 dJ1_canEncode_9a6ad_16
    · rw [if_neg h]
      refine lv_iconst (v := 1) hx hb dJ1_canEncode_9a6ad_11 (by decide) ?_
      refine lv_goto (tgt := 16) hx hb dJ1_canEncode_9a6ad_12 (by decide) ?_
      exact W.zret hx hb hr rfl (fun t ht hWm => ⟨rfl, by rw [ht]; exact hW.1, hW.2.2.F ht⟩) hW.2.2.2.2 dJ1_canEncode_9a6ad_16
theorem pd_canEncode : k_D1 yJ1_canEncode_9a6ad 1 := by decide +kernel
theorem ms_indexOf4 (v : Int32) (hn0 : 0 < n) (hn : n < 2 ^ 31) : k_MS l yJ1_indexOf_4cfef prog_23_method_22_code 4 (some .int) rm_S1 D cA b t n f [.ref t, .int v, .int 0, .int (nI n)] sz (some (.int (k_IX f n v))) := by
  refine k_ofWS (by decide) (Nat.le_of_ble_eq_true rfl) ?_
  intro p e s m below meth c A ls hx hb hr hml hts hown hlocks hB hA hW hl hS
  have hl : lv_has ls 4 [(0, .ref t), (1, .int v), (2, .int 0), (3, .int (nI n))] := hl
  refine lv_iload_n hx hb dJ1_indexOf_4cfef_0 rfl (lv_at hl 1 rfl) ?_
  refine k_callSS (As := [.int v]) (rest := []) (ms_canEncode l D cA _ b t n f v) hx hb hml hown hts hB hA hW hl.1 hS q5_10 q1_22 q5_9 q5_8 pd_canEncode ⟨rfl, rfl, Nat.le_of_ble_eq_true rfl, Nat.le_of_ble_eq_true rfl⟩ rfl rfl (Nat.le_of_ble_eq_true rfl) ⟨Nat.zero_le _, Nat.zero_le _⟩ dJ1_indexOf_4cfef_1 (st1 := [.int (if v < 0 then 0 else if 255 < v then 0 else 1)]) rfl (fun H locs hW => ?_)
  by_cases h1 : v < 0
  · rw [if_pos h1]
    refine lv_if_ne (tgt := 9) hx hb dJ1_indexOf_4cfef_4 (by decide) (fun h => absurd rfl h) (fun _ => ?_)
    refine lv_iconst (v := -1) hx hb dJ1_indexOf_4cfef_7 (by decide) ?_
    have e1 : k_IX f n v = -1 := if_pos h1
    rw [e1]
    exact W.iret hx hb hr (fun t ht hWm => ⟨rfl, by rw [ht]; exact hW.1, hW.2.2.F ht⟩) hW.2.2.2.2 dJ1_indexOf_4cfef_8
  · rw [if_neg h1]
    by_cases h2 : 255 < v
    · rw [if_pos h2]
      refine lv_if_ne (tgt := 9) hx hb dJ1_indexOf_4cfef_4 (by decide) (fun h => absurd rfl h) (fun _ => ?_)
      refine lv_iconst (v := -1) hx hb dJ1_indexOf_4cfef_7 (by decide) ?_
      have e1 : k_IX f n v = -1 := (if_neg h1).trans (if_pos h2)
      rw [e1]
      exact W.iret hx hb hr (fun t ht hWm => ⟨rfl, by rw [ht]; exact hW.1, hW.2.2.F ht⟩) hW.2.2.2.2 dJ1_indexOf_4cfef_8
    · rw [if_neg h2]
      have e1 : k_IX f n v = k_ix f v.toInt8.toInt32 n 0 := (if_neg h1).trans (if_neg h2)
      rw [e1]
      refine lv_if_ne (tgt := 9) hx hb dJ1_indexOf_4cfef_4 (by decide) (fun _ => ?_) (fun h => absurd h (by decide))
      refine lv_iload_n hx hb dJ1_indexOf_4cfef_9 rfl (lv_at hl 2 rfl) ?_
      refine lv_iconst (v := 0) hx hb dJ1_indexOf_4cfef_10 (by decide) ?_
      refine va_mmax hx hb (hml.trans hl.1.symm) hown (hts _ q5_11) (hts _ q5_12) (hts _ q1_18) (hts _ q5_13) (Nat.le_of_ble_eq_true rfl) (Nat.le_of_ble_eq_true rfl) (Nat.zero_le _) (Nat.zero_le _) dJ1_indexOf_4cfef_11 ?_
      rw [if_neg (show ¬ (0 : Int32) < 0 by decide)]
      refine lv_istore_n (lv' := [(2, .int 0), (0, .ref t), (1, .int v), (3, .int (nI n))]) hx hb dJ1_indexOf_4cfef_14 rfl hl (by decide) rfl (fun ls hl => ?_)
      refine lv_iload_n hx hb dJ1_indexOf_4cfef_15 rfl (lv_at hl 3 rfl) ?_
      refine lv_aload_n hx hb dJ1_indexOf_4cfef_16 rfl (lv_at hl 1 rfl) ?_
      refine va_tlen hx hb hS.2.2.2.1 hW.2.2 (v := nI n) rfl dJ1_indexOf_4cfef_17 ?_
      refine va_mmin hx hb (hml.trans hl.1.symm) hown (hts _ q5_14) (hts _ q2_47) (hts _ q1_18) (hts _ q2_48) (Nat.le_of_ble_eq_true rfl) (Nat.le_of_ble_eq_true rfl) (Nat.zero_le _) (Nat.zero_le _) dJ1_indexOf_4cfef_18 ?_
      rw [if_neg (show ¬ nI n < nI n from nI_nlt (Nat.le_refl _) hn)]
      refine lv_istore_n (lv' := [(3, .int (nI n)), (2, .int 0), (0, .ref t), (1, .int v)]) hx hb dJ1_indexOf_4cfef_21 rfl hl (by decide) rfl (fun ls hl => ?_)
      refine lv_iload_n hx hb dJ1_indexOf_4cfef_22 rfl (lv_at hl 1 rfl) ?_
      refine lv_iload_n hx hb dJ1_indexOf_4cfef_23 rfl (lv_at hl 0 rfl) ?_
      refine lv_icmp_lt (tgt := 29) hx hb dJ1_indexOf_4cfef_24 (by decide) (fun _ => ?_) (fun h => absurd (show (0 : Int32) < nI n from nI_0 ▸ nI_lt hn0 hn) h)
      refine lv_aload_n hx hb dJ1_indexOf_4cfef_29 rfl (lv_at hl 2 rfl) ?_
      refine lv_iload_n hx hb dJ1_indexOf_4cfef_30 rfl (lv_at hl 3 rfl) ?_
      refine lv_iload_n hx hb dJ1_indexOf_4cfef_31 rfl (lv_at hl 1 rfl) ?_
      refine lv_iload_n hx hb dJ1_indexOf_4cfef_32 rfl (lv_at hl 0 rfl) ?_
      refine k_callSS (As := [.ref t, .int v, .int 0, .int (nI n)]) (rest := []) (ms_indexOfChar l D cA _ b t n f v hn) hx hb hml hown hts hB hA hW hl.1 hS q5_17 q1_22 q5_16 q5_15 pd_indexOfChar ⟨rfl, rfl, Nat.le_of_ble_eq_true rfl, Nat.le_of_ble_eq_true rfl⟩ rfl rfl (Nat.le_of_ble_eq_true rfl) ⟨Nat.zero_le _, Nat.zero_le _⟩ dJ1_indexOf_4cfef_33 (st1 := [.int (k_ix f v.toInt8.toInt32 n 0)]) rfl (fun H locs hW => ?_)
      exact W.iret hx hb hr (fun t ht hWm => ⟨rfl, by rw [ht]; exact hW.1, hW.2.2.F ht⟩) hW.2.2.2.2 dJ1_indexOf_4cfef_36
theorem ms_indexOf2 (v : Int32) (hn0 : 0 < n) (hn : n < 2 ^ 31) : k_MS l yJ0_indexOf_7cf53 prog_22_method_80_code 3 (some .int) rm_S2 D cA b t n f [.ref b, .int v, .int 0] sz (some (.int (k_IX f n v))) := by
  refine k_ofWS (by decide) (Nat.le_of_ble_eq_true rfl) ?_
  intro p e s m below meth c A ls hx hb hr hml hts hown hlocks hB hA hW hl hS
  have hl : lv_has ls 3 [(0, .ref b), (1, .int v), (2, .int 0)] := hl
  refine lv_aload_n hx hb dJ0_indexOf_7cf53_0 rfl (lv_at hl 0 rfl) ?_
  refine k_callVS (As := []) (rest := []) (ms_isLatin1 l D cA _ b t n f) hx hb hml hown hts hB hA hW hl.1 hS q4_234 q1_21 q4_232 q4_233 q4_231 pd_isLatin1 ⟨rfl, rfl, Nat.le_of_ble_eq_true rfl, Nat.le_of_ble_eq_true rfl⟩ rfl rfl (Nat.le_of_ble_eq_true rfl) ⟨Nat.zero_le _, Nat.zero_le _⟩ dJ0_indexOf_7cf53_1 (st1 := [.int 1]) rfl (fun H locs hW => ?_)
  refine lv_if_eq (tgt := 23) hx hb dJ0_indexOf_7cf53_4 (by decide) (fun h => absurd h (by decide)) (fun _ => ?_)
  refine lv_aload_n hx hb dJ0_indexOf_7cf53_7 rfl (lv_at hl 0 rfl) ?_
  refine vk_getf hx hb hS.2.2.1 hW.2.2 hown (hts _ qz_value) (fun _ h => h) dJ0_indexOf_7cf53_8 ?_
  refine lv_iload_n hx hb dJ0_indexOf_7cf53_11 rfl (lv_at hl 1 rfl) ?_
  refine lv_iload_n hx hb dJ0_indexOf_7cf53_12 rfl (lv_at hl 2 rfl) ?_
  refine lv_aload_n hx hb dJ0_indexOf_7cf53_13 rfl (lv_at hl 0 rfl) ?_
  refine k_callVS (As := []) (rest := [.int 0, .int v, .ref t]) (ms_length l D cA _ b t n f (sc_shr0 hn)) hx hb hml hown hts hB hA hW hl.1 hS q5_0 q1_21 q4_238 q4_239 q4_237 pd_length ⟨rfl, rfl, Nat.le_of_ble_eq_true rfl, Nat.le_of_ble_eq_true rfl⟩ rfl rfl (Nat.le_of_ble_eq_true rfl) ⟨Nat.zero_le _, Nat.zero_le _⟩ dJ0_indexOf_7cf53_14 (st1 := [.int (nI n), .int 0, .int v, .ref t]) rfl (fun H locs hW => ?_)
  refine k_callSS (As := [.ref t, .int v, .int 0, .int (nI n)]) (rest := []) (ms_indexOf4 l D cA _ b t n f v hn0 hn) hx hb hml hown hts hB hA hW hl.1 hS q5_7 q1_22 q5_6 q5_5 pd_indexOf4 ⟨rfl, rfl, Nat.le_of_ble_eq_true rfl, Nat.le_of_ble_eq_true rfl⟩ rfl rfl (Nat.le_of_ble_eq_true rfl) ⟨Nat.zero_le _, Nat.zero_le _⟩ dJ0_indexOf_7cf53_17 (st1 := [.int (k_IX f n v)]) rfl (fun H locs hW => ?_)
  refine lv_goto (tgt := 36) hx hb dJ0_indexOf_7cf53_20 (by decide) ?_
  exact W.iret hx hb hr (fun t ht hWm => ⟨rfl, by rw [ht]; exact hW.1, hW.2.2.F ht⟩) hW.2.2.2.2 dJ0_indexOf_7cf53_36
theorem ms_indexOf1 (v : Int32) (hn0 : 0 < n) (hn : n < 2 ^ 31) : k_MS l yJ0_indexOf_0f7a4 prog_22_method_79_code 2 (some .int) rm_S3 D cA b t n f [.ref b, .int v] sz (some (.int (k_IX f n v))) := by
  refine k_ofWS (by decide) (Nat.le_of_ble_eq_true rfl) ?_
  intro p e s m below meth c A ls hx hb hr hml hts hown hlocks hB hA hW hl hS
  have hl : lv_has ls 2 [(0, .ref b), (1, .int v)] := hl
  refine lv_aload_n hx hb dJ0_indexOf_0f7a4_0 rfl (lv_at hl 0 rfl) ?_
  refine lv_iload_n hx hb dJ0_indexOf_0f7a4_1 rfl (lv_at hl 1 rfl) ?_
  refine lv_iconst (v := 0) hx hb dJ0_indexOf_0f7a4_2 (by decide) ?_
  refine k_callVS (As := [.int v, .int 0]) (rest := []) (ms_indexOf2 l D cA _ b t n f v hn0 hn) hx hb hml hown hts hB hA hW hl.1 hS q4_230 q1_21 q4_228 q4_229 q4_227 pd_indexOf2 ⟨rfl, rfl, Nat.le_of_ble_eq_true rfl, Nat.le_of_ble_eq_true rfl⟩ rfl rfl (Nat.le_of_ble_eq_true rfl) ⟨Nat.zero_le _, Nat.zero_le _⟩ dJ0_indexOf_0f7a4_3 (st1 := [.int (k_IX f n v)]) rfl (fun H locs hW => ?_)
  exact W.iret hx hb hr (fun t ht hWm => ⟨rfl, by rw [ht]; exact hW.1, hW.2.2.F ht⟩) hW.2.2.2.2 dJ0_indexOf_0f7a4_6
end KSN
/-- the two texts -/
def k_f0 (j : Nat) : Int32 := ([107, 103, 118, 102, 112] : List Int32).getD j 0
def k_f1 (j : Nat) : Int32 := ([60, 61, 62] : List Int32).getD j 0
def k_ST (A : Nat → Prop) (U : State) (H : Heap) : Prop := ∃ b0 t0 b1 t1 : Nat, (vk_R "ViewMaintainer$FilterReader" 67 "kgvfp" b0 U ∧ k_Sx b0 t0 5 k_f0 A U H) ∧ vk_R "ViewMaintainer$FilterReader" 75 "<=>" b1 U ∧ k_Sx b1 t1 3 k_f1 A U H
theorem k_ST.warm {A : Nat → Prop} {s U : State} {H : Heap} (hW : s.WarmedH U.vm) (h : k_ST A s H) : k_ST A U H := by
  obtain ⟨b0, t0, b1, t1, ⟨h1, h2⟩, h3, h4⟩ := h
  exact ⟨b0, t0, b1, t1, ⟨h1.warm hW, h2.moved hW.alike⟩, h3.warm hW, h4.moved hW.alike⟩
theorem k_ST.call {A : Nat → Prop} {U : State} {H : Heap} {g : JFrame} {mk : MethodId} {a : Array Value} (h : k_ST A U H) : k_ST A (U.calling g mk a) H := by
  obtain ⟨b0, t0, b1, t1, ⟨h1, h2⟩, h3, h4⟩ := h
  exact ⟨b0, t0, b1, t1, ⟨h1.same rfl, k_Sx.moved (u := U) (U := U.calling g mk a) (Vm.Alike.refl U.vm) h2⟩, h3.same rfl, k_Sx.moved (u := U) (U := U.calling g mk a) (Vm.Alike.refl U.vm) h4⟩
theorem k_ST.kept {A : Nat → Prop} {U : State} {H H1 : Heap} (h : k_ST A U H) (hq : ∀ a : Nat, a < H.size → ¬ A a → H1[a]? = H[a]?) : k_ST A U H1 := by
  obtain ⟨b0, t0, b1, t1, ⟨h1, h2⟩, h3, h4⟩ := h
  exact ⟨b0, t0, b1, t1, ⟨h1, h2.kept hq⟩, h3, h4.kept hq⟩
theorem k_ST.narrow {A B : Nat → Prop} {U : State} {H : Heap} (h : k_ST A U H) (hAB : ∀ q, B q → A q) : k_ST B U H := by
  obtain ⟨b0, t0, b1, t1, ⟨h1, h2⟩, h3, h4⟩ := h
  exact ⟨b0, t0, b1, t1, ⟨h1, h2.narrow hAB⟩, h3, h4.narrow hAB⟩
