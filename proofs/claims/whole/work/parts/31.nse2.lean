/-! 'throw new NoSuchElementException(text)': the library's road for own throws (Stand.ctorThrowS) with the constructor's own link number, 13; what the new object holds isn't told here. -/
abbrev ns_C : String := "java/util/NoSuchElementException"
def ns_at (own : String) (ic : Nat) : List Cond :=
  Bundle.throwableAtoms ++ Bundle.throwableSAtoms ++ (Bundle.passSAtoms ns_C "java/lang/RuntimeException" 13 prog_30_method_4_code ++ Bundle.chainSAtoms "java/lang/RuntimeException" ["java/lang/Exception"]) ++
  [.methodLink own ic (Bundle.initS ns_C), .instantiable ns_C 6, .castable ns_C ns_C, .selects ns_C Bundle.tFill0 Bundle.tFill0, .selects ns_C Bundle.tFill Bundle.tFill,
   .lays ns_C Bundle.tN "cause" "Ljava/lang/Throwable;", .lays ns_C Bundle.tN "stackTrace" Bundle.steD, .lays ns_C Bundle.tN "suppressedExceptions" Bundle.listD, .lays ns_C Bundle.tN "detailMessage" "Ljava/lang/String;",
   .isRef (.static Bundle.tN "UNASSIGNED_STACK" Bundle.steD), .isRef (.static Bundle.tN "SUPPRESSED_SENTINEL" Bundle.listD),
   .fieldLink Bundle.tN 198 Bundle.tN "backtrace" "Ljava/lang/Object;", .lays Bundle.tN Bundle.tN "backtrace" "Ljava/lang/Object;", .lays ns_C Bundle.tN "backtrace" "Ljava/lang/Object;"]
theorem ns_0 : decode prog_30_method_4_code 0 = .ok (.aload_n 0, 1) := by decide +kernel
theorem ns_1 : decode prog_30_method_4_code 1 = .ok (.aload_n 1, 1) := by decide +kernel
theorem ns_2 : decode prog_30_method_4_code 2 = .ok (.invokespecial 13, 3) := by decide +kernel
theorem ns_5 : decode prog_30_method_4_code 5 = .ok (.return_, 1) := by decide +kernel
theorem ns_chain {args : Array Value} {s : State} {pl : Platform} (hpl : pl.magicAccessors = ({} : Platform).magicAccessors) {top : MethodId} (htop : s.methodNamed? (Bundle.initS Bundle.tN) = some top) (h1 : ∀ c ∈ Bundle.passSAtoms ns_C "java/lang/RuntimeException" 13 prog_30_method_4_code, c.before args s = true) (h2 : ∀ c ∈ Bundle.chainSAtoms "java/lang/RuntimeException" ["java/lang/Exception"], c.before args s = true) :
    ∃ (P1 : PassC) (Ps : List PassC), Ps.length = 2 ∧ P1.LinksS pl s ∧ (∀ P, P ∈ Ps → P.LinksS pl s) ∧ s.methodNamed? (Bundle.initS ns_C) = some P1.m ∧ P1.sup = firstOf top (Ps.map (·.toPassT)) ∧ PassesOn top (Ps.map (·.toPassT)) := by
  obtain ⟨P, L, hm, hs⟩ := PassC.ofS_atoms (args := args) (s := s) hpl (X := ns_C) (Y := "java/lang/RuntimeException") (by decide) (by decide) ns_0 ns_1 ns_2 ns_5 h1
  obtain ⟨P', Ps, hlen, L', hL, hm', hsup, hpass⟩ := Bundle.chainS (args := args) hpl htop ["java/lang/Exception"] "java/lang/RuntimeException" (by decide) (by decide) h2
  refine ⟨P, P' :: Ps, by simp [hlen], L, ?_, hm, Option.some.inj (hs.symm.trans hm'), hsup, hpass⟩
  intro Q hQ
  rcases List.mem_cons.mp hQ with rfl | hQ
  · exact L'
  · exact hL Q hQ
theorem ns_tbl : ∀ w ∈ (ns_at "ViewMaintainer" 218).filter vx_no, w ∈ lw_tbl ∧ (goodWord w || k_isC w) = true := by decide +kernel
