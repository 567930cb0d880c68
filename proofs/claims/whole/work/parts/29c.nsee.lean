/-! the throw of columns: NoSuchElementException hands its text on by another pool entry than the library's chains have -/
section Ns
abbrev nsC : String := "java/util/NoSuchElementException"
abbrev nsR : String := "java/lang/RuntimeException"
def by13 : ByteArray := ⟨#[0x2a, 0x2b, 0xb7, 0x00, 0x0d, 0xb1]⟩
def nsA : List Cond := Bundle.throwableAtoms ++ Bundle.throwableSAtoms ++ (Bundle.passSAtoms nsC nsR 13 by13 ++ Bundle.chainSAtoms nsR ["java/lang/Exception"]) ++
  [.methodLink "ChaseHall" 261 (Bundle.initS nsC), .instantiable nsC 6, .castable nsC nsC, .selects nsC Bundle.tFill0 Bundle.tFill0, .selects nsC Bundle.tFill Bundle.tFill,
   .lays nsC Bundle.tN "cause" "Ljava/lang/Throwable;", .lays nsC Bundle.tN "stackTrace" Bundle.steD, .lays nsC Bundle.tN "suppressedExceptions" Bundle.listD, .lays nsC Bundle.tN "detailMessage" "Ljava/lang/String;",
   .isRef (.static Bundle.tN "UNASSIGNED_STACK" Bundle.steD), .isRef (.static Bundle.tN "SUPPRESSED_SENTINEL" Bundle.listD),
   .fieldLink Bundle.tN 198 Bundle.tN "backtrace" "Ljava/lang/Object;", .lays Bundle.tN Bundle.tN "backtrace" "Ljava/lang/Object;", .lays nsC Bundle.tN "backtrace" "Ljava/lang/Object;"]
theorem nsA_in : (nsA.filter vx_no).all (fun w => decide (w ∈ lw_tbl) && (goodWord w || decide (w ∈ zwL)) && vx_ot w) = true := by decide +kernel
end Ns
