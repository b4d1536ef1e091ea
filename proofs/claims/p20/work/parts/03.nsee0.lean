-- NoSuchElementException's constructor of a text passes it on by another pool number (13) than its neighbours' (7): its words, and 'throw new' of it
abbrev nx_N : String := "java/util/NoSuchElementException"
abbrev nx_code : ByteArray := prog_17_method_4_code
def nx_own (own : String) (ic : Nat) : List Cond :=
  Bundle.throwableAtoms ++ Bundle.throwableSAtoms ++ (Bundle.passSAtoms nx_N "java/lang/RuntimeException" 13 nx_code ++ Bundle.chainSAtoms "java/lang/RuntimeException" ["java/lang/Exception"]) ++
  [.methodLink own ic (Bundle.initS nx_N), .instantiable nx_N 6, .castable nx_N nx_N, .selects nx_N Bundle.tFill0 Bundle.tFill0, .selects nx_N Bundle.tFill Bundle.tFill,
   .lays nx_N Bundle.tN "cause" "Ljava/lang/Throwable;", .lays nx_N Bundle.tN "stackTrace" Bundle.steD, .lays nx_N Bundle.tN "suppressedExceptions" Bundle.listD, .lays nx_N Bundle.tN "detailMessage" "Ljava/lang/String;",
   .isRef (.static Bundle.tN "UNASSIGNED_STACK" Bundle.steD), .isRef (.static Bundle.tN "SUPPRESSED_SENTINEL" Bundle.listD),
   .fieldLink Bundle.tN 198 Bundle.tN "backtrace" "Ljava/lang/Object;", .lays Bundle.tN Bundle.tN "backtrace" "Ljava/lang/Object;", .lays nx_N Bundle.tN "backtrace" "Ljava/lang/Object;"]
def nx_at (own : String) (ic : Nat) : List Cond := (nx_own own ic).filter vx_no
theorem nx_in : ∀ w ∈ (nx_at "Dimfacts" 157).filter goodWord, w ∈ lw_tbl := by decide +kernel
