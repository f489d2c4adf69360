/-! java.util.NoSuchElementException: its constructor of a String links its super by 13 -/
abbrev n13 : String := "java/util/NoSuchElementException"
abbrev b13 : ByteArray := prog_26_method_4_code
def pass13 : List Cond := Bundle.passSAtoms n13 "java/lang/RuntimeException" 13 b13
def bad13 : List Cond := [.code (Bundle.initS n13) Bundle.six 2 none, .methodLink n13 7 (Bundle.initS "java/lang/RuntimeException")]
def at13 : List Cond := pass13 ++ (Bundle.ownAtoms RX6 330 n13 x_nms).filter (fun w => decide (w ∉ bad13))
theorem b13_0 : decode b13 0 = .ok (.aload_n 0, 1) := by decide +kernel
theorem b13_1 : decode b13 1 = .ok (.aload_n 1, 1) := by decide +kernel
theorem b13_2 : decode b13 2 = .ok (.invokespecial 13, 3) := by decide +kernel
theorem b13_5 : decode b13 5 = .ok (.return_, 1) := by decide +kernel
set_option maxRecDepth 100000 in
theorem at13_a : ∀ w ∈ Bundle.throwableAtoms ++ (Bundle.throwableSAtoms ++ (pass13 ++ Bundle.chainSAtoms "java/lang/RuntimeException" ["java/lang/Exception"])), w ∈ at13 := by decide +kernel
set_option maxRecDepth 100000 in
theorem at13_b : ∀ w ∈ (Bundle.ownAtoms RX6 330 n13 []).filter (fun w => decide (w ∉ Bundle.passSAtoms n13 Bundle.tN 7 Bundle.six)), w ∈ at13 := by decide +kernel
