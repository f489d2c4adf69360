/-! the words; four of them follow from others: a StringBuilder selects what its superclass keeps private -/
def k3_sels : List Cond := [.selects RJ4 yJ5_ensureCapacityInternal_d00df yJ5_ensureCapacityInternal_d00df, .selects RJ4 yJ5_newCapacity_0f7a4 yJ5_newCapacity_0f7a4, .selects RJ4 yJ5_putStringAt_47b60 yJ5_putStringAt_47b60, .selects RJ4 yJ5_inflateIfNeededFor_a7421 yJ5_inflateIfNeededFor_a7421]
def xA : List Cond := k3_sels ++ lw_tbl.filter goodWord
theorem k3_good : ∀ w ∈ k3_sels, goodWord w = true := by decide +kernel
theorem xA_good : ∀ {w : Cond}, w ∈ xA → goodWord w = true := fun h => (List.mem_append.mp h).elim (k3_good _) (fun h => (List.mem_filter.mp h).2)
theorem xA_of {w : Cond} (h : w ∈ tables_1) (hg : goodWord w = true) : w ∈ xA := List.mem_append_right _ (List.mem_filter.mpr ⟨List.mem_append_right _ h, hg⟩)
theorem xA_sel {w : Cond} (h : w ∈ k2_sels lw_privs) (hg : goodWord w = true) : w ∈ xA := List.mem_append_right _ (List.mem_filter.mpr ⟨List.mem_append_left _ h, hg⟩)
theorem k3_priv {y : MethodName} {C : String} {s : State} {args : Array Value} {n : Nat} (hy : y.cls ≠ "java/lang/invoke/MethodHandle" ∧ y.cls ≠ "java/lang/invoke/VarHandle") (hins : (Cond.instantiable C n).before args s = true) (hpriv : (Cond.privateMethod y).before args s = true) (hinst : (Cond.instanceMethod y).before args s = true) (hsame : (Cond.sameMethod y.cls y.cls y.name y.desc).before args s = true) : (Cond.selects C y y).before args s = true := by
  obtain ⟨c, k, hc, -, -, -, -, -⟩ := Cond.instantiable_spec hins
  obtain ⟨cn, ck, r1, hcn, hck, hni, hf, hn1⟩ := Cond.sameMethod_found hsame
  obtain ⟨mk, methM, hnamed, hmethM, -, -⟩ := Cond.instanceMethod_spec hinst
  have hfound : s.methodFound? y.cls y.name y.desc = some mk := State.methodFound?_of_named hnamed hy
  have hcls : mk.cls = cn := Option.some.inj ((findClass_of_methodNamed hnamed).symm.trans hcn)
  have hsel : selectMethod {} s.vm c mk = .method mk := selectMethod_private hmethM (Cond.privateMethod_at hpriv mk methM hnamed hmethM)
  simp only [Cond.before, Cond.holds, Cond.value, hc, hfound, hnamed, hsel, hcls, hck]
  simp; exact hni
theorem xI1 {w : Cond} (h : w ∈ tables_1_1) (hg : goodWord w = true) : w ∈ xA := xA_of (List.mem_append_left _ h) hg
theorem xL2 {w : Cond} (h : w ∈ tables_1_2) : w ∈ lw_tbl := List.mem_append_right _ (List.mem_append_right _ (List.mem_append_left _ h))
theorem xI2 {w : Cond} (h : w ∈ tables_1_2) (hg : goodWord w = true) : w ∈ xA := xA_of (List.mem_append_right _ (List.mem_append_left _ h)) hg
theorem xL3 {w : Cond} (h : w ∈ tables_1_3) : w ∈ lw_tbl := List.mem_append_right _ (List.mem_append_right _ (List.mem_append_right _ (List.mem_append_left _ h)))
theorem xI3 {w : Cond} (h : w ∈ tables_1_3) (hg : goodWord w = true) : w ∈ xA := xA_of (List.mem_append_right _ (List.mem_append_right _ (List.mem_append_left _ h))) hg
theorem xI4 {w : Cond} (h : w ∈ tables_1_4) (hg : goodWord w = true) : w ∈ xA := xA_of (List.mem_append_right _ (List.mem_append_right _ (List.mem_append_right _ (List.mem_append_left _ h)))) hg
theorem xL5 {w : Cond} (h : w ∈ tables_1_5) : w ∈ lw_tbl := List.mem_append_right _ (List.mem_append_right _ (List.mem_append_right _ (List.mem_append_right _ (List.mem_append_right _ (List.mem_append_left _ h)))))
theorem xI5 {w : Cond} (h : w ∈ tables_1_5) (hg : goodWord w = true) : w ∈ xA := xA_of (List.mem_append_right _ (List.mem_append_right _ (List.mem_append_right _ (List.mem_append_right _ (List.mem_append_left _ h))))) hg
theorem xI6 {w : Cond} (h : w ∈ tables_1_6) (hg : goodWord w = true) : w ∈ xA := xA_of (List.mem_append_right _ (List.mem_append_right _ (List.mem_append_right _ (List.mem_append_right _ (List.mem_append_right _ (h)))))) hg
theorem xA_hts {s : State} {args : Array Value} (hts : ∀ w ∈ lw_tbl, w.before args s = true) : ∀ w ∈ xA, w.before args s = true := fun w hw => (List.mem_append.mp hw).elim (fun h => by
  simp only [k3_sels, List.mem_cons, List.not_mem_nil, or_false] at h
  rcases h with rfl | rfl | rfl | rfl
  · exact k3_priv ⟨by decide +kernel, by decide +kernel⟩ (hts _ (xL2 (List.mem_of_getElem? (i := 132) rfl))) (hts _ (xL2 (List.mem_of_getElem? (i := 175) rfl))) (hts _ (xL2 (List.mem_of_getElem? (i := 176) rfl))) (hts _ (xL5 (List.mem_of_getElem? (i := 216) rfl)))
  · exact k3_priv ⟨by decide +kernel, by decide +kernel⟩ (hts _ (xL2 (List.mem_of_getElem? (i := 132) rfl))) (hts _ (xL2 (List.mem_of_getElem? (i := 179) rfl))) (hts _ (xL2 (List.mem_of_getElem? (i := 180) rfl))) (hts _ (xL5 (List.mem_of_getElem? (i := 217) rfl)))
  · exact k3_priv ⟨by decide +kernel, by decide +kernel⟩ (hts _ (xL2 (List.mem_of_getElem? (i := 132) rfl))) (hts _ (xL3 (List.mem_of_getElem? (i := 8) rfl))) (hts _ (xL3 (List.mem_of_getElem? (i := 9) rfl))) (hts _ (xL5 (List.mem_of_getElem? (i := 218) rfl)))
  · exact k3_priv ⟨by decide +kernel, by decide +kernel⟩ (hts _ (xL2 (List.mem_of_getElem? (i := 132) rfl))) (hts _ (xL3 (List.mem_of_getElem? (i := 12) rfl))) (hts _ (xL3 (List.mem_of_getElem? (i := 13) rfl))) (hts _ (xL5 (List.mem_of_getElem? (i := 219) rfl)))) (fun h => hts w (List.mem_filter.mp h).1)
theorem xS1 {w : Cond} (h : w ∈ k2_sels lw_privs_1) (hg : goodWord w = true) : w ∈ xA := xA_sel (by rw [show k2_sels lw_privs = k2_sels lw_privs_1 ++ (k2_sels lw_privs_2) from by simp only [lw_privs, k2_sels, List.map_append]]; exact List.mem_append_left _ h) hg
theorem xS2 {w : Cond} (h : w ∈ k2_sels lw_privs_2) (hg : goodWord w = true) : w ∈ xA := xA_sel (by rw [show k2_sels lw_privs = k2_sels lw_privs_1 ++ (k2_sels lw_privs_2) from by simp only [lw_privs, k2_sels, List.map_append]]; exact List.mem_append_right _ (h)) hg
theorem w1_0 : (Cond.initialized RL) ∈ xA := xI1 (List.mem_of_getElem? (i := 0) rfl) rfl
theorem w1_1 : (Cond.initialized RJ5) ∈ xA := xI1 (List.mem_of_getElem? (i := 1) rfl) rfl
theorem w1_2 : (Cond.initialized RJ4) ∈ xA := xI1 (List.mem_of_getElem? (i := 2) rfl) rfl
theorem w1_3 : (Cond.initialized RJ0) ∈ xA := xI1 (List.mem_of_getElem? (i := 3) rfl) rfl
theorem w1_4 : (Cond.initialized RJ2) ∈ xA := xI1 (List.mem_of_getElem? (i := 4) rfl) rfl
theorem w1_5 : (Cond.initialized RJ8) ∈ xA := xI1 (List.mem_of_getElem? (i := 5) rfl) rfl
theorem w1_6 : (Cond.initialized RJ9) ∈ xA := xI1 (List.mem_of_getElem? (i := 6) rfl) rfl
theorem w1_7 : (Cond.initialized RJ7) ∈ xA := xI1 (List.mem_of_getElem? (i := 7) rfl) rfl
theorem w1_8 : (Cond.initialized RJ10) ∈ xA := xI1 (List.mem_of_getElem? (i := 8) rfl) rfl
theorem w1_9 : (Cond.initialized RJ3) ∈ xA := xI1 (List.mem_of_getElem? (i := 9) rfl) rfl
theorem w1_10 : (Cond.initialized RJ1) ∈ xA := xI1 (List.mem_of_getElem? (i := 10) rfl) rfl
theorem w1_11 : (Cond.initialized RJxd2413) ∈ xA := xI1 (List.mem_of_getElem? (i := 11) rfl) rfl
theorem w1_12 : (Cond.initialized RJ6) ∈ xA := xI1 (List.mem_of_getElem? (i := 12) rfl) rfl
theorem w1_13 : (Cond.initialized RX6) ∈ xA := xI1 (List.mem_of_getElem? (i := 13) rfl) rfl
theorem w1_14 : (Cond.initialized RX2) ∈ xA := xI1 (List.mem_of_getElem? (i := 14) rfl) rfl
theorem w1_15 : (Cond.initialized RX4) ∈ xA := xI1 (List.mem_of_getElem? (i := 15) rfl) rfl
theorem w1_16 : (Cond.initialized RX1) ∈ xA := xI1 (List.mem_of_getElem? (i := 16) rfl) rfl
theorem w1_17 : (Cond.initialized RX3) ∈ xA := xI1 (List.mem_of_getElem? (i := 17) rfl) rfl
theorem w1_18 : (Cond.initialized RJx29ce0) ∈ xA := xI1 (List.mem_of_getElem? (i := 18) rfl) rfl
theorem w1_19 : (Cond.initialized RX5) ∈ xA := xI1 (List.mem_of_getElem? (i := 19) rfl) rfl
theorem w1_20 : (Cond.initialized RX0) ∈ xA := xI1 (List.mem_of_getElem? (i := 20) rfl) rfl
theorem w1_21 : (Cond.initialized "java/lang/Throwable") ∈ xA := xI1 (List.mem_of_getElem? (i := 21) rfl) rfl
theorem w1_22 : (Cond.initialized "java/lang/Exception") ∈ xA := xI1 (List.mem_of_getElem? (i := 22) rfl) rfl
theorem w1_23 : (Cond.initialized "java/lang/RuntimeException") ∈ xA := xI1 (List.mem_of_getElem? (i := 23) rfl) rfl
theorem w1_24 : (Cond.initialized "java/lang/IllegalArgumentException") ∈ xA := xI1 (List.mem_of_getElem? (i := 24) rfl) rfl
theorem w1_25 : (Cond.initialized "java/lang/IllegalStateException") ∈ xA := xI1 (List.mem_of_getElem? (i := 25) rfl) rfl
theorem w1_26 : (Cond.initialized "java/lang/IndexOutOfBoundsException") ∈ xA := xI1 (List.mem_of_getElem? (i := 26) rfl) rfl
theorem w1_27 : (Cond.methodLink RL 109 yX6_minute) ∈ xA := xI1 (List.mem_of_getElem? (i := 27) rfl) rfl
theorem w1_28 : (Cond.instanceMethod yX6_minute) ∈ xA := xI1 (List.mem_of_getElem? (i := 28) rfl) rfl
theorem w1_29 : (Cond.selects RX6 yX6_minute yX6_minute) ∈ xA := xI1 (List.mem_of_getElem? (i := 29) rfl) rfl
theorem w1_30 : (Cond.code yX6_minute cX6_minute 1 (some FieldType.int)) ∈ xA := xI1 (List.mem_of_getElem? (i := 30) rfl) rfl
theorem w1_31 : (Cond.methodLink RL 158 yX6_bellPosition) ∈ xA := xI1 (List.mem_of_getElem? (i := 31) rfl) rfl
theorem w1_32 : (Cond.instanceMethod yX6_bellPosition) ∈ xA := xI1 (List.mem_of_getElem? (i := 32) rfl) rfl
theorem w1_33 : (Cond.selects RX6 yX6_bellPosition yX6_bellPosition) ∈ xA := xI1 (List.mem_of_getElem? (i := 33) rfl) rfl
theorem w1_34 : (Cond.code yX6_bellPosition cX6_bellPosition 1 (some FieldType.int)) ∈ xA := xI1 (List.mem_of_getElem? (i := 34) rfl) rfl
theorem w1_35 : (Cond.methodLink RL 122 yX6_threshold) ∈ xA := xI1 (List.mem_of_getElem? (i := 35) rfl) rfl
theorem w1_36 : (Cond.instanceMethod yX6_threshold) ∈ xA := xI1 (List.mem_of_getElem? (i := 36) rfl) rfl
theorem w1_37 : (Cond.selects RX6 yX6_threshold yX6_threshold) ∈ xA := xI1 (List.mem_of_getElem? (i := 37) rfl) rfl
theorem w1_38 : (Cond.code yX6_threshold cX6_threshold 1 (some FieldType.int)) ∈ xA := xI1 (List.mem_of_getElem? (i := 38) rfl) rfl
theorem w1_39 : (Cond.methodLink RL 155 yX6_duration) ∈ xA := xI1 (List.mem_of_getElem? (i := 39) rfl) rfl
theorem w1_40 : (Cond.instanceMethod yX6_duration) ∈ xA := xI1 (List.mem_of_getElem? (i := 40) rfl) rfl
theorem w1_41 : (Cond.selects RX6 yX6_duration yX6_duration) ∈ xA := xI1 (List.mem_of_getElem? (i := 41) rfl) rfl
theorem w1_42 : (Cond.code yX6_duration cX6_duration 1 (some FieldType.int)) ∈ xA := xI1 (List.mem_of_getElem? (i := 42) rfl) rfl
theorem w1_43 : (Cond.methodLink RL 112 yX6_fogIn) ∈ xA := xI1 (List.mem_of_getElem? (i := 43) rfl) rfl
theorem w1_44 : (Cond.instanceMethod yX6_fogIn) ∈ xA := xI1 (List.mem_of_getElem? (i := 44) rfl) rfl
theorem w1_45 : (Cond.selects RX6 yX6_fogIn yX6_fogIn) ∈ xA := xI1 (List.mem_of_getElem? (i := 45) rfl) rfl
theorem w1_46 : (Cond.code yX6_fogIn cX6_fogIn 2 (some FieldType.int)) ∈ xA := xI1 (List.mem_of_getElem? (i := 46) rfl) rfl
theorem w1_47 : (Cond.constant RX6 122 (99999)) ∈ xA := xI1 (List.mem_of_getElem? (i := 47) rfl) rfl
theorem w1_48 : (Cond.methodLink RX6 123 yX6_checkRange) ∈ xA := xI1 (List.mem_of_getElem? (i := 48) rfl) rfl
theorem w1_49 : (Cond.static yX6_checkRange) ∈ xA := xI1 (List.mem_of_getElem? (i := 49) rfl) rfl
theorem w1_50 : (Cond.code yX6_checkRange cX6_checkRange 3 none) ∈ xA := xI1 (List.mem_of_getElem? (i := 50) rfl) rfl
theorem w1_51 : (Cond.classLink RX6 206 "java/lang/IllegalArgumentException") ∈ xA := xI1 (List.mem_of_getElem? (i := 51) rfl) rfl
theorem w1_52 : (Cond.instantiable "java/lang/IllegalArgumentException" 6) ∈ xA := xI1 (List.mem_of_getElem? (i := 52) rfl) rfl
theorem w1_60 : (Cond.selects "java/lang/IllegalArgumentException" (⟨"java/lang/Throwable", "fillInStackTrace", "(I)Ljava/lang/Throwable;"⟩) (⟨"java/lang/Throwable", "fillInStackTrace", "(I)Ljava/lang/Throwable;"⟩)) ∈ xA := xI1 (List.mem_of_getElem? (i := 60) rfl) rfl
theorem w1_61 : (Cond.selects "java/lang/IllegalArgumentException" (⟨"java/lang/Throwable", "fillInStackTrace", "()Ljava/lang/Throwable;"⟩) (⟨"java/lang/Throwable", "fillInStackTrace", "()Ljava/lang/Throwable;"⟩)) ∈ xA := xI1 (List.mem_of_getElem? (i := 61) rfl) rfl
theorem w1_62 : (Cond.lays "java/lang/IllegalArgumentException" "java/lang/Throwable" "cause" "Ljava/lang/Throwable;") ∈ xA := xI1 (List.mem_of_getElem? (i := 62) rfl) rfl
theorem w1_63 : (Cond.lays "java/lang/Throwable" "java/lang/Throwable" "cause" "Ljava/lang/Throwable;") ∈ xA := xI1 (List.mem_of_getElem? (i := 63) rfl) rfl
theorem w1_64 : (Cond.lays "java/lang/IllegalArgumentException" "java/lang/Throwable" "stackTrace" "[Ljava/lang/StackTraceElement;") ∈ xA := xI1 (List.mem_of_getElem? (i := 64) rfl) rfl
theorem w1_65 : (Cond.lays "java/lang/Throwable" "java/lang/Throwable" "stackTrace" "[Ljava/lang/StackTraceElement;") ∈ xA := xI1 (List.mem_of_getElem? (i := 65) rfl) rfl
theorem w1_66 : (Cond.lays "java/lang/IllegalArgumentException" "java/lang/Throwable" "suppressedExceptions" "Ljava/util/List;") ∈ xA := xI1 (List.mem_of_getElem? (i := 66) rfl) rfl
theorem w1_67 : (Cond.lays "java/lang/Throwable" "java/lang/Throwable" "suppressedExceptions" "Ljava/util/List;") ∈ xA := xI1 (List.mem_of_getElem? (i := 67) rfl) rfl
theorem w1_68 : (Cond.lays "java/lang/IllegalArgumentException" "java/lang/Throwable" "detailMessage" "Ljava/lang/String;") ∈ xA := xI1 (List.mem_of_getElem? (i := 68) rfl) rfl
theorem w1_69 : (Cond.lays "java/lang/Throwable" "java/lang/Throwable" "detailMessage" "Ljava/lang/String;") ∈ xA := xI1 (List.mem_of_getElem? (i := 69) rfl) rfl
theorem w1_70 : (Cond.lays "java/lang/IllegalArgumentException" "java/lang/Throwable" "backtrace" "Ljava/lang/Object;") ∈ xA := xI1 (List.mem_of_getElem? (i := 70) rfl) rfl
theorem w1_71 : (Cond.lays "java/lang/Throwable" "java/lang/Throwable" "backtrace" "Ljava/lang/Object;") ∈ xA := xI1 (List.mem_of_getElem? (i := 71) rfl) rfl
theorem w1_72 : (Cond.fieldLink "java/lang/Throwable" 198 "java/lang/Throwable" "backtrace" "Ljava/lang/Object;") ∈ xA := xI1 (List.mem_of_getElem? (i := 72) rfl) rfl
theorem w1_73 : (Cond.superclass "java/lang/Throwable" "java/lang/Object") ∈ xA := xI1 (List.mem_of_getElem? (i := 73) rfl) rfl
theorem w1_74 : (Cond.instanceMethod (⟨"java/lang/Throwable", "<init>", "()V"⟩)) ∈ xA := xI1 (List.mem_of_getElem? (i := 74) rfl) rfl
theorem w1_75 : (Cond.code (⟨"java/lang/Throwable", "<init>", "()V"⟩) prog_26_method_1_code 1 none) ∈ xA := xI1 (List.mem_of_getElem? (i := 75) rfl) rfl
theorem w1_76 : (Cond.methodLink "java/lang/Throwable" 1 (⟨"java/lang/Object", "<init>", "()V"⟩)) ∈ xA := xI1 (List.mem_of_getElem? (i := 76) rfl) rfl
theorem w1_77 : (Cond.instanceMethod (⟨"java/lang/Object", "<init>", "()V"⟩)) ∈ xA := xI1 (List.mem_of_getElem? (i := 77) rfl) rfl
theorem w1_78 : (Cond.code (⟨"java/lang/Object", "<init>", "()V"⟩) object_method_1_code 1 none) ∈ xA := xI1 (List.mem_of_getElem? (i := 78) rfl) rfl
theorem w1_79 : (Cond.fieldLink "java/lang/Throwable" 13 "java/lang/Throwable" "UNASSIGNED_STACK" "[Ljava/lang/StackTraceElement;") ∈ xA := xI1 (List.mem_of_getElem? (i := 79) rfl) rfl
theorem w1_81 : (Cond.fieldLink "java/lang/Throwable" 20 "java/lang/Throwable" "SUPPRESSED_SENTINEL" "Ljava/util/List;") ∈ xA := xI1 (List.mem_of_getElem? (i := 81) rfl) rfl
theorem w1_83 : (Cond.methodLink "java/lang/Throwable" 27 (⟨"java/lang/Throwable", "fillInStackTrace", "()Ljava/lang/Throwable;"⟩)) ∈ xA := xI1 (List.mem_of_getElem? (i := 83) rfl) rfl
theorem w1_84 : (Cond.instanceMethod (⟨"java/lang/Throwable", "fillInStackTrace", "()Ljava/lang/Throwable;"⟩)) ∈ xA := xI1 (List.mem_of_getElem? (i := 84) rfl) rfl
theorem w1_85 : (Cond.sameMethod "java/lang/Throwable" "java/lang/Throwable" "fillInStackTrace" "()Ljava/lang/Throwable;") ∈ xA := xI1 (List.mem_of_getElem? (i := 85) rfl) rfl
theorem w1_86 : (Cond.selects "java/lang/IllegalStateException" (⟨"java/lang/Throwable", "fillInStackTrace", "()Ljava/lang/Throwable;"⟩) (⟨"java/lang/Throwable", "fillInStackTrace", "()Ljava/lang/Throwable;"⟩)) ∈ xA := xI1 (List.mem_of_getElem? (i := 86) rfl) rfl
theorem w1_87 : (Cond.selects "java/lang/IndexOutOfBoundsException" (⟨"java/lang/Throwable", "fillInStackTrace", "()Ljava/lang/Throwable;"⟩) (⟨"java/lang/Throwable", "fillInStackTrace", "()Ljava/lang/Throwable;"⟩)) ∈ xA := xI1 (List.mem_of_getElem? (i := 87) rfl) rfl
theorem w1_89 : (Cond.methodLink "java/lang/Throwable" 202 (⟨"java/lang/Throwable", "fillInStackTrace", "(I)Ljava/lang/Throwable;"⟩)) ∈ xA := xI1 (List.mem_of_getElem? (i := 89) rfl) rfl
theorem w1_91 : (Cond.instanceMethod (⟨"java/lang/Throwable", "fillInStackTrace", "(I)Ljava/lang/Throwable;"⟩)) ∈ xA := xI1 (List.mem_of_getElem? (i := 91) rfl) rfl
theorem w1_92 : (Cond.instantiable "java/lang/Throwable" 6) ∈ xA := xI1 (List.mem_of_getElem? (i := 92) rfl) rfl
theorem w1_93 : (Cond.native (⟨"java/lang/Throwable", "fillInStackTrace", "(I)Ljava/lang/Throwable;"⟩)) ∈ xA := xI1 (List.mem_of_getElem? (i := 93) rfl) rfl
theorem w1_95 : (Cond.methodLink RX6 210 (⟨"java/lang/IllegalArgumentException", "<init>", "(Ljava/lang/String;)V"⟩)) ∈ xA := xI1 (List.mem_of_getElem? (i := 95) rfl) rfl
theorem w1_96 : (Cond.instanceMethod (⟨"java/lang/IllegalArgumentException", "<init>", "(Ljava/lang/String;)V"⟩)) ∈ xA := xI1 (List.mem_of_getElem? (i := 96) rfl) rfl
theorem w1_97 : (Cond.code (⟨"java/lang/IllegalArgumentException", "<init>", "(Ljava/lang/String;)V"⟩) prog_14_method_2_code 2 none) ∈ xA := xI1 (List.mem_of_getElem? (i := 97) rfl) rfl
theorem w1_98 : (Cond.methodLink "java/lang/IllegalArgumentException" 7 (⟨"java/lang/RuntimeException", "<init>", "(Ljava/lang/String;)V"⟩)) ∈ xA := xI1 (List.mem_of_getElem? (i := 98) rfl) rfl
theorem w1_99 : (Cond.instanceMethod (⟨"java/lang/RuntimeException", "<init>", "(Ljava/lang/String;)V"⟩)) ∈ xA := xI1 (List.mem_of_getElem? (i := 99) rfl) rfl
theorem w1_100 : (Cond.code (⟨"java/lang/RuntimeException", "<init>", "(Ljava/lang/String;)V"⟩) prog_20_method_2_code 2 none) ∈ xA := xI1 (List.mem_of_getElem? (i := 100) rfl) rfl
theorem w1_101 : (Cond.methodLink "java/lang/RuntimeException" 7 (⟨"java/lang/Exception", "<init>", "(Ljava/lang/String;)V"⟩)) ∈ xA := xI1 (List.mem_of_getElem? (i := 101) rfl) rfl
theorem w1_102 : (Cond.instanceMethod (⟨"java/lang/Exception", "<init>", "(Ljava/lang/String;)V"⟩)) ∈ xA := xI1 (List.mem_of_getElem? (i := 102) rfl) rfl
theorem w1_103 : (Cond.code (⟨"java/lang/Exception", "<init>", "(Ljava/lang/String;)V"⟩) prog_13_method_2_code 2 none) ∈ xA := xI1 (List.mem_of_getElem? (i := 103) rfl) rfl
theorem w1_104 : (Cond.methodLink "java/lang/Exception" 7 (⟨"java/lang/Throwable", "<init>", "(Ljava/lang/String;)V"⟩)) ∈ xA := xI1 (List.mem_of_getElem? (i := 104) rfl) rfl
theorem w1_105 : (Cond.instanceMethod (⟨"java/lang/Throwable", "<init>", "(Ljava/lang/String;)V"⟩)) ∈ xA := xI1 (List.mem_of_getElem? (i := 105) rfl) rfl
theorem w1_106 : (Cond.code (⟨"java/lang/Throwable", "<init>", "(Ljava/lang/String;)V"⟩) prog_26_method_2_code 2 none) ∈ xA := xI1 (List.mem_of_getElem? (i := 106) rfl) rfl
theorem w1_108 : (Cond.fieldLink "java/lang/Throwable" 31 "java/lang/Throwable" "detailMessage" "Ljava/lang/String;") ∈ xA := xI1 (List.mem_of_getElem? (i := 108) rfl) rfl
theorem w1_109 : (Cond.fieldLink "java/lang/Throwable" 7 "java/lang/Throwable" "cause" "Ljava/lang/Throwable;") ∈ xA := xI1 (List.mem_of_getElem? (i := 109) rfl) rfl
theorem w1_110 : (Cond.fieldLink "java/lang/Throwable" 17 "java/lang/Throwable" "stackTrace" "[Ljava/lang/StackTraceElement;") ∈ xA := xI1 (List.mem_of_getElem? (i := 110) rfl) rfl
theorem w1_111 : (Cond.fieldLink "java/lang/Throwable" 24 "java/lang/Throwable" "suppressedExceptions" "Ljava/util/List;") ∈ xA := xI1 (List.mem_of_getElem? (i := 111) rfl) rfl
theorem w1_116 : (Cond.lays "java/lang/IllegalArgumentException" "java/lang/Throwable" "depth" "I") ∈ xA := xI1 (List.mem_of_getElem? (i := 116) rfl) rfl
theorem w1_119 : (Cond.superclass "java/lang/IllegalArgumentException" "java/lang/RuntimeException") ∈ xA := xI1 (List.mem_of_getElem? (i := 119) rfl) rfl
theorem w1_120 : (Cond.arrayClass FieldType.byte) ∈ xA := xI1 (List.mem_of_getElem? (i := 120) rfl) rfl
theorem w1_121 : (Cond.methodLink RX6 127 yX2_densityIn) ∈ xA := xI1 (List.mem_of_getElem? (i := 121) rfl) rfl
theorem w1_122 : (Cond.instanceMethod yX2_densityIn) ∈ xA := xI1 (List.mem_of_getElem? (i := 122) rfl) rfl
theorem w1_123 : (Cond.selects RX2 yX2_densityIn yX2_densityIn) ∈ xA := xI1 (List.mem_of_getElem? (i := 123) rfl) rfl
theorem w1_124 : (Cond.code yX2_densityIn cX2_densityIn 2 (some FieldType.int)) ∈ xA := xI1 (List.mem_of_getElem? (i := 124) rfl) rfl
theorem w1_125 : (Cond.methodLink RL 115 yX6_isOpen) ∈ xA := xI1 (List.mem_of_getElem? (i := 125) rfl) rfl
theorem w1_126 : (Cond.instanceMethod yX6_isOpen) ∈ xA := xI1 (List.mem_of_getElem? (i := 126) rfl) rfl
theorem w1_127 : (Cond.selects RX6 yX6_isOpen yX6_isOpen) ∈ xA := xI1 (List.mem_of_getElem? (i := 127) rfl) rfl
theorem w1_128 : (Cond.code yX6_isOpen cX6_isOpen 1 (some FieldType.boolean)) ∈ xA := xI1 (List.mem_of_getElem? (i := 128) rfl) rfl
theorem w1_129 : (Cond.methodLink RL 119 yX6_isReady) ∈ xA := xI1 (List.mem_of_getElem? (i := 129) rfl) rfl
theorem w1_130 : (Cond.instanceMethod yX6_isReady) ∈ xA := xI1 (List.mem_of_getElem? (i := 130) rfl) rfl
theorem w1_131 : (Cond.selects RX6 yX6_isReady yX6_isReady) ∈ xA := xI1 (List.mem_of_getElem? (i := 131) rfl) rfl
theorem w1_132 : (Cond.code yX6_isReady cX6_isReady 1 (some FieldType.boolean)) ∈ xA := xI1 (List.mem_of_getElem? (i := 132) rfl) rfl
theorem w1_133 : (Cond.methodLink RL 125 yX6_openMinutes) ∈ xA := xI1 (List.mem_of_getElem? (i := 133) rfl) rfl
theorem w1_134 : (Cond.instanceMethod yX6_openMinutes) ∈ xA := xI1 (List.mem_of_getElem? (i := 134) rfl) rfl
theorem w1_135 : (Cond.selects RX6 yX6_openMinutes yX6_openMinutes) ∈ xA := xI1 (List.mem_of_getElem? (i := 135) rfl) rfl
theorem w1_136 : (Cond.code yX6_openMinutes cX6_openMinutes 1 (some FieldType.int)) ∈ xA := xI1 (List.mem_of_getElem? (i := 136) rfl) rfl
theorem w1_137 : (Cond.methodLink RL 128 yX6_ringings) ∈ xA := xI1 (List.mem_of_getElem? (i := 137) rfl) rfl
theorem w1_138 : (Cond.instanceMethod yX6_ringings) ∈ xA := xI1 (List.mem_of_getElem? (i := 138) rfl) rfl
theorem w1_139 : (Cond.selects RX6 yX6_ringings yX6_ringings) ∈ xA := xI1 (List.mem_of_getElem? (i := 139) rfl) rfl
theorem w1_140 : (Cond.code yX6_ringings cX6_ringings 1 (some FieldType.int)) ∈ xA := xI1 (List.mem_of_getElem? (i := 140) rfl) rfl
theorem w1_141 : (Cond.methodLink RL 71 yX6_stallCount) ∈ xA := xI1 (List.mem_of_getElem? (i := 141) rfl) rfl
theorem w1_142 : (Cond.instanceMethod yX6_stallCount) ∈ xA := xI1 (List.mem_of_getElem? (i := 142) rfl) rfl
theorem w1_143 : (Cond.selects RX6 yX6_stallCount yX6_stallCount) ∈ xA := xI1 (List.mem_of_getElem? (i := 143) rfl) rfl
theorem w1_144 : (Cond.code yX6_stallCount cX6_stallCount 1 (some FieldType.int)) ∈ xA := xI1 (List.mem_of_getElem? (i := 144) rfl) rfl
theorem w1_145 : (Cond.methodLink RL 161 yX6_positionOf) ∈ xA := xI1 (List.mem_of_getElem? (i := 145) rfl) rfl
theorem w1_146 : (Cond.instanceMethod yX6_positionOf) ∈ xA := xI1 (List.mem_of_getElem? (i := 146) rfl) rfl
theorem w1_147 : (Cond.selects RX6 yX6_positionOf yX6_positionOf) ∈ xA := xI1 (List.mem_of_getElem? (i := 147) rfl) rfl
theorem w1_148 : (Cond.code yX6_positionOf cX6_positionOf 2 (some FieldType.int)) ∈ xA := xI1 (List.mem_of_getElem? (i := 148) rfl) rfl
theorem w1_149 : (Cond.methodLink RX6 152 yX6_stallAt) ∈ xA := xI1 (List.mem_of_getElem? (i := 149) rfl) rfl
theorem w1_151 : (Cond.instanceMethod yX6_stallAt) ∈ xA := xI1 (List.mem_of_getElem? (i := 151) rfl) rfl
theorem w1_152 : (Cond.instantiable RX6 11) ∈ xA := xI1 (List.mem_of_getElem? (i := 152) rfl) rfl
theorem w1_153 : (Cond.code yX6_stallAt cX6_stallAt 2 (some (FieldType.object "FogBellMarket$Stall"))) ∈ xA := xI1 (List.mem_of_getElem? (i := 153) rfl) rfl
theorem w1_154 : (Cond.methodLink RX6 173 yX6_checkStall) ∈ xA := xI1 (List.mem_of_getElem? (i := 154) rfl) rfl
theorem w1_156 : (Cond.instanceMethod yX6_checkStall) ∈ xA := xI1 (List.mem_of_getElem? (i := 156) rfl) rfl
theorem w1_157 : (Cond.code yX6_checkStall cX6_checkStall 2 none) ∈ xA := xI1 (List.mem_of_getElem? (i := 157) rfl) rfl
theorem w1_158 : (Cond.classLink RX6 200 "java/lang/IndexOutOfBoundsException") ∈ xA := xI1 (List.mem_of_getElem? (i := 158) rfl) rfl
theorem w1_159 : (Cond.instantiable "java/lang/IndexOutOfBoundsException" 6) ∈ xA := xI1 (List.mem_of_getElem? (i := 159) rfl) rfl
theorem w1_161 : (Cond.selects "java/lang/IndexOutOfBoundsException" (⟨"java/lang/Throwable", "fillInStackTrace", "(I)Ljava/lang/Throwable;"⟩) (⟨"java/lang/Throwable", "fillInStackTrace", "(I)Ljava/lang/Throwable;"⟩)) ∈ xA := xI1 (List.mem_of_getElem? (i := 161) rfl) rfl
theorem w1_162 : (Cond.lays "java/lang/IndexOutOfBoundsException" "java/lang/Throwable" "cause" "Ljava/lang/Throwable;") ∈ xA := xI1 (List.mem_of_getElem? (i := 162) rfl) rfl
theorem w1_163 : (Cond.lays "java/lang/IndexOutOfBoundsException" "java/lang/Throwable" "stackTrace" "[Ljava/lang/StackTraceElement;") ∈ xA := xI1 (List.mem_of_getElem? (i := 163) rfl) rfl
theorem w1_164 : (Cond.lays "java/lang/IndexOutOfBoundsException" "java/lang/Throwable" "suppressedExceptions" "Ljava/util/List;") ∈ xA := xI1 (List.mem_of_getElem? (i := 164) rfl) rfl
theorem w1_165 : (Cond.lays "java/lang/IndexOutOfBoundsException" "java/lang/Throwable" "detailMessage" "Ljava/lang/String;") ∈ xA := xI1 (List.mem_of_getElem? (i := 165) rfl) rfl
theorem w1_166 : (Cond.lays "java/lang/IndexOutOfBoundsException" "java/lang/Throwable" "backtrace" "Ljava/lang/Object;") ∈ xA := xI1 (List.mem_of_getElem? (i := 166) rfl) rfl
theorem w1_168 : (Cond.methodLink RX6 204 (⟨"java/lang/IndexOutOfBoundsException", "<init>", "(Ljava/lang/String;)V"⟩)) ∈ xA := xI1 (List.mem_of_getElem? (i := 168) rfl) rfl
theorem w1_169 : (Cond.instanceMethod (⟨"java/lang/IndexOutOfBoundsException", "<init>", "(Ljava/lang/String;)V"⟩)) ∈ xA := xI1 (List.mem_of_getElem? (i := 169) rfl) rfl
theorem w1_170 : (Cond.code (⟨"java/lang/IndexOutOfBoundsException", "<init>", "(Ljava/lang/String;)V"⟩) prog_16_method_2_code 2 none) ∈ xA := xI1 (List.mem_of_getElem? (i := 170) rfl) rfl
theorem w1_171 : (Cond.methodLink "java/lang/IndexOutOfBoundsException" 7 (⟨"java/lang/RuntimeException", "<init>", "(Ljava/lang/String;)V"⟩)) ∈ xA := xI1 (List.mem_of_getElem? (i := 171) rfl) rfl
theorem w1_172 : (Cond.lays "java/lang/IndexOutOfBoundsException" "java/lang/Throwable" "depth" "I") ∈ xA := xI1 (List.mem_of_getElem? (i := 172) rfl) rfl
theorem w1_173 : (Cond.superclass "java/lang/IndexOutOfBoundsException" "java/lang/RuntimeException") ∈ xA := xI1 (List.mem_of_getElem? (i := 173) rfl) rfl
theorem w1_174 : (Cond.methodLink RL 169 yX6_lanternOf) ∈ xA := xI1 (List.mem_of_getElem? (i := 174) rfl) rfl
theorem w1_175 : (Cond.instanceMethod yX6_lanternOf) ∈ xA := xI1 (List.mem_of_getElem? (i := 175) rfl) rfl
theorem w1_176 : (Cond.selects RX6 yX6_lanternOf yX6_lanternOf) ∈ xA := xI1 (List.mem_of_getElem? (i := 176) rfl) rfl
theorem w1_177 : (Cond.code yX6_lanternOf cX6_lanternOf 2 (some FieldType.int)) ∈ xA := xI1 (List.mem_of_getElem? (i := 177) rfl) rfl
theorem w1_178 : (Cond.methodLink RL 183 yX6_textureOf) ∈ xA := xI1 (List.mem_of_getElem? (i := 178) rfl) rfl
theorem w1_179 : (Cond.instanceMethod yX6_textureOf) ∈ xA := xI1 (List.mem_of_getElem? (i := 179) rfl) rfl
theorem w1_180 : (Cond.selects RX6 yX6_textureOf yX6_textureOf) ∈ xA := xI1 (List.mem_of_getElem? (i := 180) rfl) rfl
theorem w1_181 : (Cond.code yX6_textureOf cX6_textureOf 2 (some FieldType.int)) ∈ xA := xI1 (List.mem_of_getElem? (i := 181) rfl) rfl
theorem w1_182 : (Cond.methodLink RL 189 yX6_priceOf) ∈ xA := xI1 (List.mem_of_getElem? (i := 182) rfl) rfl
theorem w1_183 : (Cond.instanceMethod yX6_priceOf) ∈ xA := xI1 (List.mem_of_getElem? (i := 183) rfl) rfl
theorem w1_184 : (Cond.selects RX6 yX6_priceOf yX6_priceOf) ∈ xA := xI1 (List.mem_of_getElem? (i := 184) rfl) rfl
theorem w1_185 : (Cond.code yX6_priceOf cX6_priceOf 2 (some FieldType.int)) ∈ xA := xI1 (List.mem_of_getElem? (i := 185) rfl) rfl
theorem w1_186 : (Cond.methodLink RL 83 yX6_stockOf) ∈ xA := xI1 (List.mem_of_getElem? (i := 186) rfl) rfl
theorem w1_187 : (Cond.instanceMethod yX6_stockOf) ∈ xA := xI1 (List.mem_of_getElem? (i := 187) rfl) rfl
theorem w1_188 : (Cond.selects RX6 yX6_stockOf yX6_stockOf) ∈ xA := xI1 (List.mem_of_getElem? (i := 188) rfl) rfl
theorem w1_189 : (Cond.code yX6_stockOf cX6_stockOf 2 (some FieldType.int)) ∈ xA := xI1 (List.mem_of_getElem? (i := 189) rfl) rfl
theorem w1_190 : (Cond.methodLink RL 131 yX6_soldOf) ∈ xA := xI1 (List.mem_of_getElem? (i := 190) rfl) rfl
theorem w1_191 : (Cond.instanceMethod yX6_soldOf) ∈ xA := xI1 (List.mem_of_getElem? (i := 191) rfl) rfl
theorem w1_192 : (Cond.selects RX6 yX6_soldOf yX6_soldOf) ∈ xA := xI1 (List.mem_of_getElem? (i := 192) rfl) rfl
theorem w1_193 : (Cond.code yX6_soldOf cX6_soldOf 2 (some FieldType.int)) ∈ xA := xI1 (List.mem_of_getElem? (i := 193) rfl) rfl
theorem w1_194 : (Cond.methodLink RL 134 yX6_lostOf) ∈ xA := xI1 (List.mem_of_getElem? (i := 194) rfl) rfl
theorem w1_195 : (Cond.instanceMethod yX6_lostOf) ∈ xA := xI1 (List.mem_of_getElem? (i := 195) rfl) rfl
theorem w1_196 : (Cond.selects RX6 yX6_lostOf yX6_lostOf) ∈ xA := xI1 (List.mem_of_getElem? (i := 196) rfl) rfl
theorem w1_197 : (Cond.code yX6_lostOf cX6_lostOf 2 (some FieldType.int)) ∈ xA := xI1 (List.mem_of_getElem? (i := 197) rfl) rfl
theorem w1_198 : (Cond.methodLink RL 137 yX6_earnings) ∈ xA := xI1 (List.mem_of_getElem? (i := 198) rfl) rfl
theorem w1_199 : (Cond.instanceMethod yX6_earnings) ∈ xA := xI1 (List.mem_of_getElem? (i := 199) rfl) rfl
theorem w1_200 : (Cond.selects RX6 yX6_earnings yX6_earnings) ∈ xA := xI1 (List.mem_of_getElem? (i := 200) rfl) rfl
theorem w1_201 : (Cond.code yX6_earnings cX6_earnings 2 (some FieldType.int)) ∈ xA := xI1 (List.mem_of_getElem? (i := 201) rfl) rfl
theorem w1_202 : (Cond.methodLink RL 74 yX6_buyerCount) ∈ xA := xI1 (List.mem_of_getElem? (i := 202) rfl) rfl
theorem w1_203 : (Cond.instanceMethod yX6_buyerCount) ∈ xA := xI1 (List.mem_of_getElem? (i := 203) rfl) rfl
theorem w1_204 : (Cond.selects RX6 yX6_buyerCount yX6_buyerCount) ∈ xA := xI1 (List.mem_of_getElem? (i := 204) rfl) rfl
theorem w1_205 : (Cond.code yX6_buyerCount cX6_buyerCount 1 (some FieldType.int)) ∈ xA := xI1 (List.mem_of_getElem? (i := 205) rfl) rfl
theorem w1_206 : (Cond.methodLink RL 140 yX6_placeOf) ∈ xA := xI1 (List.mem_of_getElem? (i := 206) rfl) rfl
theorem w1_207 : (Cond.instanceMethod yX6_placeOf) ∈ xA := xI1 (List.mem_of_getElem? (i := 207) rfl) rfl
theorem w1_208 : (Cond.selects RX6 yX6_placeOf yX6_placeOf) ∈ xA := xI1 (List.mem_of_getElem? (i := 208) rfl) rfl
theorem w1_209 : (Cond.code yX6_placeOf cX6_placeOf 2 (some FieldType.int)) ∈ xA := xI1 (List.mem_of_getElem? (i := 209) rfl) rfl
theorem w1_210 : (Cond.methodLink RX6 214 yX6_buyerAt) ∈ xA := xI1 (List.mem_of_getElem? (i := 210) rfl) rfl
theorem w1_212 : (Cond.instanceMethod yX6_buyerAt) ∈ xA := xI1 (List.mem_of_getElem? (i := 212) rfl) rfl
theorem w1_213 : (Cond.code yX6_buyerAt cX6_buyerAt 2 (some (FieldType.object "FogBellMarket$Buyer"))) ∈ xA := xI1 (List.mem_of_getElem? (i := 213) rfl) rfl
theorem w1_214 : (Cond.methodLink RX6 255 yX6_checkBuyer) ∈ xA := xI1 (List.mem_of_getElem? (i := 214) rfl) rfl
theorem w1_216 : (Cond.instanceMethod yX6_checkBuyer) ∈ xA := xI1 (List.mem_of_getElem? (i := 216) rfl) rfl
theorem w1_217 : (Cond.code yX6_checkBuyer cX6_checkBuyer 2 none) ∈ xA := xI1 (List.mem_of_getElem? (i := 217) rfl) rfl
theorem w1_219 : (Cond.methodLink RL 143 yX6_coinsOf) ∈ xA := xI1 (List.mem_of_getElem? (i := 219) rfl) rfl
theorem w1_220 : (Cond.instanceMethod yX6_coinsOf) ∈ xA := xI1 (List.mem_of_getElem? (i := 220) rfl) rfl
theorem w1_221 : (Cond.selects RX6 yX6_coinsOf yX6_coinsOf) ∈ xA := xI1 (List.mem_of_getElem? (i := 221) rfl) rfl
theorem w1_222 : (Cond.code yX6_coinsOf cX6_coinsOf 2 (some FieldType.int)) ∈ xA := xI1 (List.mem_of_getElem? (i := 222) rfl) rfl
theorem w1_223 : (Cond.methodLink RL 186 yX6_wantedTexture) ∈ xA := xI1 (List.mem_of_getElem? (i := 223) rfl) rfl
theorem w1_224 : (Cond.instanceMethod yX6_wantedTexture) ∈ xA := xI1 (List.mem_of_getElem? (i := 224) rfl) rfl
theorem w1_225 : (Cond.selects RX6 yX6_wantedTexture yX6_wantedTexture) ∈ xA := xI1 (List.mem_of_getElem? (i := 225) rfl) rfl
theorem w1_226 : (Cond.code yX6_wantedTexture cX6_wantedTexture 2 (some FieldType.int)) ∈ xA := xI1 (List.mem_of_getElem? (i := 226) rfl) rfl
theorem w1_227 : (Cond.methodLink RL 175 yX6_speedOf) ∈ xA := xI1 (List.mem_of_getElem? (i := 227) rfl) rfl
theorem w1_228 : (Cond.instanceMethod yX6_speedOf) ∈ xA := xI1 (List.mem_of_getElem? (i := 228) rfl) rfl
theorem w1_229 : (Cond.selects RX6 yX6_speedOf yX6_speedOf) ∈ xA := xI1 (List.mem_of_getElem? (i := 229) rfl) rfl
theorem w1_230 : (Cond.code yX6_speedOf cX6_speedOf 2 (some FieldType.int)) ∈ xA := xI1 (List.mem_of_getElem? (i := 230) rfl) rfl
theorem w1_231 : (Cond.methodLink RL 96 yX6_heldFrom) ∈ xA := xI1 (List.mem_of_getElem? (i := 231) rfl) rfl
theorem w1_232 : (Cond.instanceMethod yX6_heldFrom) ∈ xA := xI1 (List.mem_of_getElem? (i := 232) rfl) rfl
theorem w1_233 : (Cond.selects RX6 yX6_heldFrom yX6_heldFrom) ∈ xA := xI1 (List.mem_of_getElem? (i := 233) rfl) rfl
theorem w1_234 : (Cond.code yX6_heldFrom cX6_heldFrom 2 (some FieldType.int)) ∈ xA := xI1 (List.mem_of_getElem? (i := 234) rfl) rfl
theorem w1_235 : (Cond.methodLink RL 146 yX6_debtOf) ∈ xA := xI1 (List.mem_of_getElem? (i := 235) rfl) rfl
theorem w1_236 : (Cond.instanceMethod yX6_debtOf) ∈ xA := xI1 (List.mem_of_getElem? (i := 236) rfl) rfl
theorem w1_237 : (Cond.selects RX6 yX6_debtOf yX6_debtOf) ∈ xA := xI1 (List.mem_of_getElem? (i := 237) rfl) rfl
theorem w1_238 : (Cond.code yX6_debtOf cX6_debtOf 2 (some FieldType.int)) ∈ xA := xI1 (List.mem_of_getElem? (i := 238) rfl) rfl
theorem w1_239 : (Cond.methodLink RL 149 yX6_avoidedBy) ∈ xA := xI1 (List.mem_of_getElem? (i := 239) rfl) rfl
theorem w2_0 : (Cond.instanceMethod yX6_avoidedBy) ∈ xA := xI2 (List.mem_of_getElem? (i := 0) rfl) rfl
theorem w2_1 : (Cond.selects RX6 yX6_avoidedBy yX6_avoidedBy) ∈ xA := xI2 (List.mem_of_getElem? (i := 1) rfl) rfl
theorem w2_2 : (Cond.code yX6_avoidedBy cX6_avoidedBy 2 (some FieldType.int)) ∈ xA := xI2 (List.mem_of_getElem? (i := 2) rfl) rfl
theorem w2_3 : (Cond.methodLink RL 152 yX6_boughtBy) ∈ xA := xI2 (List.mem_of_getElem? (i := 3) rfl) rfl
theorem w2_4 : (Cond.instanceMethod yX6_boughtBy) ∈ xA := xI2 (List.mem_of_getElem? (i := 4) rfl) rfl
theorem w2_5 : (Cond.selects RX6 yX6_boughtBy yX6_boughtBy) ∈ xA := xI2 (List.mem_of_getElem? (i := 5) rfl) rfl
theorem w2_6 : (Cond.code yX6_boughtBy cX6_boughtBy 2 (some FieldType.int)) ∈ xA := xI2 (List.mem_of_getElem? (i := 6) rfl) rfl
theorem w2_7 : (Cond.methodLink RL 199 yX6_consistencyError) ∈ xA := xI2 (List.mem_of_getElem? (i := 7) rfl) rfl
theorem w2_8 : (Cond.instanceMethod yX6_consistencyError) ∈ xA := xI2 (List.mem_of_getElem? (i := 8) rfl) rfl
theorem w2_9 : (Cond.selects RX6 yX6_consistencyError yX6_consistencyError) ∈ xA := xI2 (List.mem_of_getElem? (i := 9) rfl) rfl
theorem w2_10 : (Cond.code yX6_consistencyError cX6_consistencyError 5 (some FieldType.int)) ∈ xA := xI2 (List.mem_of_getElem? (i := 10) rfl) rfl
theorem w2_11 : (Cond.methodLink RX6 176 yX2_countHeld) ∈ xA := xI2 (List.mem_of_getElem? (i := 11) rfl) rfl
theorem w2_12 : (Cond.instanceMethod yX2_countHeld) ∈ xA := xI2 (List.mem_of_getElem? (i := 12) rfl) rfl
theorem w2_13 : (Cond.selects RX2 yX2_countHeld yX2_countHeld) ∈ xA := xI2 (List.mem_of_getElem? (i := 13) rfl) rfl
theorem w2_14 : (Cond.code yX2_countHeld cX2_countHeld 4 (some FieldType.int)) ∈ xA := xI2 (List.mem_of_getElem? (i := 14) rfl) rfl
theorem w2_15 : (Cond.methodLink RX6 268 yJ9_abs_0f7a4) ∈ xA := xI2 (List.mem_of_getElem? (i := 15) rfl) rfl
theorem w2_16 : (Cond.static yJ9_abs_0f7a4) ∈ xA := xI2 (List.mem_of_getElem? (i := 16) rfl) rfl
theorem w2_17 : (Cond.code yJ9_abs_0f7a4 cJ9_abs_0f7a4 1 (some FieldType.int)) ∈ xA := xI2 (List.mem_of_getElem? (i := 17) rfl) rfl
theorem w2_18 : (Cond.methodLink RL 102 yX6_passMinutes) ∈ xA := xI2 (List.mem_of_getElem? (i := 18) rfl) rfl
theorem w2_19 : (Cond.instanceMethod yX6_passMinutes) ∈ xA := xI2 (List.mem_of_getElem? (i := 19) rfl) rfl
theorem w2_20 : (Cond.selects RX6 yX6_passMinutes yX6_passMinutes) ∈ xA := xI2 (List.mem_of_getElem? (i := 20) rfl) rfl
theorem w2_21 : (Cond.code yX6_passMinutes cX6_passMinutes 3 (some FieldType.int)) ∈ xA := xI2 (List.mem_of_getElem? (i := 21) rfl) rfl
theorem w2_22 : (Cond.methodLink RX6 83 yX6_remember) ∈ xA := xI2 (List.mem_of_getElem? (i := 22) rfl) rfl
theorem w2_24 : (Cond.instanceMethod yX6_remember) ∈ xA := xI2 (List.mem_of_getElem? (i := 24) rfl) rfl
theorem w2_25 : (Cond.code yX6_remember cX6_remember 1 none) ∈ xA := xI2 (List.mem_of_getElem? (i := 25) rfl) rfl
theorem w2_26 : (Cond.methodLink RX6 69 yX2_copyFrom) ∈ xA := xI2 (List.mem_of_getElem? (i := 26) rfl) rfl
theorem w2_27 : (Cond.instanceMethod yX2_copyFrom) ∈ xA := xI2 (List.mem_of_getElem? (i := 27) rfl) rfl
theorem w2_28 : (Cond.selects RX2 yX2_copyFrom yX2_copyFrom) ∈ xA := xI2 (List.mem_of_getElem? (i := 28) rfl) rfl
theorem w2_29 : (Cond.code yX2_copyFrom cX2_copyFrom 3 none) ∈ xA := xI2 (List.mem_of_getElem? (i := 29) rfl) rfl
theorem w2_30 : (Cond.methodLink RX2 64 yX4_copyFrom) ∈ xA := xI2 (List.mem_of_getElem? (i := 30) rfl) rfl
theorem w2_31 : (Cond.instanceMethod yX4_copyFrom) ∈ xA := xI2 (List.mem_of_getElem? (i := 31) rfl) rfl
theorem w2_32 : (Cond.selects RX4 yX4_copyFrom yX4_copyFrom) ∈ xA := xI2 (List.mem_of_getElem? (i := 32) rfl) rfl
theorem w2_33 : (Cond.code yX4_copyFrom cX4_copyFrom 2 none) ∈ xA := xI2 (List.mem_of_getElem? (i := 33) rfl) rfl
theorem w2_34 : (Cond.methodLink RX2 68 yX1_copyFrom) ∈ xA := xI2 (List.mem_of_getElem? (i := 34) rfl) rfl
theorem w2_35 : (Cond.instanceMethod yX1_copyFrom) ∈ xA := xI2 (List.mem_of_getElem? (i := 35) rfl) rfl
theorem w2_36 : (Cond.selects RX1 yX1_copyFrom yX1_copyFrom) ∈ xA := xI2 (List.mem_of_getElem? (i := 36) rfl) rfl
theorem w2_37 : (Cond.code yX1_copyFrom cX1_copyFrom 2 none) ∈ xA := xI2 (List.mem_of_getElem? (i := 37) rfl) rfl
theorem w2_38 : (Cond.methodLink RX6 321 yJ9_min_7cf53) ∈ xA := xI2 (List.mem_of_getElem? (i := 38) rfl) rfl
theorem w2_39 : (Cond.static yJ9_min_7cf53) ∈ xA := xI2 (List.mem_of_getElem? (i := 39) rfl) rfl
theorem w2_40 : (Cond.code yJ9_min_7cf53 cJ9_min_7cf53 2 (some FieldType.int)) ∈ xA := xI2 (List.mem_of_getElem? (i := 40) rfl) rfl
theorem w2_41 : (Cond.methodLink RX6 273 yX2_soldInAll) ∈ xA := xI2 (List.mem_of_getElem? (i := 41) rfl) rfl
theorem w2_42 : (Cond.instanceMethod yX2_soldInAll) ∈ xA := xI2 (List.mem_of_getElem? (i := 42) rfl) rfl
theorem w2_43 : (Cond.selects RX2 yX2_soldInAll yX2_soldInAll) ∈ xA := xI2 (List.mem_of_getElem? (i := 43) rfl) rfl
theorem w2_44 : (Cond.code yX2_soldInAll cX2_soldInAll 3 (some FieldType.int)) ∈ xA := xI2 (List.mem_of_getElem? (i := 44) rfl) rfl
theorem w2_45 : (Cond.methodLink RX6 276 yX2_pass) ∈ xA := xI2 (List.mem_of_getElem? (i := 45) rfl) rfl
theorem w2_46 : (Cond.instanceMethod yX2_pass) ∈ xA := xI2 (List.mem_of_getElem? (i := 46) rfl) rfl
theorem w2_47 : (Cond.selects RX2 yX2_pass yX2_pass) ∈ xA := xI2 (List.mem_of_getElem? (i := 47) rfl) rfl
theorem w2_48 : (Cond.code yX2_pass cX2_pass 5 none) ∈ xA := xI2 (List.mem_of_getElem? (i := 48) rfl) rfl
theorem w2_49 : (Cond.methodLink RX2 128 yX2_densityNow) ∈ xA := xI2 (List.mem_of_getElem? (i := 49) rfl) rfl
theorem w2_50 : (Cond.instanceMethod yX2_densityNow) ∈ xA := xI2 (List.mem_of_getElem? (i := 50) rfl) rfl
theorem w2_51 : (Cond.selects RX2 yX2_densityNow yX2_densityNow) ∈ xA := xI2 (List.mem_of_getElem? (i := 51) rfl) rfl
theorem w2_52 : (Cond.code yX2_densityNow cX2_densityNow 1 (some FieldType.int)) ∈ xA := xI2 (List.mem_of_getElem? (i := 52) rfl) rfl
theorem w2_53 : (Cond.methodLink RX2 71 yX2_densityIn) ∈ xA := xI2 (List.mem_of_getElem? (i := 53) rfl) rfl
theorem w2_54 : (Cond.methodLink RX2 132 yX2_moveBell) ∈ xA := xI2 (List.mem_of_getElem? (i := 54) rfl) rfl
theorem w2_55 : (Cond.instanceMethod yX2_moveBell) ∈ xA := xI2 (List.mem_of_getElem? (i := 55) rfl) rfl
theorem w2_56 : (Cond.selects RX2 yX2_moveBell yX2_moveBell) ∈ xA := xI2 (List.mem_of_getElem? (i := 56) rfl) rfl
theorem w2_57 : (Cond.code yX2_moveBell cX2_moveBell 4 none) ∈ xA := xI2 (List.mem_of_getElem? (i := 57) rfl) rfl
theorem w2_58 : (Cond.methodLink RX2 122 yX2_returnGood) ∈ xA := xI2 (List.mem_of_getElem? (i := 58) rfl) rfl
theorem w2_59 : (Cond.instanceMethod yX2_returnGood) ∈ xA := xI2 (List.mem_of_getElem? (i := 59) rfl) rfl
theorem w2_60 : (Cond.selects RX2 yX2_returnGood yX2_returnGood) ∈ xA := xI2 (List.mem_of_getElem? (i := 60) rfl) rfl
theorem w2_61 : (Cond.code yX2_returnGood cX2_returnGood 2 none) ∈ xA := xI2 (List.mem_of_getElem? (i := 61) rfl) rfl
theorem w2_62 : (Cond.methodLink RX2 113 yX2_isStall) ∈ xA := xI2 (List.mem_of_getElem? (i := 62) rfl) rfl
theorem w2_63 : (Cond.instanceMethod yX2_isStall) ∈ xA := xI2 (List.mem_of_getElem? (i := 63) rfl) rfl
theorem w2_64 : (Cond.selects RX2 yX2_isStall yX2_isStall) ∈ xA := xI2 (List.mem_of_getElem? (i := 64) rfl) rfl
theorem w2_65 : (Cond.code yX2_isStall cX2_isStall 2 (some FieldType.boolean)) ∈ xA := xI2 (List.mem_of_getElem? (i := 65) rfl) rfl
theorem w2_66 : (Cond.methodLink RX2 119 yX1_letGo) ∈ xA := xI2 (List.mem_of_getElem? (i := 66) rfl) rfl
theorem w2_67 : (Cond.instanceMethod yX1_letGo) ∈ xA := xI2 (List.mem_of_getElem? (i := 67) rfl) rfl
theorem w2_68 : (Cond.selects RX1 yX1_letGo yX1_letGo) ∈ xA := xI2 (List.mem_of_getElem? (i := 68) rfl) rfl
theorem w2_69 : (Cond.code yX1_letGo cX1_letGo 1 none) ∈ xA := xI2 (List.mem_of_getElem? (i := 69) rfl) rfl
theorem w2_70 : (Cond.methodLink RX2 135 yX2_letAct) ∈ xA := xI2 (List.mem_of_getElem? (i := 70) rfl) rfl
theorem w2_72 : (Cond.instanceMethod yX2_letAct) ∈ xA := xI2 (List.mem_of_getElem? (i := 72) rfl) rfl
theorem w2_73 : (Cond.instantiable RX2 14) ∈ xA := xI2 (List.mem_of_getElem? (i := 73) rfl) rfl
theorem w2_74 : (Cond.code yX2_letAct cX2_letAct 5 none) ∈ xA := xI2 (List.mem_of_getElem? (i := 74) rfl) rfl
theorem w2_75 : (Cond.methodLink RX2 148 yX1_walkTo) ∈ xA := xI2 (List.mem_of_getElem? (i := 75) rfl) rfl
theorem w2_76 : (Cond.instanceMethod yX1_walkTo) ∈ xA := xI2 (List.mem_of_getElem? (i := 76) rfl) rfl
theorem w2_77 : (Cond.selects RX1 yX1_walkTo yX1_walkTo) ∈ xA := xI2 (List.mem_of_getElem? (i := 77) rfl) rfl
theorem w2_78 : (Cond.code yX1_walkTo cX1_walkTo 2 none) ∈ xA := xI2 (List.mem_of_getElem? (i := 78) rfl) rfl
theorem w2_79 : (Cond.methodLink RX2 151 yX1_payTo) ∈ xA := xI2 (List.mem_of_getElem? (i := 79) rfl) rfl
theorem w2_80 : (Cond.instanceMethod yX1_payTo) ∈ xA := xI2 (List.mem_of_getElem? (i := 80) rfl) rfl
theorem w2_81 : (Cond.selects RX1 yX1_payTo yX1_payTo) ∈ xA := xI2 (List.mem_of_getElem? (i := 81) rfl) rfl
theorem w2_82 : (Cond.code yX1_payTo cX1_payTo 2 none) ∈ xA := xI2 (List.mem_of_getElem? (i := 82) rfl) rfl
theorem w2_83 : (Cond.methodLink RX1 53 yX1_letGo) ∈ xA := xI2 (List.mem_of_getElem? (i := 83) rfl) rfl
theorem w2_84 : (Cond.methodLink RX2 154 yX2_findTarget) ∈ xA := xI2 (List.mem_of_getElem? (i := 84) rfl) rfl
theorem w2_85 : (Cond.instanceMethod yX2_findTarget) ∈ xA := xI2 (List.mem_of_getElem? (i := 85) rfl) rfl
theorem w2_86 : (Cond.selects RX2 yX2_findTarget yX2_findTarget) ∈ xA := xI2 (List.mem_of_getElem? (i := 86) rfl) rfl
theorem w2_87 : (Cond.code yX2_findTarget cX2_findTarget 8 (some FieldType.int)) ∈ xA := xI2 (List.mem_of_getElem? (i := 87) rfl) rfl
theorem w2_88 : (Cond.methodLink RX2 88 yJ9_abs_0f7a4) ∈ xA := xI2 (List.mem_of_getElem? (i := 88) rfl) rfl
theorem w2_89 : (Cond.methodLink RX2 96 yX4_paces) ∈ xA := xI2 (List.mem_of_getElem? (i := 89) rfl) rfl
theorem w2_90 : (Cond.static yX4_paces) ∈ xA := xI2 (List.mem_of_getElem? (i := 90) rfl) rfl
theorem w2_91 : (Cond.code yX4_paces cX4_paces 2 (some FieldType.int)) ∈ xA := xI2 (List.mem_of_getElem? (i := 91) rfl) rfl
theorem w2_92 : (Cond.methodLink RX2 100 yX1_avoids) ∈ xA := xI2 (List.mem_of_getElem? (i := 92) rfl) rfl
theorem w2_93 : (Cond.instanceMethod yX1_avoids) ∈ xA := xI2 (List.mem_of_getElem? (i := 93) rfl) rfl
theorem w2_94 : (Cond.selects RX1 yX1_avoids yX1_avoids) ∈ xA := xI2 (List.mem_of_getElem? (i := 94) rfl) rfl
theorem w2_95 : (Cond.code yX1_avoids cX1_avoids 2 (some FieldType.boolean)) ∈ xA := xI2 (List.mem_of_getElem? (i := 95) rfl) rfl
theorem w2_96 : (Cond.methodLink RX2 158 yX1_feel) ∈ xA := xI2 (List.mem_of_getElem? (i := 96) rfl) rfl
theorem w2_97 : (Cond.instanceMethod yX1_feel) ∈ xA := xI2 (List.mem_of_getElem? (i := 97) rfl) rfl
theorem w2_98 : (Cond.selects RX1 yX1_feel yX1_feel) ∈ xA := xI2 (List.mem_of_getElem? (i := 98) rfl) rfl
theorem w2_99 : (Cond.code yX1_feel cX1_feel 2 (some FieldType.int)) ∈ xA := xI2 (List.mem_of_getElem? (i := 99) rfl) rfl
theorem w2_100 : (Cond.methodLink RX2 162 yX1_take) ∈ xA := xI2 (List.mem_of_getElem? (i := 100) rfl) rfl
theorem w2_101 : (Cond.instanceMethod yX1_take) ∈ xA := xI2 (List.mem_of_getElem? (i := 101) rfl) rfl
theorem w2_102 : (Cond.selects RX1 yX1_take yX1_take) ∈ xA := xI2 (List.mem_of_getElem? (i := 102) rfl) rfl
theorem w2_103 : (Cond.code yX1_take cX1_take 3 none) ∈ xA := xI2 (List.mem_of_getElem? (i := 103) rfl) rfl
theorem w2_104 : (Cond.methodLink RX2 125 yX1_avoid) ∈ xA := xI2 (List.mem_of_getElem? (i := 104) rfl) rfl
theorem w2_105 : (Cond.instanceMethod yX1_avoid) ∈ xA := xI2 (List.mem_of_getElem? (i := 105) rfl) rfl
theorem w2_106 : (Cond.selects RX1 yX1_avoid yX1_avoid) ∈ xA := xI2 (List.mem_of_getElem? (i := 106) rfl) rfl
theorem w2_107 : (Cond.code yX1_avoid cX1_avoid 2 none) ∈ xA := xI2 (List.mem_of_getElem? (i := 107) rfl) rfl
theorem w2_108 : (Cond.methodLink RX2 139 yX4_letMistIn) ∈ xA := xI2 (List.mem_of_getElem? (i := 108) rfl) rfl
theorem w2_109 : (Cond.instanceMethod yX4_letMistIn) ∈ xA := xI2 (List.mem_of_getElem? (i := 109) rfl) rfl
theorem w2_110 : (Cond.selects RX4 yX4_letMistIn yX4_letMistIn) ∈ xA := xI2 (List.mem_of_getElem? (i := 110) rfl) rfl
theorem w2_111 : (Cond.code yX4_letMistIn cX4_letMistIn 2 none) ∈ xA := xI2 (List.mem_of_getElem? (i := 111) rfl) rfl
theorem w2_112 : (Cond.methodLink RX4 49 yX4_guardedDensity) ∈ xA := xI2 (List.mem_of_getElem? (i := 112) rfl) rfl
theorem w2_114 : (Cond.instanceMethod yX4_guardedDensity) ∈ xA := xI2 (List.mem_of_getElem? (i := 114) rfl) rfl
theorem w2_115 : (Cond.instantiable RX4 9) ∈ xA := xI2 (List.mem_of_getElem? (i := 115) rfl) rfl
theorem w2_116 : (Cond.code yX4_guardedDensity cX4_guardedDensity 1 (some FieldType.int)) ∈ xA := xI2 (List.mem_of_getElem? (i := 116) rfl) rfl
theorem w2_117 : (Cond.methodLink RX2 142 yX2_countMinute) ∈ xA := xI2 (List.mem_of_getElem? (i := 117) rfl) rfl
theorem w2_118 : (Cond.instanceMethod yX2_countMinute) ∈ xA := xI2 (List.mem_of_getElem? (i := 118) rfl) rfl
theorem w2_119 : (Cond.selects RX2 yX2_countMinute yX2_countMinute) ∈ xA := xI2 (List.mem_of_getElem? (i := 119) rfl) rfl
theorem w2_120 : (Cond.code yX2_countMinute cX2_countMinute 1 none) ∈ xA := xI2 (List.mem_of_getElem? (i := 120) rfl) rfl
theorem w2_121 : (Cond.methodLink RL 37 yL_cell) ∈ xA := xI2 (List.mem_of_getElem? (i := 121) rfl) rfl
theorem w2_122 : (Cond.static yL_cell) ∈ xA := xI2 (List.mem_of_getElem? (i := 122) rfl) rfl
theorem w2_123 : (Cond.code yL_cell cL_cell 2 (some FieldType.int)) ∈ xA := xI2 (List.mem_of_getElem? (i := 123) rfl) rfl
theorem w2_124 : (Cond.methodLink RL 105 yL_market) ∈ xA := xI2 (List.mem_of_getElem? (i := 124) rfl) rfl
theorem w2_125 : (Cond.static yL_market) ∈ xA := xI2 (List.mem_of_getElem? (i := 125) rfl) rfl
theorem w2_126 : (Cond.code yL_market cL_market 9 (some (FieldType.object "FogBellMarket"))) ∈ xA := xI2 (List.mem_of_getElem? (i := 126) rfl) rfl
theorem w2_127 : (Cond.methodLink RL 43 yL_in) ∈ xA := xI2 (List.mem_of_getElem? (i := 127) rfl) rfl
theorem w2_128 : (Cond.static yL_in) ∈ xA := xI2 (List.mem_of_getElem? (i := 128) rfl) rfl
theorem w2_129 : (Cond.code yL_in cL_in 2 (some FieldType.int)) ∈ xA := xI2 (List.mem_of_getElem? (i := 129) rfl) rfl
theorem w2_130 : (Cond.constant RL 7 (2147483647)) ∈ xA := xI2 (List.mem_of_getElem? (i := 130) rfl) rfl
theorem w2_131 : (Cond.classLink RL 14 "java/lang/StringBuilder") ∈ xA := xI2 (List.mem_of_getElem? (i := 131) rfl) rfl
theorem w2_132 : (Cond.instantiable RJ4 4) ∈ xA := xI2 (List.mem_of_getElem? (i := 132) rfl) rfl
theorem w2_133 : (Cond.methodLink RL 16 yJ4_init_da8c8) ∈ xA := xI2 (List.mem_of_getElem? (i := 133) rfl) rfl
theorem w2_134 : (Cond.instanceMethod yJ4_init_da8c8) ∈ xA := xI2 (List.mem_of_getElem? (i := 134) rfl) rfl
theorem w2_135 : (Cond.code yJ4_init_da8c8 cJ4_init_da8c8 1 none) ∈ xA := xI2 (List.mem_of_getElem? (i := 135) rfl) rfl
theorem w2_136 : (Cond.methodLink RJ4 1 yJ5_init_d00df) ∈ xA := xI2 (List.mem_of_getElem? (i := 136) rfl) rfl
theorem w2_137 : (Cond.instanceMethod yJ5_init_d00df) ∈ xA := xI2 (List.mem_of_getElem? (i := 137) rfl) rfl
theorem w2_138 : (Cond.code yJ5_init_d00df cJ5_init_d00df 2 none) ∈ xA := xI2 (List.mem_of_getElem? (i := 138) rfl) rfl
theorem w2_139 : (Cond.methodLink RJ5 3 (⟨"java/lang/Object", "<init>", "()V"⟩)) ∈ xA := xI2 (List.mem_of_getElem? (i := 139) rfl) rfl
theorem w2_140 : (Cond.fieldLink RJ5 18 "java/lang/String" "COMPACT_STRINGS" "Z") ∈ xA := xI2 (List.mem_of_getElem? (i := 140) rfl) rfl
theorem w2_142 : (Cond.methodLink RJ5 26 yJ2_newBytesFor_77867) ∈ xA := xI2 (List.mem_of_getElem? (i := 142) rfl) rfl
theorem w2_143 : (Cond.static yJ2_newBytesFor_77867) ∈ xA := xI2 (List.mem_of_getElem? (i := 143) rfl) rfl
theorem w2_144 : (Cond.code yJ2_newBytesFor_77867 cJ2_newBytesFor_77867 1 (some (FieldType.array FieldType.byte))) ∈ xA := xI2 (List.mem_of_getElem? (i := 144) rfl) rfl
theorem w2_145 : (Cond.methodLink RJ2 11 yJ2_newBytesLength_0f7a4) ∈ xA := xI2 (List.mem_of_getElem? (i := 145) rfl) rfl
theorem w2_146 : (Cond.static yJ2_newBytesLength_0f7a4) ∈ xA := xI2 (List.mem_of_getElem? (i := 146) rfl) rfl
theorem w2_147 : (Cond.code yJ2_newBytesLength_0f7a4 cJ2_newBytesLength_0f7a4 1 (some FieldType.int)) ∈ xA := xI2 (List.mem_of_getElem? (i := 147) rfl) rfl
theorem w2_148 : (Cond.constant RJ2 20 (1073741823)) ∈ xA := xI2 (List.mem_of_getElem? (i := 148) rfl) rfl
theorem w2_149 : (Cond.fieldLink RJ5 15 "java/lang/AbstractStringBuilder" "value" "[B") ∈ xA := xI2 (List.mem_of_getElem? (i := 149) rfl) rfl
theorem w2_150 : (Cond.fieldLink RJ5 22 "java/lang/AbstractStringBuilder" "coder" "B") ∈ xA := xI2 (List.mem_of_getElem? (i := 150) rfl) rfl
theorem w2_151 : (Cond.fieldLink RJ0 1048 "java/lang/AbstractStringBuilder" "maybeLatin1" "Z") ∈ xA := xI2 (List.mem_of_getElem? (i := 151) rfl) rfl
theorem w2_152 : (Cond.fieldLink RJ5 79 "java/lang/AbstractStringBuilder" "count" "I") ∈ xA := xI2 (List.mem_of_getElem? (i := 152) rfl) rfl
theorem w2_153 : (Cond.lays RJ4 "java/lang/AbstractStringBuilder" "value" "[B") ∈ xA := xI2 (List.mem_of_getElem? (i := 153) rfl) rfl
theorem w2_155 : (Cond.lays RJ4 "java/lang/AbstractStringBuilder" "coder" "B") ∈ xA := xI2 (List.mem_of_getElem? (i := 155) rfl) rfl
theorem w2_157 : (Cond.lays RJ4 "java/lang/AbstractStringBuilder" "maybeLatin1" "Z") ∈ xA := xI2 (List.mem_of_getElem? (i := 157) rfl) rfl
theorem w2_159 : (Cond.lays RJ4 "java/lang/AbstractStringBuilder" "count" "I") ∈ xA := xI2 (List.mem_of_getElem? (i := 159) rfl) rfl
theorem w2_161 : (Cond.superclass RJ4 RJ5) ∈ xA := xI2 (List.mem_of_getElem? (i := 161) rfl) rfl
theorem w2_163 : (Cond.methodLink RL 17 yJ4_append_15ec4) ∈ xA := xI2 (List.mem_of_getElem? (i := 163) rfl) rfl
theorem w2_164 : (Cond.instanceMethod yJ4_append_15ec4) ∈ xA := xI2 (List.mem_of_getElem? (i := 164) rfl) rfl
theorem w2_165 : (Cond.selects RJ4 yJ4_append_15ec4 yJ4_append_15ec4) ∈ xA := xI2 (List.mem_of_getElem? (i := 165) rfl) rfl
theorem w2_166 : (Cond.code yJ4_append_15ec4 cJ4_append_15ec4 2 (some (FieldType.object "java/lang/StringBuilder"))) ∈ xA := xI2 (List.mem_of_getElem? (i := 166) rfl) rfl
theorem w2_167 : (Cond.methodLink RJ4 29 yJ5_append_cf1ce) ∈ xA := xI2 (List.mem_of_getElem? (i := 167) rfl) rfl
theorem w2_168 : (Cond.instanceMethod yJ5_append_cf1ce) ∈ xA := xI2 (List.mem_of_getElem? (i := 168) rfl) rfl
theorem w2_169 : (Cond.code yJ5_append_cf1ce cJ5_append_cf1ce 3 (some (FieldType.object "java/lang/AbstractStringBuilder"))) ∈ xA := xI2 (List.mem_of_getElem? (i := 169) rfl) rfl
theorem w2_170 : (Cond.methodLink RJ5 204 yJ5_appendNull_278bc) ∈ xA := xI2 (List.mem_of_getElem? (i := 170) rfl) rfl
theorem w2_172 : (Cond.instanceMethod yJ5_appendNull_278bc) ∈ xA := xI2 (List.mem_of_getElem? (i := 172) rfl) rfl
theorem w2_173 : (Cond.code yJ5_appendNull_278bc cJ5_appendNull_278bc 3 (some (FieldType.object "java/lang/AbstractStringBuilder"))) ∈ xA := xI2 (List.mem_of_getElem? (i := 173) rfl) rfl
theorem w2_174 : (Cond.methodLink RJ5 100 yJ5_ensureCapacityInternal_d00df) ∈ xA := xI2 (List.mem_of_getElem? (i := 174) rfl) rfl
theorem w2_176 : (Cond.instanceMethod yJ5_ensureCapacityInternal_d00df) ∈ xA := xI2 (List.mem_of_getElem? (i := 176) rfl) rfl
theorem w2_177 : (Cond.code yJ5_ensureCapacityInternal_d00df cJ5_ensureCapacityInternal_d00df 3 none) ∈ xA := xI2 (List.mem_of_getElem? (i := 177) rfl) rfl
theorem w2_178 : (Cond.methodLink RJ5 104 yJ5_newCapacity_0f7a4) ∈ xA := xI2 (List.mem_of_getElem? (i := 178) rfl) rfl
theorem w2_180 : (Cond.instanceMethod yJ5_newCapacity_0f7a4) ∈ xA := xI2 (List.mem_of_getElem? (i := 180) rfl) rfl
theorem w2_181 : (Cond.code yJ5_newCapacity_0f7a4 cJ5_newCapacity_0f7a4 6 (some FieldType.int)) ∈ xA := xI2 (List.mem_of_getElem? (i := 181) rfl) rfl
theorem w2_182 : (Cond.methodLink RJ5 114 yJ8_newLength_cabcc) ∈ xA := xI2 (List.mem_of_getElem? (i := 182) rfl) rfl
theorem w2_183 : (Cond.static yJ8_newLength_cabcc) ∈ xA := xI2 (List.mem_of_getElem? (i := 183) rfl) rfl
theorem w2_184 : (Cond.code yJ8_newLength_cabcc cJ8_newLength_cabcc 4 (some FieldType.int)) ∈ xA := xI2 (List.mem_of_getElem? (i := 184) rfl) rfl
theorem w2_185 : (Cond.methodLink RJ8 194 yJ9_max_7cf53) ∈ xA := xI2 (List.mem_of_getElem? (i := 185) rfl) rfl
theorem w2_186 : (Cond.static yJ9_max_7cf53) ∈ xA := xI2 (List.mem_of_getElem? (i := 186) rfl) rfl
theorem w2_187 : (Cond.code yJ9_max_7cf53 cJ9_max_7cf53 2 (some FieldType.int)) ∈ xA := xI2 (List.mem_of_getElem? (i := 187) rfl) rfl
theorem w2_188 : (Cond.constant RJ8 200 (2147483639)) ∈ xA := xI2 (List.mem_of_getElem? (i := 188) rfl) rfl
theorem w2_189 : (Cond.methodLink RJ8 201 yJ8_hugeLength_7cf53) ∈ xA := xI2 (List.mem_of_getElem? (i := 189) rfl) rfl
theorem w2_190 : (Cond.static yJ8_hugeLength_7cf53) ∈ xA := xI2 (List.mem_of_getElem? (i := 190) rfl) rfl
theorem w2_191 : (Cond.code yJ8_hugeLength_7cf53 cJ8_hugeLength_7cf53 3 (some FieldType.int)) ∈ xA := xI2 (List.mem_of_getElem? (i := 191) rfl) rfl
theorem w2_192 : (Cond.constant RJ5 39 (2147483647)) ∈ xA := xI2 (List.mem_of_getElem? (i := 192) rfl) rfl
theorem w2_193 : (Cond.methodLink RJ5 108 yJ7_copyOf_9075b) ∈ xA := xI2 (List.mem_of_getElem? (i := 193) rfl) rfl
theorem w2_194 : (Cond.static yJ7_copyOf_9075b) ∈ xA := xI2 (List.mem_of_getElem? (i := 194) rfl) rfl
theorem w2_195 : (Cond.code yJ7_copyOf_9075b cJ7_copyOf_9075b 3 (some (FieldType.array FieldType.byte))) ∈ xA := xI2 (List.mem_of_getElem? (i := 195) rfl) rfl
theorem w2_196 : (Cond.methodLink RJ7 310 (⟨"[B", "clone", "()Ljava/lang/Object;"⟩)) ∈ xA := xI2 (List.mem_of_getElem? (i := 196) rfl) rfl
theorem w2_197 : (Cond.sameMethod "[B" "java/lang/Object" "clone" "()Ljava/lang/Object;") ∈ xA := xI2 (List.mem_of_getElem? (i := 197) rfl) rfl
theorem w2_198 : (Cond.native (⟨"java/lang/Object", "clone", "()Ljava/lang/Object;"⟩)) ∈ xA := xI2 (List.mem_of_getElem? (i := 198) rfl) rfl
theorem w2_199 : (Cond.instanceMethod (⟨"java/lang/Object", "clone", "()Ljava/lang/Object;"⟩)) ∈ xA := xI2 (List.mem_of_getElem? (i := 199) rfl) rfl
theorem w2_200 : (Cond.selects "[B" (⟨"[B", "clone", "()Ljava/lang/Object;"⟩) (⟨"java/lang/Object", "clone", "()Ljava/lang/Object;"⟩)) ∈ xA := xI2 (List.mem_of_getElem? (i := 200) rfl) rfl
theorem w2_202 : (Cond.classLink RJ7 311 "[B") ∈ xA := xI2 (List.mem_of_getElem? (i := 202) rfl) rfl
theorem w2_203 : (Cond.methodLink RJ7 304 yJ9_min_7cf53) ∈ xA := xI2 (List.mem_of_getElem? (i := 203) rfl) rfl
theorem w2_204 : (Cond.methodLink RJ7 150 (⟨"java/lang/System", "arraycopy", "(Ljava/lang/Object;ILjava/lang/Object;II)V"⟩)) ∈ xA := xI2 (List.mem_of_getElem? (i := 204) rfl) rfl
theorem w2_205 : (Cond.static (⟨"java/lang/System", "arraycopy", "(Ljava/lang/Object;ILjava/lang/Object;II)V"⟩)) ∈ xA := xI2 (List.mem_of_getElem? (i := 205) rfl) rfl
theorem w2_206 : (Cond.native (⟨"java/lang/System", "arraycopy", "(Ljava/lang/Object;ILjava/lang/Object;II)V"⟩)) ∈ xA := xI2 (List.mem_of_getElem? (i := 206) rfl) rfl
theorem w2_207 : (Cond.methodLink RJ5 83 yJ5_isLatin1_aae02) ∈ xA := xI2 (List.mem_of_getElem? (i := 207) rfl) rfl
theorem w2_208 : (Cond.instanceMethod yJ5_isLatin1_aae02) ∈ xA := xI2 (List.mem_of_getElem? (i := 208) rfl) rfl
theorem w2_209 : (Cond.sameMethod "java/lang/AbstractStringBuilder" "java/lang/AbstractStringBuilder" "isLatin1" "()Z") ∈ xA := xI2 (List.mem_of_getElem? (i := 209) rfl) rfl
theorem w2_210 : (Cond.selects RJ4 yJ5_isLatin1_aae02 yJ5_isLatin1_aae02) ∈ xA := xI2 (List.mem_of_getElem? (i := 210) rfl) rfl
theorem w2_211 : (Cond.code yJ5_isLatin1_aae02 cJ5_isLatin1_aae02 1 (some FieldType.boolean)) ∈ xA := xI2 (List.mem_of_getElem? (i := 211) rfl) rfl
theorem w2_212 : (Cond.methodLink RJ5 226 yJ2_putCharsAt_cd4e5) ∈ xA := xI2 (List.mem_of_getElem? (i := 212) rfl) rfl
theorem w2_213 : (Cond.static yJ2_putCharsAt_cd4e5) ∈ xA := xI2 (List.mem_of_getElem? (i := 213) rfl) rfl
theorem w2_214 : (Cond.code yJ2_putCharsAt_cd4e5 cJ2_putCharsAt_cd4e5 7 (some FieldType.int)) ∈ xA := xI2 (List.mem_of_getElem? (i := 214) rfl) rfl
theorem w2_215 : (Cond.methodLink RJ2 96 yJ2_checkBoundsBeginEnd_d044e) ∈ xA := xI2 (List.mem_of_getElem? (i := 215) rfl) rfl
theorem w2_216 : (Cond.static yJ2_checkBoundsBeginEnd_d044e) ∈ xA := xI2 (List.mem_of_getElem? (i := 216) rfl) rfl
theorem w2_217 : (Cond.code yJ2_checkBoundsBeginEnd_d044e cJ2_checkBoundsBeginEnd_d044e 3 none) ∈ xA := xI2 (List.mem_of_getElem? (i := 217) rfl) rfl
theorem w2_218 : (Cond.methodLink RJ2 48 yJ2_length_9d52b) ∈ xA := xI2 (List.mem_of_getElem? (i := 218) rfl) rfl
theorem w2_219 : (Cond.static yJ2_length_9d52b) ∈ xA := xI2 (List.mem_of_getElem? (i := 219) rfl) rfl
theorem w2_220 : (Cond.code yJ2_length_9d52b cJ2_length_9d52b 1 (some FieldType.int)) ∈ xA := xI2 (List.mem_of_getElem? (i := 220) rfl) rfl
theorem w2_221 : (Cond.methodLink RJ2 241 yJ0_checkBoundsBeginEnd_23922) ∈ xA := xI2 (List.mem_of_getElem? (i := 221) rfl) rfl
theorem w2_222 : (Cond.static yJ0_checkBoundsBeginEnd_23922) ∈ xA := xI2 (List.mem_of_getElem? (i := 222) rfl) rfl
theorem w2_223 : (Cond.code yJ0_checkBoundsBeginEnd_23922 cJ0_checkBoundsBeginEnd_23922 3 none) ∈ xA := xI2 (List.mem_of_getElem? (i := 223) rfl) rfl
theorem w2_224 : (Cond.fieldLink RJ0 1053 "jdk/internal/util/Preconditions" "SIOOBE_FORMATTER" "Ljava/util/function/BiFunction;") ∈ xA := xI2 (List.mem_of_getElem? (i := 224) rfl) rfl
theorem w2_226 : (Cond.methodLink RJ0 1062 yJ3_checkFromToIndex_8c36e) ∈ xA := xI2 (List.mem_of_getElem? (i := 226) rfl) rfl
theorem w2_227 : (Cond.static yJ3_checkFromToIndex_8c36e) ∈ xA := xI2 (List.mem_of_getElem? (i := 227) rfl) rfl
theorem w2_228 : (Cond.code yJ3_checkFromToIndex_8c36e cJ3_checkFromToIndex_8c36e 4 (some FieldType.int)) ∈ xA := xI2 (List.mem_of_getElem? (i := 228) rfl) rfl
theorem w2_229 : (Cond.methodLink RJ2 111 yJ2_putChar_b72d1) ∈ xA := xI2 (List.mem_of_getElem? (i := 229) rfl) rfl
theorem w2_230 : (Cond.static yJ2_putChar_b72d1) ∈ xA := xI2 (List.mem_of_getElem? (i := 230) rfl) rfl
theorem w2_231 : (Cond.code yJ2_putChar_b72d1 cJ2_putChar_b72d1 3 none) ∈ xA := xI2 (List.mem_of_getElem? (i := 231) rfl) rfl
theorem w2_232 : (Cond.fieldLink RJ2 44 "java/lang/StringUTF16" "$assertionsDisabled" "Z") ∈ xA := xI2 (List.mem_of_getElem? (i := 232) rfl) rfl
theorem w2_234 : (Cond.fieldLink RJ2 59 "java/lang/StringUTF16" "HI_BYTE_SHIFT" "I") ∈ xA := xI2 (List.mem_of_getElem? (i := 234) rfl) rfl
theorem w2_236 : (Cond.fieldLink RJ2 63 "java/lang/StringUTF16" "LO_BYTE_SHIFT" "I") ∈ xA := xI2 (List.mem_of_getElem? (i := 236) rfl) rfl
theorem w2_238 : (Cond.methodLink RJ5 32 yJ0_length_8abf5) ∈ xA := xI2 (List.mem_of_getElem? (i := 238) rfl) rfl
theorem w2_239 : (Cond.instanceMethod yJ0_length_8abf5) ∈ xA := xI2 (List.mem_of_getElem? (i := 239) rfl) rfl
theorem w3_0 : (Cond.selects RJ0 yJ0_length_8abf5 yJ0_length_8abf5) ∈ xA := xI3 (List.mem_of_getElem? (i := 0) rfl) rfl
theorem w3_1 : (Cond.code yJ0_length_8abf5 cJ0_length_8abf5 1 (some FieldType.int)) ∈ xA := xI3 (List.mem_of_getElem? (i := 1) rfl) rfl
theorem w3_2 : (Cond.methodLink RJ0 335 yJ0_coder_7d493) ∈ xA := xI3 (List.mem_of_getElem? (i := 2) rfl) rfl
theorem w3_3 : (Cond.instanceMethod yJ0_coder_7d493) ∈ xA := xI3 (List.mem_of_getElem? (i := 3) rfl) rfl
theorem w3_4 : (Cond.selects RJ0 yJ0_coder_7d493 yJ0_coder_7d493) ∈ xA := xI3 (List.mem_of_getElem? (i := 4) rfl) rfl
theorem w3_5 : (Cond.code yJ0_coder_7d493 cJ0_coder_7d493 1 (some FieldType.byte)) ∈ xA := xI3 (List.mem_of_getElem? (i := 5) rfl) rfl
theorem w3_6 : (Cond.fieldLink RJ0 38 "java/lang/String" "COMPACT_STRINGS" "Z") ∈ xA := xI3 (List.mem_of_getElem? (i := 6) rfl) rfl
theorem w3_7 : (Cond.methodLink RJ5 208 yJ5_putStringAt_47b60) ∈ xA := xI3 (List.mem_of_getElem? (i := 7) rfl) rfl
theorem w3_9 : (Cond.instanceMethod yJ5_putStringAt_47b60) ∈ xA := xI3 (List.mem_of_getElem? (i := 9) rfl) rfl
theorem w3_10 : (Cond.code yJ5_putStringAt_47b60 cJ5_putStringAt_47b60 3 none) ∈ xA := xI3 (List.mem_of_getElem? (i := 10) rfl) rfl
theorem w3_11 : (Cond.methodLink RJ5 397 yJ5_inflateIfNeededFor_a7421) ∈ xA := xI3 (List.mem_of_getElem? (i := 11) rfl) rfl
theorem w3_13 : (Cond.instanceMethod yJ5_inflateIfNeededFor_a7421) ∈ xA := xI3 (List.mem_of_getElem? (i := 13) rfl) rfl
theorem w3_14 : (Cond.code yJ5_inflateIfNeededFor_a7421 cJ5_inflateIfNeededFor_a7421 2 none) ∈ xA := xI3 (List.mem_of_getElem? (i := 14) rfl) rfl
theorem w3_15 : (Cond.methodLink RJ5 40 yJ0_coder_7d493) ∈ xA := xI3 (List.mem_of_getElem? (i := 15) rfl) rfl
theorem w3_16 : (Cond.methodLink RJ5 195 yJ5_inflate_da8c8) ∈ xA := xI3 (List.mem_of_getElem? (i := 16) rfl) rfl
theorem w3_18 : (Cond.instanceMethod yJ5_inflate_da8c8) ∈ xA := xI3 (List.mem_of_getElem? (i := 18) rfl) rfl
theorem w3_19 : (Cond.code yJ5_inflate_da8c8 cJ5_inflate_da8c8 2 none) ∈ xA := xI3 (List.mem_of_getElem? (i := 19) rfl) rfl
theorem w3_20 : (Cond.methodLink RJ5 125 yJ1_inflate_0e8fd) ∈ xA := xI3 (List.mem_of_getElem? (i := 20) rfl) rfl
theorem w3_21 : (Cond.static yJ1_inflate_0e8fd) ∈ xA := xI3 (List.mem_of_getElem? (i := 21) rfl) rfl
theorem w3_22 : (Cond.code yJ1_inflate_0e8fd cJ1_inflate_0e8fd 5 none) ∈ xA := xI3 (List.mem_of_getElem? (i := 22) rfl) rfl
theorem w3_23 : (Cond.methodLink RJ1 240 yJ2_inflate_0e8fd) ∈ xA := xI3 (List.mem_of_getElem? (i := 23) rfl) rfl
theorem w3_24 : (Cond.static yJ2_inflate_0e8fd) ∈ xA := xI3 (List.mem_of_getElem? (i := 24) rfl) rfl
theorem w3_25 : (Cond.code yJ2_inflate_0e8fd cJ2_inflate_0e8fd 6 none) ∈ xA := xI3 (List.mem_of_getElem? (i := 25) rfl) rfl
theorem w3_26 : (Cond.methodLink RJ2 173 yJ2_checkBoundsOffCount_d044e) ∈ xA := xI3 (List.mem_of_getElem? (i := 26) rfl) rfl
theorem w3_27 : (Cond.static yJ2_checkBoundsOffCount_d044e) ∈ xA := xI3 (List.mem_of_getElem? (i := 27) rfl) rfl
theorem w3_28 : (Cond.code yJ2_checkBoundsOffCount_d044e cJ2_checkBoundsOffCount_d044e 3 none) ∈ xA := xI3 (List.mem_of_getElem? (i := 28) rfl) rfl
theorem w3_29 : (Cond.methodLink RJ2 419 yJ0_checkBoundsOffCount_cabcc) ∈ xA := xI3 (List.mem_of_getElem? (i := 29) rfl) rfl
theorem w3_30 : (Cond.static yJ0_checkBoundsOffCount_cabcc) ∈ xA := xI3 (List.mem_of_getElem? (i := 30) rfl) rfl
theorem w3_31 : (Cond.code yJ0_checkBoundsOffCount_cabcc cJ0_checkBoundsOffCount_cabcc 3 (some FieldType.int)) ∈ xA := xI3 (List.mem_of_getElem? (i := 31) rfl) rfl
theorem w3_32 : (Cond.methodLink RJ0 1065 yJ3_checkFromIndexSize_8c36e) ∈ xA := xI3 (List.mem_of_getElem? (i := 32) rfl) rfl
theorem w3_33 : (Cond.static yJ3_checkFromIndexSize_8c36e) ∈ xA := xI3 (List.mem_of_getElem? (i := 33) rfl) rfl
theorem w3_34 : (Cond.code yJ3_checkFromIndexSize_8c36e cJ3_checkFromIndexSize_8c36e 4 (some FieldType.int)) ∈ xA := xI3 (List.mem_of_getElem? (i := 34) rfl) rfl
theorem w3_35 : (Cond.methodLink RJ5 399 yJ0_getBytes_840e7) ∈ xA := xI3 (List.mem_of_getElem? (i := 35) rfl) rfl
theorem w3_36 : (Cond.instanceMethod yJ0_getBytes_840e7) ∈ xA := xI3 (List.mem_of_getElem? (i := 36) rfl) rfl
theorem w3_37 : (Cond.selects RJ0 yJ0_getBytes_840e7 yJ0_getBytes_840e7) ∈ xA := xI3 (List.mem_of_getElem? (i := 37) rfl) rfl
theorem w3_38 : (Cond.code yJ0_getBytes_840e7 cJ0_getBytes_840e7 4 none) ∈ xA := xI3 (List.mem_of_getElem? (i := 38) rfl) rfl
theorem w3_39 : (Cond.methodLink RJ0 212 (⟨"java/lang/System", "arraycopy", "(Ljava/lang/Object;ILjava/lang/Object;II)V"⟩)) ∈ xA := xI3 (List.mem_of_getElem? (i := 39) rfl) rfl
theorem w3_40 : (Cond.methodLink RJ0 106 yJ1_inflate_0e8fd) ∈ xA := xI3 (List.mem_of_getElem? (i := 40) rfl) rfl
theorem w3_41 : (Cond.methodLink RL 49 yJ4_append_bf812) ∈ xA := xI3 (List.mem_of_getElem? (i := 41) rfl) rfl
theorem w3_42 : (Cond.instanceMethod yJ4_append_bf812) ∈ xA := xI3 (List.mem_of_getElem? (i := 42) rfl) rfl
theorem w3_43 : (Cond.selects RJ4 yJ4_append_bf812 yJ4_append_bf812) ∈ xA := xI3 (List.mem_of_getElem? (i := 43) rfl) rfl
theorem w3_44 : (Cond.code yJ4_append_bf812 cJ4_append_bf812 2 (some (FieldType.object "java/lang/StringBuilder"))) ∈ xA := xI3 (List.mem_of_getElem? (i := 44) rfl) rfl
theorem w3_45 : (Cond.methodLink RJ4 53 yJ5_append_c97b9) ∈ xA := xI3 (List.mem_of_getElem? (i := 45) rfl) rfl
theorem w3_46 : (Cond.instanceMethod yJ5_append_c97b9) ∈ xA := xI3 (List.mem_of_getElem? (i := 46) rfl) rfl
theorem w3_47 : (Cond.code yJ5_append_c97b9 cJ5_append_c97b9 4 (some (FieldType.object "java/lang/AbstractStringBuilder"))) ∈ xA := xI3 (List.mem_of_getElem? (i := 47) rfl) rfl
theorem w3_48 : (Cond.methodLink RJ5 245 yJ6_stringSize_0f7a4) ∈ xA := xI3 (List.mem_of_getElem? (i := 48) rfl) rfl
theorem w3_49 : (Cond.static yJ6_stringSize_0f7a4) ∈ xA := xI3 (List.mem_of_getElem? (i := 49) rfl) rfl
theorem w3_50 : (Cond.code yJ6_stringSize_0f7a4 cJ6_stringSize_0f7a4 4 (some FieldType.int)) ∈ xA := xI3 (List.mem_of_getElem? (i := 50) rfl) rfl
theorem w3_51 : (Cond.methodLink RJ5 248 yJ6_getChars_ba4f3) ∈ xA := xI3 (List.mem_of_getElem? (i := 51) rfl) rfl
theorem w3_52 : (Cond.static yJ6_getChars_ba4f3) ∈ xA := xI3 (List.mem_of_getElem? (i := 52) rfl) rfl
theorem w3_53 : (Cond.code yJ6_getChars_ba4f3 cJ6_getChars_ba4f3 7 (some FieldType.int)) ∈ xA := xI3 (List.mem_of_getElem? (i := 53) rfl) rfl
theorem w3_54 : (Cond.fieldLink RJ6 83 "java/lang/Integer" "DigitOnes" "[B") ∈ xA := xI3 (List.mem_of_getElem? (i := 54) rfl) rfl
theorem w3_56 : (Cond.fieldLink RJ6 87 "java/lang/Integer" "DigitTens" "[B") ∈ xA := xI3 (List.mem_of_getElem? (i := 56) rfl) rfl
theorem w3_58 : (Cond.methodLink RJ5 251 yJ2_getChars_46870) ∈ xA := xI3 (List.mem_of_getElem? (i := 58) rfl) rfl
theorem w3_59 : (Cond.static yJ2_getChars_46870) ∈ xA := xI3 (List.mem_of_getElem? (i := 59) rfl) rfl
theorem w3_60 : (Cond.code yJ2_getChars_46870 cJ2_getChars_46870 5 (some FieldType.int)) ∈ xA := xI3 (List.mem_of_getElem? (i := 60) rfl) rfl
theorem w3_61 : (Cond.methodLink RJ2 393 yJ2_getChars_ba4f3) ∈ xA := xI3 (List.mem_of_getElem? (i := 61) rfl) rfl
theorem w3_62 : (Cond.static yJ2_getChars_ba4f3) ∈ xA := xI3 (List.mem_of_getElem? (i := 62) rfl) rfl
theorem w3_63 : (Cond.code yJ2_getChars_ba4f3 cJ2_getChars_ba4f3 7 (some FieldType.int)) ∈ xA := xI3 (List.mem_of_getElem? (i := 63) rfl) rfl
theorem w3_64 : (Cond.fieldLink RJ2 403 "java/lang/Integer" "DigitOnes" "[B") ∈ xA := xI3 (List.mem_of_getElem? (i := 64) rfl) rfl
theorem w3_65 : (Cond.fieldLink RJ2 407 "java/lang/Integer" "DigitTens" "[B") ∈ xA := xI3 (List.mem_of_getElem? (i := 65) rfl) rfl
theorem w3_68 : (Cond.methodLink RL 23 yJ4_toString_0e30d) ∈ xA := xI3 (List.mem_of_getElem? (i := 68) rfl) rfl
theorem w3_69 : (Cond.instanceMethod yJ4_toString_0e30d) ∈ xA := xI3 (List.mem_of_getElem? (i := 69) rfl) rfl
theorem w3_70 : (Cond.selects RJ4 yJ4_toString_0e30d yJ4_toString_0e30d) ∈ xA := xI3 (List.mem_of_getElem? (i := 70) rfl) rfl
theorem w3_71 : (Cond.code yJ4_toString_0e30d cJ4_toString_0e30d 1 (some (FieldType.object "java/lang/String"))) ∈ xA := xI3 (List.mem_of_getElem? (i := 71) rfl) rfl
theorem w3_72 : (Cond.classLink RJ4 18 "java/lang/String") ∈ xA := xI3 (List.mem_of_getElem? (i := 72) rfl) rfl
theorem w3_73 : (Cond.instantiable RJ0 4) ∈ xA := xI3 (List.mem_of_getElem? (i := 73) rfl) rfl
theorem w3_74 : (Cond.methodLink RJ4 137 yJ0_init_81219) ∈ xA := xI3 (List.mem_of_getElem? (i := 74) rfl) rfl
theorem w3_75 : (Cond.instanceMethod yJ0_init_81219) ∈ xA := xI3 (List.mem_of_getElem? (i := 75) rfl) rfl
theorem w3_76 : (Cond.code yJ0_init_81219 cJ0_init_81219 2 none) ∈ xA := xI3 (List.mem_of_getElem? (i := 76) rfl) rfl
theorem w3_77 : (Cond.methodLink RJ0 489 yJ0_init_db425) ∈ xA := xI3 (List.mem_of_getElem? (i := 77) rfl) rfl
theorem w3_78 : (Cond.instanceMethod yJ0_init_db425) ∈ xA := xI3 (List.mem_of_getElem? (i := 78) rfl) rfl
theorem w3_79 : (Cond.code yJ0_init_db425 cJ0_init_db425 5 none) ∈ xA := xI3 (List.mem_of_getElem? (i := 79) rfl) rfl
theorem w3_80 : (Cond.methodLink RJ0 1 (⟨"java/lang/Object", "<init>", "()V"⟩)) ∈ xA := xI3 (List.mem_of_getElem? (i := 80) rfl) rfl
theorem w3_81 : (Cond.methodLink RJ0 552 yJ5_getValue_6d5f1) ∈ xA := xI3 (List.mem_of_getElem? (i := 81) rfl) rfl
theorem w3_82 : (Cond.instanceMethod yJ5_getValue_6d5f1) ∈ xA := xI3 (List.mem_of_getElem? (i := 82) rfl) rfl
theorem w3_83 : (Cond.sameMethod "java/lang/AbstractStringBuilder" "java/lang/AbstractStringBuilder" "getValue" "()[B") ∈ xA := xI3 (List.mem_of_getElem? (i := 83) rfl) rfl
theorem w3_84 : (Cond.selects RJ4 yJ5_getValue_6d5f1 yJ5_getValue_6d5f1) ∈ xA := xI3 (List.mem_of_getElem? (i := 84) rfl) rfl
theorem w3_85 : (Cond.code yJ5_getValue_6d5f1 cJ5_getValue_6d5f1 1 (some (FieldType.array FieldType.byte))) ∈ xA := xI3 (List.mem_of_getElem? (i := 85) rfl) rfl
theorem w3_86 : (Cond.methodLink RJ0 549 yJ5_length_8abf5) ∈ xA := xI3 (List.mem_of_getElem? (i := 86) rfl) rfl
theorem w3_87 : (Cond.instanceMethod yJ5_length_8abf5) ∈ xA := xI3 (List.mem_of_getElem? (i := 87) rfl) rfl
theorem w3_88 : (Cond.sameMethod "java/lang/AbstractStringBuilder" "java/lang/AbstractStringBuilder" "length" "()I") ∈ xA := xI3 (List.mem_of_getElem? (i := 88) rfl) rfl
theorem w3_89 : (Cond.selects RJ4 yJ5_length_8abf5 yJ4_length_8abf5) ∈ xA := xI3 (List.mem_of_getElem? (i := 89) rfl) rfl
theorem w3_90 : (Cond.instanceMethod yJ4_length_8abf5) ∈ xA := xI3 (List.mem_of_getElem? (i := 90) rfl) rfl
theorem w3_91 : (Cond.code yJ4_length_8abf5 cJ4_length_8abf5 1 (some FieldType.int)) ∈ xA := xI3 (List.mem_of_getElem? (i := 91) rfl) rfl
theorem w3_92 : (Cond.methodLink RJ4 343 yJ5_length_8abf5) ∈ xA := xI3 (List.mem_of_getElem? (i := 92) rfl) rfl
theorem w3_93 : (Cond.code yJ5_length_8abf5 cJ5_length_8abf5 1 (some FieldType.int)) ∈ xA := xI3 (List.mem_of_getElem? (i := 93) rfl) rfl
theorem w3_94 : (Cond.methodLink RJ0 1047 yJ5_isLatin1_aae02) ∈ xA := xI3 (List.mem_of_getElem? (i := 94) rfl) rfl
theorem w3_95 : (Cond.methodLink RJ0 54 yJ7_copyOfRange_39247) ∈ xA := xI3 (List.mem_of_getElem? (i := 95) rfl) rfl
theorem w3_96 : (Cond.static yJ7_copyOfRange_39247) ∈ xA := xI3 (List.mem_of_getElem? (i := 96) rfl) rfl
theorem w3_97 : (Cond.code yJ7_copyOfRange_39247 cJ7_copyOfRange_39247 3 (some (FieldType.array FieldType.byte))) ∈ xA := xI3 (List.mem_of_getElem? (i := 97) rfl) rfl
theorem w3_98 : (Cond.methodLink RJ7 339 yJ7_copyOfRangeByte_39247) ∈ xA := xI3 (List.mem_of_getElem? (i := 98) rfl) rfl
theorem w3_99 : (Cond.static yJ7_copyOfRangeByte_39247) ∈ xA := xI3 (List.mem_of_getElem? (i := 99) rfl) rfl
theorem w3_100 : (Cond.code yJ7_copyOfRangeByte_39247 cJ7_copyOfRangeByte_39247 5 (some (FieldType.array FieldType.byte))) ∈ xA := xI3 (List.mem_of_getElem? (i := 100) rfl) rfl
theorem w3_101 : (Cond.methodLink RJ7 343 yJ7_checkLength_df160) ∈ xA := xI3 (List.mem_of_getElem? (i := 101) rfl) rfl
theorem w3_102 : (Cond.static yJ7_checkLength_df160) ∈ xA := xI3 (List.mem_of_getElem? (i := 102) rfl) rfl
theorem w3_103 : (Cond.code yJ7_checkLength_df160 cJ7_checkLength_df160 2 none) ∈ xA := xI3 (List.mem_of_getElem? (i := 103) rfl) rfl
theorem w3_104 : (Cond.methodLink RJ0 1051 yJ2_compress_39247) ∈ xA := xI3 (List.mem_of_getElem? (i := 104) rfl) rfl
theorem w3_105 : (Cond.static yJ2_compress_39247) ∈ xA := xI3 (List.mem_of_getElem? (i := 105) rfl) rfl
theorem w3_106 : (Cond.code yJ2_compress_39247 cJ2_compress_39247 6 (some (FieldType.array FieldType.byte))) ∈ xA := xI3 (List.mem_of_getElem? (i := 106) rfl) rfl
theorem w3_107 : (Cond.methodLink RJ2 123 yJ2_compress_5af95) ∈ xA := xI3 (List.mem_of_getElem? (i := 107) rfl) rfl
theorem w3_108 : (Cond.static yJ2_compress_5af95) ∈ xA := xI3 (List.mem_of_getElem? (i := 108) rfl) rfl
theorem w3_109 : (Cond.code yJ2_compress_5af95 cJ2_compress_5af95 7 (some FieldType.int)) ∈ xA := xI3 (List.mem_of_getElem? (i := 109) rfl) rfl
theorem w3_110 : (Cond.methodLink RJ2 71 yJ2_getChar_3b067) ∈ xA := xI3 (List.mem_of_getElem? (i := 110) rfl) rfl
theorem w3_111 : (Cond.static yJ2_getChar_3b067) ∈ xA := xI3 (List.mem_of_getElem? (i := 111) rfl) rfl
theorem w3_112 : (Cond.code yJ2_getChar_3b067 cJ2_getChar_3b067 2 (some FieldType.char)) ∈ xA := xI3 (List.mem_of_getElem? (i := 112) rfl) rfl
theorem w3_113 : (Cond.methodLink RJ2 126 yJ7_copyOfRange_39247) ∈ xA := xI3 (List.mem_of_getElem? (i := 113) rfl) rfl
theorem w3_114 : (Cond.methodLink RJ0 47 yJ2_coderFromArrayLen_85cad) ∈ xA := xI3 (List.mem_of_getElem? (i := 114) rfl) rfl
theorem w3_115 : (Cond.static yJ2_coderFromArrayLen_85cad) ∈ xA := xI3 (List.mem_of_getElem? (i := 115) rfl) rfl
theorem w3_116 : (Cond.code yJ2_coderFromArrayLen_85cad cJ2_coderFromArrayLen_85cad 2 (some FieldType.byte)) ∈ xA := xI3 (List.mem_of_getElem? (i := 116) rfl) rfl
theorem w3_117 : (Cond.fieldLink RJ0 9 "java/lang/String" "value" "[B") ∈ xA := xI3 (List.mem_of_getElem? (i := 117) rfl) rfl
theorem w3_118 : (Cond.fieldLink RJ0 15 "java/lang/String" "coder" "B") ∈ xA := xI3 (List.mem_of_getElem? (i := 118) rfl) rfl
theorem w3_119 : (Cond.laysFinal RJ0 "java/lang/String" "value" "[B") ∈ xA := xI3 (List.mem_of_getElem? (i := 119) rfl) rfl
theorem w3_121 : (Cond.laysFinal RJ0 "java/lang/String" "coder" "B") ∈ xA := xI3 (List.mem_of_getElem? (i := 121) rfl) rfl
theorem w3_123 : (Cond.lays RJ0 "java/lang/String" "hash" "I") ∈ xA := xI3 (List.mem_of_getElem? (i := 123) rfl) rfl
theorem w3_125 : (Cond.lays RJ0 "java/lang/String" "hashIsZero" "Z") ∈ xA := xI3 (List.mem_of_getElem? (i := 125) rfl) rfl
theorem w3_127 : (Cond.superclass "java/lang/String" "java/lang/Object") ∈ xA := xI3 (List.mem_of_getElem? (i := 127) rfl) rfl
theorem w3_128 : (Cond.classLink RL 32 "FogBellMarket") ∈ xA := xI3 (List.mem_of_getElem? (i := 128) rfl) rfl
theorem w3_129 : (Cond.methodLink RL 54 yX6_init) ∈ xA := xI3 (List.mem_of_getElem? (i := 129) rfl) rfl
theorem w3_130 : (Cond.instanceMethod yX6_init) ∈ xA := xI3 (List.mem_of_getElem? (i := 130) rfl) rfl
theorem w3_131 : (Cond.code yX6_init cX6_init 2 none) ∈ xA := xI3 (List.mem_of_getElem? (i := 131) rfl) rfl
theorem w3_132 : (Cond.methodLink RX6 1 (⟨"java/lang/Object", "<init>", "()V"⟩)) ∈ xA := xI3 (List.mem_of_getElem? (i := 132) rfl) rfl
theorem w3_133 : (Cond.classLink RX6 7 "FogBellMarket$Market") ∈ xA := xI3 (List.mem_of_getElem? (i := 133) rfl) rfl
theorem w3_134 : (Cond.methodLink RX6 9 yX2_init) ∈ xA := xI3 (List.mem_of_getElem? (i := 134) rfl) rfl
theorem w3_135 : (Cond.instanceMethod yX2_init) ∈ xA := xI3 (List.mem_of_getElem? (i := 135) rfl) rfl
theorem w3_136 : (Cond.code yX2_init cX2_init 2 none) ∈ xA := xI3 (List.mem_of_getElem? (i := 136) rfl) rfl
theorem w3_137 : (Cond.methodLink RX2 3 (⟨"java/lang/Object", "<init>", "()V"⟩)) ∈ xA := xI3 (List.mem_of_getElem? (i := 137) rfl) rfl
theorem w3_138 : (Cond.classLink RX2 9 "FogBellMarket$Stall") ∈ xA := xI3 (List.mem_of_getElem? (i := 138) rfl) rfl
theorem w3_140 : (Cond.classLink RX2 17 "FogBellMarket$Buyer") ∈ xA := xI3 (List.mem_of_getElem? (i := 140) rfl) rfl
theorem w3_143 : (Cond.instanceMethod yX4_init) ∈ xA := xI3 (List.mem_of_getElem? (i := 143) rfl) rfl
theorem w3_144 : (Cond.code yX4_init cX4_init 1 none) ∈ xA := xI3 (List.mem_of_getElem? (i := 144) rfl) rfl
theorem w3_145 : (Cond.methodLink RX4 3 (⟨"java/lang/Object", "<init>", "()V"⟩)) ∈ xA := xI3 (List.mem_of_getElem? (i := 145) rfl) rfl
theorem w3_146 : (Cond.fieldLink RX4 9 "FogBellMarket$Stall" "position" "I") ∈ xA := xI3 (List.mem_of_getElem? (i := 146) rfl) rfl
theorem w3_147 : (Cond.fieldLink RX2 84 "FogBellMarket$Stall" "position" "I") ∈ xA := xI3 (List.mem_of_getElem? (i := 147) rfl) rfl
theorem w3_148 : (Cond.fieldLink RX6 156 "FogBellMarket$Stall" "position" "I") ∈ xA := xI3 (List.mem_of_getElem? (i := 148) rfl) rfl
theorem w3_149 : (Cond.fieldLink RX4 15 "FogBellMarket$Stall" "lantern" "I") ∈ xA := xI3 (List.mem_of_getElem? (i := 149) rfl) rfl
theorem w3_150 : (Cond.fieldLink RX2 93 "FogBellMarket$Stall" "lantern" "I") ∈ xA := xI3 (List.mem_of_getElem? (i := 150) rfl) rfl
theorem w3_151 : (Cond.fieldLink RX6 161 "FogBellMarket$Stall" "lantern" "I") ∈ xA := xI3 (List.mem_of_getElem? (i := 151) rfl) rfl
theorem w3_152 : (Cond.fieldLink RX4 18 "FogBellMarket$Stall" "texture" "I") ∈ xA := xI3 (List.mem_of_getElem? (i := 152) rfl) rfl
theorem w3_153 : (Cond.fieldLink RX1 36 "FogBellMarket$Stall" "texture" "I") ∈ xA := xI3 (List.mem_of_getElem? (i := 153) rfl) rfl
theorem w3_154 : (Cond.fieldLink RX6 164 "FogBellMarket$Stall" "texture" "I") ∈ xA := xI3 (List.mem_of_getElem? (i := 154) rfl) rfl
theorem w3_155 : (Cond.fieldLink RX4 21 "FogBellMarket$Stall" "price" "I") ∈ xA := xI3 (List.mem_of_getElem? (i := 155) rfl) rfl
theorem w3_156 : (Cond.fieldLink RX1 44 "FogBellMarket$Stall" "price" "I") ∈ xA := xI3 (List.mem_of_getElem? (i := 156) rfl) rfl
theorem w3_157 : (Cond.fieldLink RX2 206 "FogBellMarket$Stall" "price" "I") ∈ xA := xI3 (List.mem_of_getElem? (i := 157) rfl) rfl
theorem w3_158 : (Cond.fieldLink RX6 167 "FogBellMarket$Stall" "price" "I") ∈ xA := xI3 (List.mem_of_getElem? (i := 158) rfl) rfl
theorem w3_159 : (Cond.fieldLink RX4 24 "FogBellMarket$Stall" "stock" "I") ∈ xA := xI3 (List.mem_of_getElem? (i := 159) rfl) rfl
theorem w3_160 : (Cond.fieldLink RX1 41 "FogBellMarket$Stall" "stock" "I") ∈ xA := xI3 (List.mem_of_getElem? (i := 160) rfl) rfl
theorem w3_161 : (Cond.fieldLink RX2 116 "FogBellMarket$Stall" "stock" "I") ∈ xA := xI3 (List.mem_of_getElem? (i := 161) rfl) rfl
theorem w3_162 : (Cond.fieldLink RX6 170 "FogBellMarket$Stall" "stock" "I") ∈ xA := xI3 (List.mem_of_getElem? (i := 162) rfl) rfl
theorem w3_163 : (Cond.fieldLink RX4 27 "FogBellMarket$Stall" "sold" "I") ∈ xA := xI3 (List.mem_of_getElem? (i := 163) rfl) rfl
theorem w3_164 : (Cond.fieldLink RX2 78 "FogBellMarket$Stall" "sold" "I") ∈ xA := xI3 (List.mem_of_getElem? (i := 164) rfl) rfl
theorem w3_165 : (Cond.fieldLink RX1 50 "FogBellMarket$Stall" "sold" "I") ∈ xA := xI3 (List.mem_of_getElem? (i := 165) rfl) rfl
theorem w3_166 : (Cond.fieldLink RX6 179 "FogBellMarket$Stall" "sold" "I") ∈ xA := xI3 (List.mem_of_getElem? (i := 166) rfl) rfl
theorem w3_167 : (Cond.fieldLink RX4 30 "FogBellMarket$Stall" "lost" "I") ∈ xA := xI3 (List.mem_of_getElem? (i := 167) rfl) rfl
theorem w3_168 : (Cond.fieldLink RX6 182 "FogBellMarket$Stall" "lost" "I") ∈ xA := xI3 (List.mem_of_getElem? (i := 168) rfl) rfl
theorem w3_169 : (Cond.fieldLink RX4 33 "FogBellMarket$Stall" "earned" "I") ∈ xA := xI3 (List.mem_of_getElem? (i := 169) rfl) rfl
theorem w3_170 : (Cond.fieldLink RX1 47 "FogBellMarket$Stall" "earned" "I") ∈ xA := xI3 (List.mem_of_getElem? (i := 170) rfl) rfl
theorem w3_171 : (Cond.fieldLink RX6 185 "FogBellMarket$Stall" "earned" "I") ∈ xA := xI3 (List.mem_of_getElem? (i := 171) rfl) rfl
theorem w3_172 : (Cond.fieldLink RX4 36 "FogBellMarket$Stall" "came" "I") ∈ xA := xI3 (List.mem_of_getElem? (i := 172) rfl) rfl
theorem w3_173 : (Cond.fieldLink RX6 265 "FogBellMarket$Stall" "came" "I") ∈ xA := xI3 (List.mem_of_getElem? (i := 173) rfl) rfl
theorem w3_174 : (Cond.lays RX4 "FogBellMarket$Stall" "position" "I") ∈ xA := xI3 (List.mem_of_getElem? (i := 174) rfl) rfl
theorem w3_176 : (Cond.lays RX4 "FogBellMarket$Stall" "lantern" "I") ∈ xA := xI3 (List.mem_of_getElem? (i := 176) rfl) rfl
theorem w3_178 : (Cond.lays RX4 "FogBellMarket$Stall" "texture" "I") ∈ xA := xI3 (List.mem_of_getElem? (i := 178) rfl) rfl
theorem w3_180 : (Cond.lays RX4 "FogBellMarket$Stall" "price" "I") ∈ xA := xI3 (List.mem_of_getElem? (i := 180) rfl) rfl
theorem w3_182 : (Cond.lays RX4 "FogBellMarket$Stall" "stock" "I") ∈ xA := xI3 (List.mem_of_getElem? (i := 182) rfl) rfl
theorem w3_184 : (Cond.lays RX4 "FogBellMarket$Stall" "sold" "I") ∈ xA := xI3 (List.mem_of_getElem? (i := 184) rfl) rfl
theorem w3_186 : (Cond.lays RX4 "FogBellMarket$Stall" "lost" "I") ∈ xA := xI3 (List.mem_of_getElem? (i := 186) rfl) rfl
theorem w3_188 : (Cond.lays RX4 "FogBellMarket$Stall" "earned" "I") ∈ xA := xI3 (List.mem_of_getElem? (i := 188) rfl) rfl
theorem w3_190 : (Cond.lays RX4 "FogBellMarket$Stall" "came" "I") ∈ xA := xI3 (List.mem_of_getElem? (i := 190) rfl) rfl
theorem w3_192 : (Cond.superclass "FogBellMarket$Stall" "java/lang/Object") ∈ xA := xI3 (List.mem_of_getElem? (i := 192) rfl) rfl
theorem w3_193 : (Cond.arrayClass FieldType.int) ∈ xA := xI3 (List.mem_of_getElem? (i := 193) rfl) rfl
theorem w3_194 : (Cond.instantiable RX1 8) ∈ xA := xI3 (List.mem_of_getElem? (i := 194) rfl) rfl
theorem w3_196 : (Cond.instanceMethod yX1_init) ∈ xA := xI3 (List.mem_of_getElem? (i := 196) rfl) rfl
theorem w3_197 : (Cond.code yX1_init cX1_init 1 none) ∈ xA := xI3 (List.mem_of_getElem? (i := 197) rfl) rfl
theorem w3_198 : (Cond.methodLink RX1 3 (⟨"java/lang/Object", "<init>", "()V"⟩)) ∈ xA := xI3 (List.mem_of_getElem? (i := 198) rfl) rfl
theorem w3_199 : (Cond.fieldLink RX1 15 "FogBellMarket$Buyer" "position" "I") ∈ xA := xI3 (List.mem_of_getElem? (i := 199) rfl) rfl
theorem w3_200 : (Cond.fieldLink RX2 87 "FogBellMarket$Buyer" "position" "I") ∈ xA := xI3 (List.mem_of_getElem? (i := 200) rfl) rfl
theorem w3_201 : (Cond.fieldLink RX6 218 "FogBellMarket$Buyer" "position" "I") ∈ xA := xI3 (List.mem_of_getElem? (i := 201) rfl) rfl
theorem w3_202 : (Cond.fieldLink RX1 18 "FogBellMarket$Buyer" "coins" "I") ∈ xA := xI3 (List.mem_of_getElem? (i := 202) rfl) rfl
theorem w3_203 : (Cond.fieldLink RX6 221 "FogBellMarket$Buyer" "coins" "I") ∈ xA := xI3 (List.mem_of_getElem? (i := 203) rfl) rfl
theorem w3_204 : (Cond.fieldLink RX1 21 "FogBellMarket$Buyer" "wanted" "I") ∈ xA := xI3 (List.mem_of_getElem? (i := 204) rfl) rfl
theorem w3_205 : (Cond.fieldLink RX6 224 "FogBellMarket$Buyer" "wanted" "I") ∈ xA := xI3 (List.mem_of_getElem? (i := 205) rfl) rfl
theorem w3_206 : (Cond.fieldLink RX1 24 "FogBellMarket$Buyer" "speed" "I") ∈ xA := xI3 (List.mem_of_getElem? (i := 206) rfl) rfl
theorem w3_207 : (Cond.fieldLink RX6 227 "FogBellMarket$Buyer" "speed" "I") ∈ xA := xI3 (List.mem_of_getElem? (i := 207) rfl) rfl
theorem w3_208 : (Cond.fieldLink RX1 9 "FogBellMarket$Buyer" "heldStall" "I") ∈ xA := xI3 (List.mem_of_getElem? (i := 208) rfl) rfl
theorem w3_209 : (Cond.fieldLink RX2 81 "FogBellMarket$Buyer" "heldStall" "I") ∈ xA := xI3 (List.mem_of_getElem? (i := 209) rfl) rfl
theorem w3_210 : (Cond.fieldLink RX6 230 "FogBellMarket$Buyer" "heldStall" "I") ∈ xA := xI3 (List.mem_of_getElem? (i := 210) rfl) rfl
theorem w3_211 : (Cond.fieldLink RX1 27 "FogBellMarket$Buyer" "debt" "I") ∈ xA := xI3 (List.mem_of_getElem? (i := 211) rfl) rfl
theorem w3_212 : (Cond.fieldLink RX6 233 "FogBellMarket$Buyer" "debt" "I") ∈ xA := xI3 (List.mem_of_getElem? (i := 212) rfl) rfl
theorem w3_213 : (Cond.fieldLink RX1 30 "FogBellMarket$Buyer" "avoided" "I") ∈ xA := xI3 (List.mem_of_getElem? (i := 213) rfl) rfl
theorem w3_214 : (Cond.fieldLink RX2 145 "FogBellMarket$Buyer" "avoided" "I") ∈ xA := xI3 (List.mem_of_getElem? (i := 214) rfl) rfl
theorem w3_215 : (Cond.fieldLink RX6 236 "FogBellMarket$Buyer" "avoided" "I") ∈ xA := xI3 (List.mem_of_getElem? (i := 215) rfl) rfl
theorem w3_216 : (Cond.fieldLink RX1 33 "FogBellMarket$Buyer" "bought" "I") ∈ xA := xI3 (List.mem_of_getElem? (i := 216) rfl) rfl
theorem w3_217 : (Cond.fieldLink RX6 239 "FogBellMarket$Buyer" "bought" "I") ∈ xA := xI3 (List.mem_of_getElem? (i := 217) rfl) rfl
theorem w3_218 : (Cond.lays RX1 "FogBellMarket$Buyer" "position" "I") ∈ xA := xI3 (List.mem_of_getElem? (i := 218) rfl) rfl
theorem w3_220 : (Cond.lays RX1 "FogBellMarket$Buyer" "coins" "I") ∈ xA := xI3 (List.mem_of_getElem? (i := 220) rfl) rfl
theorem w3_222 : (Cond.lays RX1 "FogBellMarket$Buyer" "wanted" "I") ∈ xA := xI3 (List.mem_of_getElem? (i := 222) rfl) rfl
theorem w3_224 : (Cond.lays RX1 "FogBellMarket$Buyer" "speed" "I") ∈ xA := xI3 (List.mem_of_getElem? (i := 224) rfl) rfl
theorem w3_226 : (Cond.lays RX1 "FogBellMarket$Buyer" "heldStall" "I") ∈ xA := xI3 (List.mem_of_getElem? (i := 226) rfl) rfl
theorem w3_228 : (Cond.lays RX1 "FogBellMarket$Buyer" "debt" "I") ∈ xA := xI3 (List.mem_of_getElem? (i := 228) rfl) rfl
theorem w3_230 : (Cond.lays RX1 "FogBellMarket$Buyer" "avoided" "I") ∈ xA := xI3 (List.mem_of_getElem? (i := 230) rfl) rfl
theorem w3_232 : (Cond.lays RX1 "FogBellMarket$Buyer" "bought" "I") ∈ xA := xI3 (List.mem_of_getElem? (i := 232) rfl) rfl
theorem w3_234 : (Cond.superclass "FogBellMarket$Buyer" "java/lang/Object") ∈ xA := xI3 (List.mem_of_getElem? (i := 234) rfl) rfl
theorem w3_235 : (Cond.fieldLink RX2 11 "FogBellMarket$Market" "stalls" "[LFogBellMarket$Stall;") ∈ xA := xI3 (List.mem_of_getElem? (i := 235) rfl) rfl
theorem w3_236 : (Cond.fieldLink RX3 168 "FogBellMarket$Market" "stalls" "[LFogBellMarket$Stall;") ∈ xA := xI3 (List.mem_of_getElem? (i := 236) rfl) rfl
theorem w3_237 : (Cond.fieldLink RX6 192 "FogBellMarket$Market" "stalls" "[LFogBellMarket$Stall;") ∈ xA := xI3 (List.mem_of_getElem? (i := 237) rfl) rfl
theorem w3_238 : (Cond.fieldLink RX2 29 "FogBellMarket$Market" "stallCount" "I") ∈ xA := xI3 (List.mem_of_getElem? (i := 238) rfl) rfl
theorem w3_239 : (Cond.fieldLink RX6 66 "FogBellMarket$Market" "stallCount" "I") ∈ xA := xI3 (List.mem_of_getElem? (i := 239) rfl) rfl
theorem w4_0 : (Cond.fieldLink RX3 121 "FogBellMarket$Market" "stallCount" "I") ∈ xA := xI4 (List.mem_of_getElem? (i := 0) rfl) rfl
theorem w4_1 : (Cond.fieldLink RX2 19 "FogBellMarket$Market" "buyers" "[LFogBellMarket$Buyer;") ∈ xA := xI4 (List.mem_of_getElem? (i := 1) rfl) rfl
theorem w4_2 : (Cond.fieldLink RX3 183 "FogBellMarket$Market" "buyers" "[LFogBellMarket$Buyer;") ∈ xA := xI4 (List.mem_of_getElem? (i := 2) rfl) rfl
theorem w4_3 : (Cond.fieldLink RX6 258 "FogBellMarket$Market" "buyers" "[LFogBellMarket$Buyer;") ∈ xA := xI4 (List.mem_of_getElem? (i := 3) rfl) rfl
theorem w4_4 : (Cond.fieldLink RX2 33 "FogBellMarket$Market" "buyerCount" "I") ∈ xA := xI4 (List.mem_of_getElem? (i := 4) rfl) rfl
theorem w4_5 : (Cond.fieldLink RX3 127 "FogBellMarket$Market" "buyerCount" "I") ∈ xA := xI4 (List.mem_of_getElem? (i := 5) rfl) rfl
theorem w4_6 : (Cond.fieldLink RX6 211 "FogBellMarket$Market" "buyerCount" "I") ∈ xA := xI4 (List.mem_of_getElem? (i := 6) rfl) rfl
theorem w4_7 : (Cond.fieldLink RX2 23 "FogBellMarket$Market" "fog" "[I") ∈ xA := xI4 (List.mem_of_getElem? (i := 7) rfl) rfl
theorem w4_8 : (Cond.fieldLink RX6 308 "FogBellMarket$Market" "fog" "[I") ∈ xA := xI4 (List.mem_of_getElem? (i := 8) rfl) rfl
theorem w4_9 : (Cond.fieldLink RX2 36 "FogBellMarket$Market" "fogLength" "I") ∈ xA := xI4 (List.mem_of_getElem? (i := 9) rfl) rfl
theorem w4_10 : (Cond.fieldLink RX3 155 "FogBellMarket$Market" "fogLength" "I") ∈ xA := xI4 (List.mem_of_getElem? (i := 10) rfl) rfl
theorem w4_11 : (Cond.fieldLink RX6 303 "FogBellMarket$Market" "fogLength" "I") ∈ xA := xI4 (List.mem_of_getElem? (i := 11) rfl) rfl
theorem w4_12 : (Cond.fieldLink RX2 39 "FogBellMarket$Market" "minute" "I") ∈ xA := xI4 (List.mem_of_getElem? (i := 12) rfl) rfl
theorem w4_13 : (Cond.fieldLink RX6 107 "FogBellMarket$Market" "minute" "I") ∈ xA := xI4 (List.mem_of_getElem? (i := 13) rfl) rfl
theorem w4_14 : (Cond.fieldLink RX2 42 "FogBellMarket$Market" "bell" "I") ∈ xA := xI4 (List.mem_of_getElem? (i := 14) rfl) rfl
theorem w4_15 : (Cond.fieldLink RX6 110 "FogBellMarket$Market" "bell" "I") ∈ xA := xI4 (List.mem_of_getElem? (i := 15) rfl) rfl
theorem w4_16 : (Cond.fieldLink RX2 45 "FogBellMarket$Market" "bellThreshold" "I") ∈ xA := xI4 (List.mem_of_getElem? (i := 16) rfl) rfl
theorem w4_17 : (Cond.fieldLink RX6 113 "FogBellMarket$Market" "bellThreshold" "I") ∈ xA := xI4 (List.mem_of_getElem? (i := 17) rfl) rfl
theorem w4_18 : (Cond.fieldLink RX2 48 "FogBellMarket$Market" "bellDuration" "I") ∈ xA := xI4 (List.mem_of_getElem? (i := 18) rfl) rfl
theorem w4_19 : (Cond.fieldLink RX6 116 "FogBellMarket$Market" "bellDuration" "I") ∈ xA := xI4 (List.mem_of_getElem? (i := 19) rfl) rfl
theorem w4_20 : (Cond.fieldLink RX2 51 "FogBellMarket$Market" "open" "Z") ∈ xA := xI4 (List.mem_of_getElem? (i := 20) rfl) rfl
theorem w4_21 : (Cond.fieldLink RX6 130 "FogBellMarket$Market" "open" "Z") ∈ xA := xI4 (List.mem_of_getElem? (i := 21) rfl) rfl
theorem w4_22 : (Cond.fieldLink RX2 55 "FogBellMarket$Market" "ready" "Z") ∈ xA := xI4 (List.mem_of_getElem? (i := 22) rfl) rfl
theorem w4_23 : (Cond.fieldLink RX6 134 "FogBellMarket$Market" "ready" "Z") ∈ xA := xI4 (List.mem_of_getElem? (i := 23) rfl) rfl
theorem w4_24 : (Cond.fieldLink RX2 58 "FogBellMarket$Market" "minutesOpen" "I") ∈ xA := xI4 (List.mem_of_getElem? (i := 24) rfl) rfl
theorem w4_25 : (Cond.fieldLink RX6 137 "FogBellMarket$Market" "minutesOpen" "I") ∈ xA := xI4 (List.mem_of_getElem? (i := 25) rfl) rfl
theorem w4_26 : (Cond.fieldLink RX2 61 "FogBellMarket$Market" "rings" "I") ∈ xA := xI4 (List.mem_of_getElem? (i := 26) rfl) rfl
theorem w4_27 : (Cond.fieldLink RX6 140 "FogBellMarket$Market" "rings" "I") ∈ xA := xI4 (List.mem_of_getElem? (i := 27) rfl) rfl
theorem w4_28 : (Cond.laysFinal RX2 "FogBellMarket$Market" "stalls" "[LFogBellMarket$Stall;") ∈ xA := xI4 (List.mem_of_getElem? (i := 28) rfl) rfl
theorem w4_30 : (Cond.lays RX2 "FogBellMarket$Market" "stallCount" "I") ∈ xA := xI4 (List.mem_of_getElem? (i := 30) rfl) rfl
theorem w4_32 : (Cond.laysFinal RX2 "FogBellMarket$Market" "buyers" "[LFogBellMarket$Buyer;") ∈ xA := xI4 (List.mem_of_getElem? (i := 32) rfl) rfl
theorem w4_34 : (Cond.lays RX2 "FogBellMarket$Market" "buyerCount" "I") ∈ xA := xI4 (List.mem_of_getElem? (i := 34) rfl) rfl
theorem w4_36 : (Cond.laysFinal RX2 "FogBellMarket$Market" "fog" "[I") ∈ xA := xI4 (List.mem_of_getElem? (i := 36) rfl) rfl
theorem w4_38 : (Cond.lays RX2 "FogBellMarket$Market" "fogLength" "I") ∈ xA := xI4 (List.mem_of_getElem? (i := 38) rfl) rfl
theorem w4_40 : (Cond.lays RX2 "FogBellMarket$Market" "minute" "I") ∈ xA := xI4 (List.mem_of_getElem? (i := 40) rfl) rfl
theorem w4_42 : (Cond.lays RX2 "FogBellMarket$Market" "bell" "I") ∈ xA := xI4 (List.mem_of_getElem? (i := 42) rfl) rfl
theorem w4_44 : (Cond.lays RX2 "FogBellMarket$Market" "bellThreshold" "I") ∈ xA := xI4 (List.mem_of_getElem? (i := 44) rfl) rfl
theorem w4_46 : (Cond.lays RX2 "FogBellMarket$Market" "bellDuration" "I") ∈ xA := xI4 (List.mem_of_getElem? (i := 46) rfl) rfl
theorem w4_48 : (Cond.lays RX2 "FogBellMarket$Market" "open" "Z") ∈ xA := xI4 (List.mem_of_getElem? (i := 48) rfl) rfl
theorem w4_50 : (Cond.lays RX2 "FogBellMarket$Market" "ready" "Z") ∈ xA := xI4 (List.mem_of_getElem? (i := 50) rfl) rfl
theorem w4_52 : (Cond.lays RX2 "FogBellMarket$Market" "minutesOpen" "I") ∈ xA := xI4 (List.mem_of_getElem? (i := 52) rfl) rfl
theorem w4_54 : (Cond.lays RX2 "FogBellMarket$Market" "rings" "I") ∈ xA := xI4 (List.mem_of_getElem? (i := 54) rfl) rfl
theorem w4_56 : (Cond.superclass "FogBellMarket$Market" "java/lang/Object") ∈ xA := xI4 (List.mem_of_getElem? (i := 56) rfl) rfl
theorem w4_57 : (Cond.classLink RX6 22 "FogBellMarket$Reader") ∈ xA := xI4 (List.mem_of_getElem? (i := 57) rfl) rfl
theorem w4_58 : (Cond.instantiable RX3 10) ∈ xA := xI4 (List.mem_of_getElem? (i := 58) rfl) rfl
theorem w4_60 : (Cond.instanceMethod yX3_init) ∈ xA := xI4 (List.mem_of_getElem? (i := 60) rfl) rfl
theorem w4_61 : (Cond.code yX3_init cX3_init 1 none) ∈ xA := xI4 (List.mem_of_getElem? (i := 61) rfl) rfl
theorem w4_62 : (Cond.methodLink RX3 3 (⟨"java/lang/Object", "<init>", "()V"⟩)) ∈ xA := xI4 (List.mem_of_getElem? (i := 62) rfl) rfl
theorem w4_63 : (Cond.fieldLink RX3 9 "FogBellMarket$Reader" "bytes" "[B") ∈ xA := xI4 (List.mem_of_getElem? (i := 63) rfl) rfl
theorem w4_64 : (Cond.fieldLink RX6 58 "FogBellMarket$Reader" "length" "I") ∈ xA := xI4 (List.mem_of_getElem? (i := 64) rfl) rfl
theorem w4_65 : (Cond.fieldLink RX3 37 "FogBellMarket$Reader" "length" "I") ∈ xA := xI4 (List.mem_of_getElem? (i := 65) rfl) rfl
theorem w4_66 : (Cond.fieldLink RX3 42 "FogBellMarket$Reader" "errorCode" "I") ∈ xA := xI4 (List.mem_of_getElem? (i := 66) rfl) rfl
theorem w4_67 : (Cond.fieldLink RX6 86 "FogBellMarket$Reader" "errorCode" "I") ∈ xA := xI4 (List.mem_of_getElem? (i := 67) rfl) rfl
theorem w4_68 : (Cond.fieldLink RX3 15 "FogBellMarket$Reader" "errorPosition" "I") ∈ xA := xI4 (List.mem_of_getElem? (i := 68) rfl) rfl
theorem w4_69 : (Cond.fieldLink RX3 91 "FogBellMarket$Reader" "verb" "LFogBellMarket$Verb;") ∈ xA := xI4 (List.mem_of_getElem? (i := 69) rfl) rfl
theorem w4_70 : (Cond.fieldLink RX2 166 "FogBellMarket$Reader" "verb" "LFogBellMarket$Verb;") ∈ xA := xI4 (List.mem_of_getElem? (i := 70) rfl) rfl
theorem w4_71 : (Cond.fieldLink RX3 19 "FogBellMarket$Reader" "arguments" "[I") ∈ xA := xI4 (List.mem_of_getElem? (i := 71) rfl) rfl
theorem w4_72 : (Cond.fieldLink RX3 39 "FogBellMarket$Reader" "next" "I") ∈ xA := xI4 (List.mem_of_getElem? (i := 72) rfl) rfl
theorem w4_73 : (Cond.fieldLink RX3 77 "FogBellMarket$Reader" "token" "I") ∈ xA := xI4 (List.mem_of_getElem? (i := 73) rfl) rfl
theorem w4_74 : (Cond.fieldLink RX3 206 "FogBellMarket$Reader" "tokenStart" "I") ∈ xA := xI4 (List.mem_of_getElem? (i := 74) rfl) rfl
theorem w4_75 : (Cond.fieldLink RX3 55 "FogBellMarket$Reader" "number" "I") ∈ xA := xI4 (List.mem_of_getElem? (i := 75) rfl) rfl
theorem w4_76 : (Cond.laysFinal RX3 "FogBellMarket$Reader" "bytes" "[B") ∈ xA := xI4 (List.mem_of_getElem? (i := 76) rfl) rfl
theorem w4_78 : (Cond.lays RX3 "FogBellMarket$Reader" "length" "I") ∈ xA := xI4 (List.mem_of_getElem? (i := 78) rfl) rfl
theorem w4_80 : (Cond.lays RX3 "FogBellMarket$Reader" "errorCode" "I") ∈ xA := xI4 (List.mem_of_getElem? (i := 80) rfl) rfl
theorem w4_82 : (Cond.lays RX3 "FogBellMarket$Reader" "errorPosition" "I") ∈ xA := xI4 (List.mem_of_getElem? (i := 82) rfl) rfl
theorem w4_84 : (Cond.lays RX3 "FogBellMarket$Reader" "verb" "LFogBellMarket$Verb;") ∈ xA := xI4 (List.mem_of_getElem? (i := 84) rfl) rfl
theorem w4_86 : (Cond.laysFinal RX3 "FogBellMarket$Reader" "arguments" "[I") ∈ xA := xI4 (List.mem_of_getElem? (i := 86) rfl) rfl
theorem w4_88 : (Cond.lays RX3 "FogBellMarket$Reader" "next" "I") ∈ xA := xI4 (List.mem_of_getElem? (i := 88) rfl) rfl
theorem w4_90 : (Cond.lays RX3 "FogBellMarket$Reader" "token" "I") ∈ xA := xI4 (List.mem_of_getElem? (i := 90) rfl) rfl
theorem w4_92 : (Cond.lays RX3 "FogBellMarket$Reader" "tokenStart" "I") ∈ xA := xI4 (List.mem_of_getElem? (i := 92) rfl) rfl
theorem w4_94 : (Cond.lays RX3 "FogBellMarket$Reader" "number" "I") ∈ xA := xI4 (List.mem_of_getElem? (i := 94) rfl) rfl
theorem w4_96 : (Cond.superclass "FogBellMarket$Reader" "java/lang/Object") ∈ xA := xI4 (List.mem_of_getElem? (i := 96) rfl) rfl
theorem w4_99 : (Cond.methodLink RX6 46 yX3_appendText) ∈ xA := xI4 (List.mem_of_getElem? (i := 99) rfl) rfl
theorem w4_100 : (Cond.instanceMethod yX3_appendText) ∈ xA := xI4 (List.mem_of_getElem? (i := 100) rfl) rfl
theorem w4_101 : (Cond.selects RX3 yX3_appendText yX3_appendText) ∈ xA := xI4 (List.mem_of_getElem? (i := 101) rfl) rfl
theorem w4_102 : (Cond.code yX3_appendText cX3_appendText 3 none) ∈ xA := xI4 (List.mem_of_getElem? (i := 102) rfl) rfl
theorem w4_103 : (Cond.methodLink RX3 23 yJ0_length_8abf5) ∈ xA := xI4 (List.mem_of_getElem? (i := 103) rfl) rfl
theorem w4_104 : (Cond.methodLink RX3 29 yJ0_charAt_5068e) ∈ xA := xI4 (List.mem_of_getElem? (i := 104) rfl) rfl
theorem w4_105 : (Cond.instanceMethod yJ0_charAt_5068e) ∈ xA := xI4 (List.mem_of_getElem? (i := 105) rfl) rfl
theorem w4_106 : (Cond.selects RJ0 yJ0_charAt_5068e yJ0_charAt_5068e) ∈ xA := xI4 (List.mem_of_getElem? (i := 106) rfl) rfl
theorem w4_107 : (Cond.code yJ0_charAt_5068e cJ0_charAt_5068e 2 (some FieldType.char)) ∈ xA := xI4 (List.mem_of_getElem? (i := 107) rfl) rfl
theorem w4_108 : (Cond.methodLink RJ0 492 yJ0_isLatin1_aae02) ∈ xA := xI4 (List.mem_of_getElem? (i := 108) rfl) rfl
theorem w4_109 : (Cond.instanceMethod yJ0_isLatin1_aae02) ∈ xA := xI4 (List.mem_of_getElem? (i := 109) rfl) rfl
theorem w4_110 : (Cond.selects RJ0 yJ0_isLatin1_aae02 yJ0_isLatin1_aae02) ∈ xA := xI4 (List.mem_of_getElem? (i := 110) rfl) rfl
theorem w4_111 : (Cond.code yJ0_isLatin1_aae02 cJ0_isLatin1_aae02 1 (some FieldType.boolean)) ∈ xA := xI4 (List.mem_of_getElem? (i := 111) rfl) rfl
theorem w4_112 : (Cond.methodLink RJ0 495 yJ1_charAt_3b067) ∈ xA := xI4 (List.mem_of_getElem? (i := 112) rfl) rfl
theorem w4_113 : (Cond.static yJ1_charAt_3b067) ∈ xA := xI4 (List.mem_of_getElem? (i := 113) rfl) rfl
theorem w4_114 : (Cond.code yJ1_charAt_3b067 cJ1_charAt_3b067 2 (some FieldType.char)) ∈ xA := xI4 (List.mem_of_getElem? (i := 114) rfl) rfl
theorem w4_115 : (Cond.methodLink RJ1 9 yJ0_checkIndex_df160) ∈ xA := xI4 (List.mem_of_getElem? (i := 115) rfl) rfl
theorem w4_116 : (Cond.static yJ0_checkIndex_df160) ∈ xA := xI4 (List.mem_of_getElem? (i := 116) rfl) rfl
theorem w4_117 : (Cond.code yJ0_checkIndex_df160 cJ0_checkIndex_df160 2 none) ∈ xA := xI4 (List.mem_of_getElem? (i := 117) rfl) rfl
theorem w4_118 : (Cond.methodLink RJ0 1059 yJ3_checkIndex_8e157) ∈ xA := xI4 (List.mem_of_getElem? (i := 118) rfl) rfl
theorem w4_119 : (Cond.static yJ3_checkIndex_8e157) ∈ xA := xI4 (List.mem_of_getElem? (i := 119) rfl) rfl
theorem w4_120 : (Cond.code yJ3_checkIndex_8e157 cJ3_checkIndex_8e157 3 (some FieldType.int)) ∈ xA := xI4 (List.mem_of_getElem? (i := 120) rfl) rfl
theorem w4_121 : (Cond.methodLink RJ0 498 yJ2_charAt_3b067) ∈ xA := xI4 (List.mem_of_getElem? (i := 121) rfl) rfl
theorem w4_122 : (Cond.static yJ2_charAt_3b067) ∈ xA := xI4 (List.mem_of_getElem? (i := 122) rfl) rfl
theorem w4_123 : (Cond.code yJ2_charAt_3b067 cJ2_charAt_3b067 2 (some FieldType.char)) ∈ xA := xI4 (List.mem_of_getElem? (i := 123) rfl) rfl
theorem w4_124 : (Cond.methodLink RJ2 67 yJ2_checkIndex_2214a) ∈ xA := xI4 (List.mem_of_getElem? (i := 124) rfl) rfl
theorem w4_125 : (Cond.static yJ2_checkIndex_2214a) ∈ xA := xI4 (List.mem_of_getElem? (i := 125) rfl) rfl
theorem w4_126 : (Cond.code yJ2_checkIndex_2214a cJ2_checkIndex_2214a 2 none) ∈ xA := xI4 (List.mem_of_getElem? (i := 126) rfl) rfl
theorem w4_127 : (Cond.methodLink RJ2 414 yJ0_checkIndex_df160) ∈ xA := xI4 (List.mem_of_getElem? (i := 127) rfl) rfl
theorem w4_128 : (Cond.methodLink RX3 33 yX3_appendByte) ∈ xA := xI4 (List.mem_of_getElem? (i := 128) rfl) rfl
theorem w4_130 : (Cond.instanceMethod yX3_appendByte) ∈ xA := xI4 (List.mem_of_getElem? (i := 130) rfl) rfl
theorem w4_131 : (Cond.code yX3_appendByte cX3_appendByte 2 none) ∈ xA := xI4 (List.mem_of_getElem? (i := 131) rfl) rfl
theorem w4_132 : (Cond.methodLink RX6 50 yX6_replaceMarket) ∈ xA := xI4 (List.mem_of_getElem? (i := 132) rfl) rfl
theorem w4_134 : (Cond.instanceMethod yX6_replaceMarket) ∈ xA := xI4 (List.mem_of_getElem? (i := 134) rfl) rfl
theorem w4_135 : (Cond.code yX6_replaceMarket cX6_replaceMarket 3 (some FieldType.boolean)) ∈ xA := xI4 (List.mem_of_getElem? (i := 135) rfl) rfl
theorem w4_136 : (Cond.methodLink RX6 73 yX3_begin) ∈ xA := xI4 (List.mem_of_getElem? (i := 136) rfl) rfl
theorem w4_137 : (Cond.instanceMethod yX3_begin) ∈ xA := xI4 (List.mem_of_getElem? (i := 137) rfl) rfl
theorem w4_138 : (Cond.selects RX3 yX3_begin yX3_begin) ∈ xA := xI4 (List.mem_of_getElem? (i := 138) rfl) rfl
theorem w4_139 : (Cond.code yX3_begin cX3_begin 1 none) ∈ xA := xI4 (List.mem_of_getElem? (i := 139) rfl) rfl
theorem w4_140 : (Cond.methodLink RX6 92 yX3_readHead) ∈ xA := xI4 (List.mem_of_getElem? (i := 140) rfl) rfl
theorem w4_141 : (Cond.instanceMethod yX3_readHead) ∈ xA := xI4 (List.mem_of_getElem? (i := 141) rfl) rfl
theorem w4_142 : (Cond.selects RX3 yX3_readHead yX3_readHead) ∈ xA := xI4 (List.mem_of_getElem? (i := 142) rfl) rfl
theorem w4_143 : (Cond.code yX3_readHead cX3_readHead 4 (some FieldType.boolean)) ∈ xA := xI4 (List.mem_of_getElem? (i := 143) rfl) rfl
theorem w4_145 : (Cond.methodLink RX3 47 yX3_readWord) ∈ xA := xI4 (List.mem_of_getElem? (i := 145) rfl) rfl
theorem w4_147 : (Cond.instanceMethod yX3_readWord) ∈ xA := xI4 (List.mem_of_getElem? (i := 147) rfl) rfl
theorem w4_148 : (Cond.code yX3_readWord cX3_readWord 2 (some FieldType.boolean)) ∈ xA := xI4 (List.mem_of_getElem? (i := 148) rfl) rfl
theorem w4_149 : (Cond.methodLink RX3 74 yX3_readToken) ∈ xA := xI4 (List.mem_of_getElem? (i := 149) rfl) rfl
theorem w4_151 : (Cond.instanceMethod yX3_readToken) ∈ xA := xI4 (List.mem_of_getElem? (i := 151) rfl) rfl
theorem w4_152 : (Cond.code yX3_readToken cX3_readToken 1 none) ∈ xA := xI4 (List.mem_of_getElem? (i := 152) rfl) rfl
theorem w4_153 : (Cond.methodLink RX3 209 yX3_byteAt) ∈ xA := xI4 (List.mem_of_getElem? (i := 153) rfl) rfl
theorem w4_155 : (Cond.instanceMethod yX3_byteAt) ∈ xA := xI4 (List.mem_of_getElem? (i := 155) rfl) rfl
theorem w4_156 : (Cond.code yX3_byteAt cX3_byteAt 2 (some FieldType.int)) ∈ xA := xI4 (List.mem_of_getElem? (i := 156) rfl) rfl
theorem w4_157 : (Cond.methodLink RX3 212 yX3_isLetter) ∈ xA := xI4 (List.mem_of_getElem? (i := 157) rfl) rfl
theorem w4_158 : (Cond.static yX3_isLetter) ∈ xA := xI4 (List.mem_of_getElem? (i := 158) rfl) rfl
theorem w4_159 : (Cond.code yX3_isLetter cX3_isLetter 1 (some FieldType.boolean)) ∈ xA := xI4 (List.mem_of_getElem? (i := 159) rfl) rfl
theorem w4_160 : (Cond.methodLink RX3 215 yX3_isDigit) ∈ xA := xI4 (List.mem_of_getElem? (i := 160) rfl) rfl
theorem w4_161 : (Cond.static yX3_isDigit) ∈ xA := xI4 (List.mem_of_getElem? (i := 161) rfl) rfl
theorem w4_162 : (Cond.code yX3_isDigit cX3_isDigit 1 (some FieldType.boolean)) ∈ xA := xI4 (List.mem_of_getElem? (i := 162) rfl) rfl
theorem w4_163 : (Cond.methodLink RX3 218 yX3_readDigits) ∈ xA := xI4 (List.mem_of_getElem? (i := 163) rfl) rfl
theorem w4_165 : (Cond.instanceMethod yX3_readDigits) ∈ xA := xI4 (List.mem_of_getElem? (i := 165) rfl) rfl
theorem w4_166 : (Cond.code yX3_readDigits cX3_readDigits 1 none) ∈ xA := xI4 (List.mem_of_getElem? (i := 166) rfl) rfl
theorem w4_167 : (Cond.constant RX3 221 (100000)) ∈ xA := xI4 (List.mem_of_getElem? (i := 167) rfl) rfl
theorem w4_168 : (Cond.methodLink RX3 115 yX3_isWord) ∈ xA := xI4 (List.mem_of_getElem? (i := 168) rfl) rfl
theorem w4_170 : (Cond.instanceMethod yX3_isWord) ∈ xA := xI4 (List.mem_of_getElem? (i := 170) rfl) rfl
theorem w4_171 : (Cond.code yX3_isWord cX3_isWord 3 (some FieldType.boolean)) ∈ xA := xI4 (List.mem_of_getElem? (i := 171) rfl) rfl
theorem w4_172 : (Cond.methodLink RX3 80 yX3_fail) ∈ xA := xI4 (List.mem_of_getElem? (i := 172) rfl) rfl
theorem w4_174 : (Cond.instanceMethod yX3_fail) ∈ xA := xI4 (List.mem_of_getElem? (i := 174) rfl) rfl
theorem w4_175 : (Cond.code yX3_fail cX3_fail 2 (some FieldType.boolean)) ∈ xA := xI4 (List.mem_of_getElem? (i := 175) rfl) rfl
theorem w4_176 : (Cond.methodLink RX3 51 yX3_readNumber) ∈ xA := xI4 (List.mem_of_getElem? (i := 176) rfl) rfl
theorem w4_178 : (Cond.instanceMethod yX3_readNumber) ∈ xA := xI4 (List.mem_of_getElem? (i := 178) rfl) rfl
theorem w4_179 : (Cond.code yX3_readNumber cX3_readNumber 3 (some FieldType.boolean)) ∈ xA := xI4 (List.mem_of_getElem? (i := 179) rfl) rfl
theorem w4_180 : (Cond.methodLink RX3 148 yX3_isNumberFrom) ∈ xA := xI4 (List.mem_of_getElem? (i := 180) rfl) rfl
theorem w4_182 : (Cond.instanceMethod yX3_isNumberFrom) ∈ xA := xI4 (List.mem_of_getElem? (i := 182) rfl) rfl
theorem w4_183 : (Cond.code yX3_isNumberFrom cX3_isNumberFrom 3 (some FieldType.boolean)) ∈ xA := xI4 (List.mem_of_getElem? (i := 183) rfl) rfl
theorem w4_184 : (Cond.methodLink RX3 58 yX2_reset) ∈ xA := xI4 (List.mem_of_getElem? (i := 184) rfl) rfl
theorem w4_185 : (Cond.instanceMethod yX2_reset) ∈ xA := xI4 (List.mem_of_getElem? (i := 185) rfl) rfl
theorem w4_186 : (Cond.selects RX2 yX2_reset yX2_reset) ∈ xA := xI4 (List.mem_of_getElem? (i := 186) rfl) rfl
theorem w4_187 : (Cond.code yX2_reset cX2_reset 4 none) ∈ xA := xI4 (List.mem_of_getElem? (i := 187) rfl) rfl
theorem w4_188 : (Cond.methodLink RX3 64 yX3_readSemicolon) ∈ xA := xI4 (List.mem_of_getElem? (i := 188) rfl) rfl
theorem w4_190 : (Cond.instanceMethod yX3_readSemicolon) ∈ xA := xI4 (List.mem_of_getElem? (i := 190) rfl) rfl
theorem w4_191 : (Cond.code yX3_readSemicolon cX3_readSemicolon 1 (some FieldType.boolean)) ∈ xA := xI4 (List.mem_of_getElem? (i := 191) rfl) rfl
theorem w4_193 : (Cond.methodLink RX3 70 yX3_readFog) ∈ xA := xI4 (List.mem_of_getElem? (i := 193) rfl) rfl
theorem w4_195 : (Cond.instanceMethod yX3_readFog) ∈ xA := xI4 (List.mem_of_getElem? (i := 195) rfl) rfl
theorem w4_196 : (Cond.code yX3_readFog cX3_readFog 3 (some FieldType.boolean)) ∈ xA := xI4 (List.mem_of_getElem? (i := 196) rfl) rfl
theorem w4_197 : (Cond.methodLink RX3 84 yX2_addDensity) ∈ xA := xI4 (List.mem_of_getElem? (i := 197) rfl) rfl
theorem w4_198 : (Cond.instanceMethod yX2_addDensity) ∈ xA := xI4 (List.mem_of_getElem? (i := 198) rfl) rfl
theorem w4_199 : (Cond.selects RX2 yX2_addDensity yX2_addDensity) ∈ xA := xI4 (List.mem_of_getElem? (i := 199) rfl) rfl
theorem w4_200 : (Cond.code yX2_addDensity cX2_addDensity 2 none) ∈ xA := xI4 (List.mem_of_getElem? (i := 200) rfl) rfl
theorem w4_201 : (Cond.methodLink RX6 76 yX6_readCommands) ∈ xA := xI4 (List.mem_of_getElem? (i := 201) rfl) rfl
theorem w4_203 : (Cond.instanceMethod yX6_readCommands) ∈ xA := xI4 (List.mem_of_getElem? (i := 203) rfl) rfl
theorem w4_204 : (Cond.code yX6_readCommands cX6_readCommands 2 (some FieldType.int)) ∈ xA := xI4 (List.mem_of_getElem? (i := 204) rfl) rfl
theorem w4_205 : (Cond.methodLink RX6 99 yX3_readCommand) ∈ xA := xI4 (List.mem_of_getElem? (i := 205) rfl) rfl
theorem w4_206 : (Cond.instanceMethod yX3_readCommand) ∈ xA := xI4 (List.mem_of_getElem? (i := 206) rfl) rfl
theorem w4_207 : (Cond.selects RX3 yX3_readCommand yX3_readCommand) ∈ xA := xI4 (List.mem_of_getElem? (i := 207) rfl) rfl
theorem w4_208 : (Cond.code yX3_readCommand cX3_readCommand 4 (some FieldType.boolean)) ∈ xA := xI4 (List.mem_of_getElem? (i := 208) rfl) rfl
theorem w4_209 : (Cond.methodLink RX3 87 yX3_verbRead) ∈ xA := xI4 (List.mem_of_getElem? (i := 209) rfl) rfl
theorem w4_211 : (Cond.instanceMethod yX3_verbRead) ∈ xA := xI4 (List.mem_of_getElem? (i := 211) rfl) rfl
theorem w4_212 : (Cond.code yX3_verbRead cX3_verbRead 2 (some (FieldType.object "FogBellMarket$Verb"))) ∈ xA := xI4 (List.mem_of_getElem? (i := 212) rfl) rfl
theorem w4_213 : (Cond.fieldLink RX3 108 "FogBellMarket$Reader" "VERBS" "[LFogBellMarket$Verb;") ∈ xA := xI4 (List.mem_of_getElem? (i := 213) rfl) rfl
theorem w4_215 : (Cond.methodLink RX3 95 yX3_hasNoRoom) ∈ xA := xI4 (List.mem_of_getElem? (i := 215) rfl) rfl
theorem w4_217 : (Cond.instanceMethod yX3_hasNoRoom) ∈ xA := xI4 (List.mem_of_getElem? (i := 217) rfl) rfl
theorem w4_218 : (Cond.code yX3_hasNoRoom cX3_hasNoRoom 2 (some FieldType.boolean)) ∈ xA := xI4 (List.mem_of_getElem? (i := 218) rfl) rfl
theorem w4_219 : (Cond.fieldLink RX3 118 "FogBellMarket$Verb" "STALL" "LFogBellMarket$Verb;") ∈ xA := xI4 (List.mem_of_getElem? (i := 219) rfl) rfl
theorem w4_221 : (Cond.fieldLink RX3 124 "FogBellMarket$Verb" "BUYER" "LFogBellMarket$Verb;") ∈ xA := xI4 (List.mem_of_getElem? (i := 221) rfl) rfl
theorem w4_223 : (Cond.methodLink RX3 104 yX3_readArgument) ∈ xA := xI4 (List.mem_of_getElem? (i := 223) rfl) rfl
theorem w4_225 : (Cond.instanceMethod yX3_readArgument) ∈ xA := xI4 (List.mem_of_getElem? (i := 225) rfl) rfl
theorem w4_226 : (Cond.code yX3_readArgument cX3_readArgument 5 (some FieldType.boolean)) ∈ xA := xI4 (List.mem_of_getElem? (i := 226) rfl) rfl
theorem w4_227 : (Cond.methodLink RX3 130 yX3_lanternRead) ∈ xA := xI4 (List.mem_of_getElem? (i := 227) rfl) rfl
theorem w4_229 : (Cond.instanceMethod yX3_lanternRead) ∈ xA := xI4 (List.mem_of_getElem? (i := 229) rfl) rfl
theorem w4_230 : (Cond.code yX3_lanternRead cX3_lanternRead 1 (some FieldType.int)) ∈ xA := xI4 (List.mem_of_getElem? (i := 230) rfl) rfl
theorem w4_235 : (Cond.methodLink RX3 133 yX3_textureRead) ∈ xA := xI4 (List.mem_of_getElem? (i := 235) rfl) rfl
theorem w4_237 : (Cond.instanceMethod yX3_textureRead) ∈ xA := xI4 (List.mem_of_getElem? (i := 237) rfl) rfl
theorem w4_238 : (Cond.code yX3_textureRead cX3_textureRead 1 (some FieldType.int)) ∈ xA := xI4 (List.mem_of_getElem? (i := 238) rfl) rfl
theorem w5_2 : (Cond.methodLink RX3 136 yX3_keepArgument) ∈ xA := xI5 (List.mem_of_getElem? (i := 2) rfl) rfl
theorem w5_4 : (Cond.instanceMethod yX3_keepArgument) ∈ xA := xI5 (List.mem_of_getElem? (i := 4) rfl) rfl
theorem w5_5 : (Cond.code yX3_keepArgument cX3_keepArgument 3 none) ∈ xA := xI5 (List.mem_of_getElem? (i := 5) rfl) rfl
theorem w5_6 : (Cond.methodLink RX3 140 yX3_lowest) ∈ xA := xI5 (List.mem_of_getElem? (i := 6) rfl) rfl
theorem w5_7 : (Cond.static yX3_lowest) ∈ xA := xI5 (List.mem_of_getElem? (i := 7) rfl) rfl
theorem w5_8 : (Cond.code yX3_lowest cX3_lowest 1 (some FieldType.int)) ∈ xA := xI5 (List.mem_of_getElem? (i := 8) rfl) rfl
theorem w5_9 : (Cond.methodLink RX3 144 yX3_highest) ∈ xA := xI5 (List.mem_of_getElem? (i := 9) rfl) rfl
theorem w5_10 : (Cond.static yX3_highest) ∈ xA := xI5 (List.mem_of_getElem? (i := 10) rfl) rfl
theorem w5_11 : (Cond.code yX3_highest cX3_highest 2 (some FieldType.int)) ∈ xA := xI5 (List.mem_of_getElem? (i := 11) rfl) rfl
theorem w5_12 : (Cond.methodLink RX3 151 yX3_isRefusedBy) ∈ xA := xI5 (List.mem_of_getElem? (i := 12) rfl) rfl
theorem w5_14 : (Cond.instanceMethod yX3_isRefusedBy) ∈ xA := xI5 (List.mem_of_getElem? (i := 14) rfl) rfl
theorem w5_15 : (Cond.code yX3_isRefusedBy cX3_isRefusedBy 4 (some FieldType.boolean)) ∈ xA := xI5 (List.mem_of_getElem? (i := 15) rfl) rfl
theorem w5_16 : (Cond.fieldLink RX3 158 "FogBellMarket$Verb" "STOCK" "LFogBellMarket$Verb;") ∈ xA := xI5 (List.mem_of_getElem? (i := 16) rfl) rfl
theorem w5_18 : (Cond.methodLink RX3 161 yX3_argument) ∈ xA := xI5 (List.mem_of_getElem? (i := 18) rfl) rfl
theorem w5_19 : (Cond.instanceMethod yX3_argument) ∈ xA := xI5 (List.mem_of_getElem? (i := 19) rfl) rfl
theorem w5_20 : (Cond.selects RX3 yX3_argument yX3_argument) ∈ xA := xI5 (List.mem_of_getElem? (i := 20) rfl) rfl
theorem w5_21 : (Cond.code yX3_argument cX3_argument 2 (some FieldType.int)) ∈ xA := xI5 (List.mem_of_getElem? (i := 21) rfl) rfl
theorem w5_22 : (Cond.methodLink RX3 165 yX2_isStall) ∈ xA := xI5 (List.mem_of_getElem? (i := 22) rfl) rfl
theorem w5_23 : (Cond.methodLink RX3 172 yX4_hasRoomFor) ∈ xA := xI5 (List.mem_of_getElem? (i := 23) rfl) rfl
theorem w5_24 : (Cond.instanceMethod yX4_hasRoomFor) ∈ xA := xI5 (List.mem_of_getElem? (i := 24) rfl) rfl
theorem w5_25 : (Cond.selects RX4 yX4_hasRoomFor yX4_hasRoomFor) ∈ xA := xI5 (List.mem_of_getElem? (i := 25) rfl) rfl
theorem w5_26 : (Cond.code yX4_hasRoomFor cX4_hasRoomFor 2 (some FieldType.boolean)) ∈ xA := xI5 (List.mem_of_getElem? (i := 26) rfl) rfl
theorem w5_27 : (Cond.fieldLink RX3 177 "FogBellMarket$Verb" "BACK" "LFogBellMarket$Verb;") ∈ xA := xI5 (List.mem_of_getElem? (i := 27) rfl) rfl
theorem w5_29 : (Cond.methodLink RX3 180 yX2_isBuyer) ∈ xA := xI5 (List.mem_of_getElem? (i := 29) rfl) rfl
theorem w5_30 : (Cond.instanceMethod yX2_isBuyer) ∈ xA := xI5 (List.mem_of_getElem? (i := 30) rfl) rfl
theorem w5_31 : (Cond.selects RX2 yX2_isBuyer yX2_isBuyer) ∈ xA := xI5 (List.mem_of_getElem? (i := 31) rfl) rfl
theorem w5_32 : (Cond.code yX2_isBuyer cX2_isBuyer 2 (some FieldType.boolean)) ∈ xA := xI5 (List.mem_of_getElem? (i := 32) rfl) rfl
theorem w5_33 : (Cond.methodLink RX3 187 yX1_holds) ∈ xA := xI5 (List.mem_of_getElem? (i := 33) rfl) rfl
theorem w5_34 : (Cond.instanceMethod yX1_holds) ∈ xA := xI5 (List.mem_of_getElem? (i := 34) rfl) rfl
theorem w5_35 : (Cond.selects RX1 yX1_holds yX1_holds) ∈ xA := xI5 (List.mem_of_getElem? (i := 35) rfl) rfl
theorem w5_36 : (Cond.code yX1_holds cX1_holds 1 (some FieldType.boolean)) ∈ xA := xI5 (List.mem_of_getElem? (i := 36) rfl) rfl
theorem w5_37 : (Cond.methodLink RX6 103 yX2_perform) ∈ xA := xI5 (List.mem_of_getElem? (i := 37) rfl) rfl
theorem w5_38 : (Cond.instanceMethod yX2_perform) ∈ xA := xI5 (List.mem_of_getElem? (i := 38) rfl) rfl
theorem w5_39 : (Cond.selects RX2 yX2_perform yX2_perform) ∈ xA := xI5 (List.mem_of_getElem? (i := 39) rfl) rfl
theorem w5_40 : (Cond.code yX2_perform cX2_perform 4 none) ∈ xA := xI5 (List.mem_of_getElem? (i := 40) rfl) rfl
theorem w5_41 : (Cond.methodLink RX2 172 yX3_argument) ∈ xA := xI5 (List.mem_of_getElem? (i := 41) rfl) rfl
theorem w5_42 : (Cond.fieldLink RX2 175 "FogBellMarket$1" "$SwitchMap$FogBellMarket$Verb" "[I") ∈ xA := xI5 (List.mem_of_getElem? (i := 42) rfl) rfl
theorem w5_44 : (Cond.methodLink RX2 180 (⟨"FogBellMarket$Verb", "ordinal", "()I"⟩)) ∈ xA := xI5 (List.mem_of_getElem? (i := 44) rfl) rfl
theorem w5_45 : (Cond.sameMethod "FogBellMarket$Verb" "java/lang/Enum" "ordinal" "()I") ∈ xA := xI5 (List.mem_of_getElem? (i := 45) rfl) rfl
theorem w5_47 : (Cond.selects RX5 (⟨"FogBellMarket$Verb", "ordinal", "()I"⟩) yJx29ce0_ordinal_8abf5) ∈ xA := xI5 (List.mem_of_getElem? (i := 47) rfl) rfl
theorem w5_48 : (Cond.instanceMethod yJx29ce0_ordinal_8abf5) ∈ xA := xI5 (List.mem_of_getElem? (i := 48) rfl) rfl
theorem w5_49 : (Cond.code yJx29ce0_ordinal_8abf5 cJx29ce0_ordinal_8abf5 1 (some FieldType.int)) ∈ xA := xI5 (List.mem_of_getElem? (i := 49) rfl) rfl
theorem w5_50 : (Cond.methodLink RX2 185 yX2_placeStall) ∈ xA := xI5 (List.mem_of_getElem? (i := 50) rfl) rfl
theorem w5_51 : (Cond.instanceMethod yX2_placeStall) ∈ xA := xI5 (List.mem_of_getElem? (i := 51) rfl) rfl
theorem w5_52 : (Cond.selects RX2 yX2_placeStall yX2_placeStall) ∈ xA := xI5 (List.mem_of_getElem? (i := 52) rfl) rfl
theorem w5_53 : (Cond.code yX2_placeStall cX2_placeStall 7 (some FieldType.int)) ∈ xA := xI5 (List.mem_of_getElem? (i := 53) rfl) rfl
theorem w5_54 : (Cond.methodLink RX2 104 yX4_reset) ∈ xA := xI5 (List.mem_of_getElem? (i := 54) rfl) rfl
theorem w5_55 : (Cond.instanceMethod yX4_reset) ∈ xA := xI5 (List.mem_of_getElem? (i := 55) rfl) rfl
theorem w5_56 : (Cond.selects RX4 yX4_reset yX4_reset) ∈ xA := xI5 (List.mem_of_getElem? (i := 56) rfl) rfl
theorem w5_57 : (Cond.code yX4_reset cX4_reset 5 none) ∈ xA := xI5 (List.mem_of_getElem? (i := 57) rfl) rfl
theorem w5_58 : (Cond.methodLink RX2 108 yX4_receive) ∈ xA := xI5 (List.mem_of_getElem? (i := 58) rfl) rfl
theorem w5_59 : (Cond.instanceMethod yX4_receive) ∈ xA := xI5 (List.mem_of_getElem? (i := 59) rfl) rfl
theorem w5_60 : (Cond.selects RX4 yX4_receive yX4_receive) ∈ xA := xI5 (List.mem_of_getElem? (i := 60) rfl) rfl
theorem w5_61 : (Cond.code yX4_receive cX4_receive 2 none) ∈ xA := xI5 (List.mem_of_getElem? (i := 61) rfl) rfl
theorem w5_62 : (Cond.methodLink RX2 189 yX2_placeBuyer) ∈ xA := xI5 (List.mem_of_getElem? (i := 62) rfl) rfl
theorem w5_63 : (Cond.instanceMethod yX2_placeBuyer) ∈ xA := xI5 (List.mem_of_getElem? (i := 63) rfl) rfl
theorem w5_64 : (Cond.selects RX2 yX2_placeBuyer yX2_placeBuyer) ∈ xA := xI5 (List.mem_of_getElem? (i := 64) rfl) rfl
theorem w5_65 : (Cond.code yX2_placeBuyer cX2_placeBuyer 6 (some FieldType.int)) ∈ xA := xI5 (List.mem_of_getElem? (i := 65) rfl) rfl
theorem w5_66 : (Cond.methodLink RX2 112 yX1_reset) ∈ xA := xI5 (List.mem_of_getElem? (i := 66) rfl) rfl
theorem w5_67 : (Cond.instanceMethod yX1_reset) ∈ xA := xI5 (List.mem_of_getElem? (i := 67) rfl) rfl
theorem w5_68 : (Cond.selects RX1 yX1_reset yX1_reset) ∈ xA := xI5 (List.mem_of_getElem? (i := 68) rfl) rfl
theorem w5_69 : (Cond.code yX1_reset cX1_reset 5 none) ∈ xA := xI5 (List.mem_of_getElem? (i := 69) rfl) rfl
theorem w5_70 : (Cond.methodLink RX2 193 yX2_isBuyer) ∈ xA := xI5 (List.mem_of_getElem? (i := 70) rfl) rfl
theorem w5_71 : (Cond.methodLink RX2 196 yX2_returnAndAvoid) ∈ xA := xI5 (List.mem_of_getElem? (i := 71) rfl) rfl
theorem w5_72 : (Cond.instanceMethod yX2_returnAndAvoid) ∈ xA := xI5 (List.mem_of_getElem? (i := 72) rfl) rfl
theorem w5_73 : (Cond.selects RX2 yX2_returnAndAvoid yX2_returnAndAvoid) ∈ xA := xI5 (List.mem_of_getElem? (i := 73) rfl) rfl
theorem w5_74 : (Cond.code yX2_returnAndAvoid cX2_returnAndAvoid 3 none) ∈ xA := xI5 (List.mem_of_getElem? (i := 74) rfl) rfl
theorem w5_75 : (Cond.methodLink RX2 199 yX2_pass) ∈ xA := xI5 (List.mem_of_getElem? (i := 75) rfl) rfl
theorem w5_76 : (Cond.methodLink RX2 202 yX2_changeStall) ∈ xA := xI5 (List.mem_of_getElem? (i := 76) rfl) rfl
theorem w5_77 : (Cond.static yX2_changeStall) ∈ xA := xI5 (List.mem_of_getElem? (i := 77) rfl) rfl
theorem w5_78 : (Cond.code yX2_changeStall cX2_changeStall 3 none) ∈ xA := xI5 (List.mem_of_getElem? (i := 78) rfl) rfl
theorem w5_79 : (Cond.methodLink RX6 80 yX3_clear) ∈ xA := xI5 (List.mem_of_getElem? (i := 79) rfl) rfl
theorem w5_80 : (Cond.instanceMethod yX3_clear) ∈ xA := xI5 (List.mem_of_getElem? (i := 80) rfl) rfl
theorem w5_81 : (Cond.selects RX3 yX3_clear yX3_clear) ∈ xA := xI5 (List.mem_of_getElem? (i := 81) rfl) rfl
theorem w5_82 : (Cond.code yX3_clear cX3_clear 1 none) ∈ xA := xI5 (List.mem_of_getElem? (i := 82) rfl) rfl
theorem w5_83 : (Cond.methodLink RX6 96 yX6_forgetChanges) ∈ xA := xI5 (List.mem_of_getElem? (i := 83) rfl) rfl
theorem w5_85 : (Cond.instanceMethod yX6_forgetChanges) ∈ xA := xI5 (List.mem_of_getElem? (i := 85) rfl) rfl
theorem w5_86 : (Cond.code yX6_forgetChanges cX6_forgetChanges 1 none) ∈ xA := xI5 (List.mem_of_getElem? (i := 86) rfl) rfl
theorem w5_87 : (Cond.fieldLink RX6 10 "FogBellMarket" "market" "LFogBellMarket$Market;") ∈ xA := xI5 (List.mem_of_getElem? (i := 87) rfl) rfl
theorem w5_88 : (Cond.fieldLink RX6 16 "FogBellMarket" "draft" "LFogBellMarket$Market;") ∈ xA := xI5 (List.mem_of_getElem? (i := 88) rfl) rfl
theorem w5_89 : (Cond.fieldLink RX6 19 "FogBellMarket" "probe" "LFogBellMarket$Market;") ∈ xA := xI5 (List.mem_of_getElem? (i := 89) rfl) rfl
theorem w5_90 : (Cond.fieldLink RX6 25 "FogBellMarket" "reader" "LFogBellMarket$Reader;") ∈ xA := xI5 (List.mem_of_getElem? (i := 90) rfl) rfl
theorem w5_91 : (Cond.fieldLink RX6 29 "FogBellMarket" "past" "[LFogBellMarket$Market;") ∈ xA := xI5 (List.mem_of_getElem? (i := 91) rfl) rfl
theorem w5_92 : (Cond.fieldLink RX6 318 "FogBellMarket" "pastNext" "I") ∈ xA := xI5 (List.mem_of_getElem? (i := 92) rfl) rfl
theorem w5_93 : (Cond.fieldLink RX6 119 "FogBellMarket" "pastCount" "I") ∈ xA := xI5 (List.mem_of_getElem? (i := 93) rfl) rfl
theorem w5_94 : (Cond.fieldLink RX6 33 "FogBellMarket" "saved" "[LFogBellMarket$Market;") ∈ xA := xI5 (List.mem_of_getElem? (i := 94) rfl) rfl
theorem w5_95 : (Cond.fieldLink RX6 36 "FogBellMarket" "hasSaved" "[Z") ∈ xA := xI5 (List.mem_of_getElem? (i := 95) rfl) rfl
theorem w5_96 : (Cond.fieldLink RX6 40 "FogBellMarket" "output" "[B") ∈ xA := xI5 (List.mem_of_getElem? (i := 96) rfl) rfl
theorem w5_97 : (Cond.laysFinal RX6 "FogBellMarket" "market" "LFogBellMarket$Market;") ∈ xA := xI5 (List.mem_of_getElem? (i := 97) rfl) rfl
theorem w5_99 : (Cond.laysFinal RX6 "FogBellMarket" "draft" "LFogBellMarket$Market;") ∈ xA := xI5 (List.mem_of_getElem? (i := 99) rfl) rfl
theorem w5_101 : (Cond.laysFinal RX6 "FogBellMarket" "probe" "LFogBellMarket$Market;") ∈ xA := xI5 (List.mem_of_getElem? (i := 101) rfl) rfl
theorem w5_103 : (Cond.laysFinal RX6 "FogBellMarket" "reader" "LFogBellMarket$Reader;") ∈ xA := xI5 (List.mem_of_getElem? (i := 103) rfl) rfl
theorem w5_105 : (Cond.laysFinal RX6 "FogBellMarket" "past" "[LFogBellMarket$Market;") ∈ xA := xI5 (List.mem_of_getElem? (i := 105) rfl) rfl
theorem w5_107 : (Cond.lays RX6 "FogBellMarket" "pastNext" "I") ∈ xA := xI5 (List.mem_of_getElem? (i := 107) rfl) rfl
theorem w5_109 : (Cond.lays RX6 "FogBellMarket" "pastCount" "I") ∈ xA := xI5 (List.mem_of_getElem? (i := 109) rfl) rfl
theorem w5_111 : (Cond.laysFinal RX6 "FogBellMarket" "saved" "[LFogBellMarket$Market;") ∈ xA := xI5 (List.mem_of_getElem? (i := 111) rfl) rfl
theorem w5_113 : (Cond.laysFinal RX6 "FogBellMarket" "hasSaved" "[Z") ∈ xA := xI5 (List.mem_of_getElem? (i := 113) rfl) rfl
theorem w5_115 : (Cond.laysFinal RX6 "FogBellMarket" "output" "[B") ∈ xA := xI5 (List.mem_of_getElem? (i := 115) rfl) rfl
theorem w5_117 : (Cond.lays RX6 "FogBellMarket" "outputLength" "I") ∈ xA := xI5 (List.mem_of_getElem? (i := 117) rfl) rfl
theorem w5_119 : (Cond.superclass "FogBellMarket" "java/lang/Object") ∈ xA := xI5 (List.mem_of_getElem? (i := 119) rfl) rfl
theorem w5_120 : (Cond.arrayClass FieldType.boolean) ∈ xA := xI5 (List.mem_of_getElem? (i := 120) rfl) rfl
theorem w5_122 : (Cond.methodLink RL 57 yL_put) ∈ xA := xI5 (List.mem_of_getElem? (i := 122) rfl) rfl
theorem w5_123 : (Cond.static yL_put) ∈ xA := xI5 (List.mem_of_getElem? (i := 123) rfl) rfl
theorem w5_124 : (Cond.code yL_put cL_put 6 none) ∈ xA := xI5 (List.mem_of_getElem? (i := 124) rfl) rfl
theorem w5_125 : (Cond.methodLink RL 8 yJ0_length_8abf5) ∈ xA := xI5 (List.mem_of_getElem? (i := 125) rfl) rfl
theorem w5_126 : (Cond.methodLink RL 27 yJ0_charAt_5068e) ∈ xA := xI5 (List.mem_of_getElem? (i := 126) rfl) rfl
theorem w5_127 : (Cond.methodLink RL 31 yX6_feed) ∈ xA := xI5 (List.mem_of_getElem? (i := 127) rfl) rfl
theorem w5_128 : (Cond.instanceMethod yX6_feed) ∈ xA := xI5 (List.mem_of_getElem? (i := 128) rfl) rfl
theorem w5_129 : (Cond.selects RX6 yX6_feed yX6_feed) ∈ xA := xI5 (List.mem_of_getElem? (i := 129) rfl) rfl
theorem w5_130 : (Cond.code yX6_feed cX6_feed 7 (some FieldType.int)) ∈ xA := xI5 (List.mem_of_getElem? (i := 130) rfl) rfl
theorem w5_131 : (Cond.methodLink RX6 54 yX6_bytesIn) ∈ xA := xI5 (List.mem_of_getElem? (i := 131) rfl) rfl
theorem w5_132 : (Cond.static yX6_bytesIn) ∈ xA := xI5 (List.mem_of_getElem? (i := 132) rfl) rfl
theorem w5_133 : (Cond.code yX6_bytesIn cX6_bytesIn 3 (some FieldType.int)) ∈ xA := xI5 (List.mem_of_getElem? (i := 133) rfl) rfl
theorem w5_134 : (Cond.methodLink RX6 62 yX3_appendWord) ∈ xA := xI5 (List.mem_of_getElem? (i := 134) rfl) rfl
theorem w5_135 : (Cond.instanceMethod yX3_appendWord) ∈ xA := xI5 (List.mem_of_getElem? (i := 135) rfl) rfl
theorem w5_136 : (Cond.selects RX3 yX3_appendWord yX3_appendWord) ∈ xA := xI5 (List.mem_of_getElem? (i := 136) rfl) rfl
theorem w5_137 : (Cond.code yX3_appendWord cX3_appendWord 4 none) ∈ xA := xI5 (List.mem_of_getElem? (i := 137) rfl) rfl
theorem w5_138 : (Cond.methodLink RL 61 yX6_loadSetup) ∈ xA := xI5 (List.mem_of_getElem? (i := 138) rfl) rfl
theorem w5_139 : (Cond.instanceMethod yX6_loadSetup) ∈ xA := xI5 (List.mem_of_getElem? (i := 139) rfl) rfl
theorem w5_140 : (Cond.selects RX6 yX6_loadSetup yX6_loadSetup) ∈ xA := xI5 (List.mem_of_getElem? (i := 140) rfl) rfl
theorem w5_141 : (Cond.code yX6_loadSetup cX6_loadSetup 1 (some FieldType.int)) ∈ xA := xI5 (List.mem_of_getElem? (i := 141) rfl) rfl
theorem w5_142 : (Cond.methodLink RL 64 yX6_addStall) ∈ xA := xI5 (List.mem_of_getElem? (i := 142) rfl) rfl
theorem w5_143 : (Cond.instanceMethod yX6_addStall) ∈ xA := xI5 (List.mem_of_getElem? (i := 143) rfl) rfl
theorem w5_144 : (Cond.selects RX6 yX6_addStall yX6_addStall) ∈ xA := xI5 (List.mem_of_getElem? (i := 144) rfl) rfl
theorem w5_145 : (Cond.code yX6_addStall cX6_addStall 6 (some FieldType.int)) ∈ xA := xI5 (List.mem_of_getElem? (i := 145) rfl) rfl
theorem w5_146 : (Cond.classLink RX6 279 "java/lang/IllegalStateException") ∈ xA := xI5 (List.mem_of_getElem? (i := 146) rfl) rfl
theorem w5_147 : (Cond.instantiable "java/lang/IllegalStateException" 6) ∈ xA := xI5 (List.mem_of_getElem? (i := 147) rfl) rfl
theorem w5_149 : (Cond.selects "java/lang/IllegalStateException" (⟨"java/lang/Throwable", "fillInStackTrace", "(I)Ljava/lang/Throwable;"⟩) (⟨"java/lang/Throwable", "fillInStackTrace", "(I)Ljava/lang/Throwable;"⟩)) ∈ xA := xI5 (List.mem_of_getElem? (i := 149) rfl) rfl
theorem w5_150 : (Cond.lays "java/lang/IllegalStateException" "java/lang/Throwable" "cause" "Ljava/lang/Throwable;") ∈ xA := xI5 (List.mem_of_getElem? (i := 150) rfl) rfl
theorem w5_151 : (Cond.lays "java/lang/IllegalStateException" "java/lang/Throwable" "stackTrace" "[Ljava/lang/StackTraceElement;") ∈ xA := xI5 (List.mem_of_getElem? (i := 151) rfl) rfl
theorem w5_152 : (Cond.lays "java/lang/IllegalStateException" "java/lang/Throwable" "suppressedExceptions" "Ljava/util/List;") ∈ xA := xI5 (List.mem_of_getElem? (i := 152) rfl) rfl
theorem w5_153 : (Cond.lays "java/lang/IllegalStateException" "java/lang/Throwable" "detailMessage" "Ljava/lang/String;") ∈ xA := xI5 (List.mem_of_getElem? (i := 153) rfl) rfl
theorem w5_154 : (Cond.lays "java/lang/IllegalStateException" "java/lang/Throwable" "backtrace" "Ljava/lang/Object;") ∈ xA := xI5 (List.mem_of_getElem? (i := 154) rfl) rfl
theorem w5_156 : (Cond.methodLink RX6 283 (⟨"java/lang/IllegalStateException", "<init>", "(Ljava/lang/String;)V"⟩)) ∈ xA := xI5 (List.mem_of_getElem? (i := 156) rfl) rfl
theorem w5_157 : (Cond.instanceMethod (⟨"java/lang/IllegalStateException", "<init>", "(Ljava/lang/String;)V"⟩)) ∈ xA := xI5 (List.mem_of_getElem? (i := 157) rfl) rfl
theorem w5_158 : (Cond.code (⟨"java/lang/IllegalStateException", "<init>", "(Ljava/lang/String;)V"⟩) prog_15_method_2_code 2 none) ∈ xA := xI5 (List.mem_of_getElem? (i := 158) rfl) rfl
theorem w5_159 : (Cond.methodLink "java/lang/IllegalStateException" 7 (⟨"java/lang/RuntimeException", "<init>", "(Ljava/lang/String;)V"⟩)) ∈ xA := xI5 (List.mem_of_getElem? (i := 159) rfl) rfl
theorem w5_160 : (Cond.lays "java/lang/IllegalStateException" "java/lang/Throwable" "depth" "I") ∈ xA := xI5 (List.mem_of_getElem? (i := 160) rfl) rfl
theorem w5_161 : (Cond.superclass "java/lang/IllegalStateException" "java/lang/RuntimeException") ∈ xA := xI5 (List.mem_of_getElem? (i := 161) rfl) rfl
theorem w5_162 : (Cond.methodLink RX6 284 yX2_placeStall) ∈ xA := xI5 (List.mem_of_getElem? (i := 162) rfl) rfl
theorem w5_163 : (Cond.methodLink RL 67 yX6_addBuyer) ∈ xA := xI5 (List.mem_of_getElem? (i := 163) rfl) rfl
theorem w5_164 : (Cond.instanceMethod yX6_addBuyer) ∈ xA := xI5 (List.mem_of_getElem? (i := 164) rfl) rfl
theorem w5_165 : (Cond.selects RX6 yX6_addBuyer yX6_addBuyer) ∈ xA := xI5 (List.mem_of_getElem? (i := 165) rfl) rfl
theorem w5_166 : (Cond.code yX6_addBuyer cX6_addBuyer 5 (some FieldType.int)) ∈ xA := xI5 (List.mem_of_getElem? (i := 166) rfl) rfl
theorem w5_168 : (Cond.methodLink RX6 290 yX2_placeBuyer) ∈ xA := xI5 (List.mem_of_getElem? (i := 168) rfl) rfl
theorem w5_169 : (Cond.methodLink RL 195 yL_act) ∈ xA := xI5 (List.mem_of_getElem? (i := 169) rfl) rfl
theorem w5_170 : (Cond.static yL_act) ∈ xA := xI5 (List.mem_of_getElem? (i := 170) rfl) rfl
theorem w5_171 : (Cond.code yL_act cL_act 5 none) ∈ xA := xI5 (List.mem_of_getElem? (i := 171) rfl) rfl
theorem w5_172 : (Cond.methodLink RL 77 yX6_moveStall) ∈ xA := xI5 (List.mem_of_getElem? (i := 172) rfl) rfl
theorem w5_173 : (Cond.instanceMethod yX6_moveStall) ∈ xA := xI5 (List.mem_of_getElem? (i := 173) rfl) rfl
theorem w5_174 : (Cond.selects RX6 yX6_moveStall yX6_moveStall) ∈ xA := xI5 (List.mem_of_getElem? (i := 174) rfl) rfl
theorem w5_175 : (Cond.code yX6_moveStall cX6_moveStall 5 (some FieldType.int)) ∈ xA := xI5 (List.mem_of_getElem? (i := 175) rfl) rfl
theorem w5_176 : (Cond.methodLink RL 80 yX6_setPrice) ∈ xA := xI5 (List.mem_of_getElem? (i := 176) rfl) rfl
theorem w5_177 : (Cond.instanceMethod yX6_setPrice) ∈ xA := xI5 (List.mem_of_getElem? (i := 177) rfl) rfl
theorem w5_178 : (Cond.selects RX6 yX6_setPrice yX6_setPrice) ∈ xA := xI5 (List.mem_of_getElem? (i := 178) rfl) rfl
theorem w5_179 : (Cond.code yX6_setPrice cX6_setPrice 5 (some FieldType.int)) ∈ xA := xI5 (List.mem_of_getElem? (i := 179) rfl) rfl
theorem w5_180 : (Cond.methodLink RL 87 yX6_addStock) ∈ xA := xI5 (List.mem_of_getElem? (i := 180) rfl) rfl
theorem w5_181 : (Cond.instanceMethod yX6_addStock) ∈ xA := xI5 (List.mem_of_getElem? (i := 181) rfl) rfl
theorem w5_182 : (Cond.selects RX6 yX6_addStock yX6_addStock) ∈ xA := xI5 (List.mem_of_getElem? (i := 182) rfl) rfl
theorem w5_183 : (Cond.code yX6_addStock cX6_addStock 4 (some FieldType.int)) ∈ xA := xI5 (List.mem_of_getElem? (i := 183) rfl) rfl
theorem w5_184 : (Cond.methodLink RX6 294 yX4_hasRoomFor) ∈ xA := xI5 (List.mem_of_getElem? (i := 184) rfl) rfl
theorem w5_186 : (Cond.methodLink RX6 300 yX4_receive) ∈ xA := xI5 (List.mem_of_getElem? (i := 186) rfl) rfl
theorem w5_187 : (Cond.methodLink RL 90 yX6_setLantern) ∈ xA := xI5 (List.mem_of_getElem? (i := 187) rfl) rfl
theorem w5_188 : (Cond.instanceMethod yX6_setLantern) ∈ xA := xI5 (List.mem_of_getElem? (i := 188) rfl) rfl
theorem w5_189 : (Cond.selects RX6 yX6_setLantern yX6_setLantern) ∈ xA := xI5 (List.mem_of_getElem? (i := 189) rfl) rfl
theorem w5_190 : (Cond.code yX6_setLantern cX6_setLantern 5 (some FieldType.int)) ∈ xA := xI5 (List.mem_of_getElem? (i := 190) rfl) rfl
theorem w5_191 : (Cond.methodLink RL 93 yX6_setFog) ∈ xA := xI5 (List.mem_of_getElem? (i := 191) rfl) rfl
theorem w5_192 : (Cond.instanceMethod yX6_setFog) ∈ xA := xI5 (List.mem_of_getElem? (i := 192) rfl) rfl
theorem w5_193 : (Cond.selects RX6 yX6_setFog yX6_setFog) ∈ xA := xI5 (List.mem_of_getElem? (i := 193) rfl) rfl
theorem w5_194 : (Cond.code yX6_setFog cX6_setFog 4 (some FieldType.int)) ∈ xA := xI5 (List.mem_of_getElem? (i := 194) rfl) rfl
theorem w5_196 : (Cond.methodLink RL 99 yX6_putBack) ∈ xA := xI5 (List.mem_of_getElem? (i := 196) rfl) rfl
theorem w5_197 : (Cond.instanceMethod yX6_putBack) ∈ xA := xI5 (List.mem_of_getElem? (i := 197) rfl) rfl
theorem w5_198 : (Cond.selects RX6 yX6_putBack yX6_putBack) ∈ xA := xI5 (List.mem_of_getElem? (i := 198) rfl) rfl
theorem w5_199 : (Cond.code yX6_putBack cX6_putBack 4 (some FieldType.int)) ∈ xA := xI5 (List.mem_of_getElem? (i := 199) rfl) rfl
theorem w5_200 : (Cond.methodLink RX6 242 yX1_holds) ∈ xA := xI5 (List.mem_of_getElem? (i := 200) rfl) rfl
theorem w5_202 : (Cond.methodLink RX6 314 yX2_returnAndAvoid) ∈ xA := xI5 (List.mem_of_getElem? (i := 202) rfl) rfl
theorem w5_203 : (Cond.methodLink RL 172 yL_reach) ∈ xA := xI5 (List.mem_of_getElem? (i := 203) rfl) rfl
theorem w5_204 : (Cond.static yL_reach) ∈ xA := xI5 (List.mem_of_getElem? (i := 204) rfl) rfl
theorem w5_205 : (Cond.code yL_reach cL_reach 2 (some FieldType.int)) ∈ xA := xI5 (List.mem_of_getElem? (i := 205) rfl) rfl
theorem w5_206 : (Cond.methodLink RL 192 yL_guard) ∈ xA := xI5 (List.mem_of_getElem? (i := 206) rfl) rfl
theorem w5_207 : (Cond.static yL_guard) ∈ xA := xI5 (List.mem_of_getElem? (i := 207) rfl) rfl
theorem w5_208 : (Cond.code yL_guard cL_guard 1 (some FieldType.int)) ∈ xA := xI5 (List.mem_of_getElem? (i := 208) rfl) rfl
theorem w5_209 : (Cond.methodLink RL 178 yJ6_compare_7cf53) ∈ xA := xI5 (List.mem_of_getElem? (i := 209) rfl) rfl
theorem w5_210 : (Cond.static yJ6_compare_7cf53) ∈ xA := xI5 (List.mem_of_getElem? (i := 210) rfl) rfl
theorem w5_211 : (Cond.code yJ6_compare_7cf53 cJ6_compare_7cf53 2 (some FieldType.int)) ∈ xA := xI5 (List.mem_of_getElem? (i := 211) rfl) rfl
theorem w5_212 : (Cond.methodLink RL 164 yJ9_abs_0f7a4) ∈ xA := xI5 (List.mem_of_getElem? (i := 212) rfl) rfl
theorem w5_213 : (Cond.sameMethod "java/lang/Throwable" "java/lang/Throwable" "fillInStackTrace" "(I)Ljava/lang/Throwable;") ∈ xA := xI5 (List.mem_of_getElem? (i := 213) rfl) rfl
theorem w5_214 : (Cond.sameMethod "java/lang/AbstractStringBuilder" "java/lang/AbstractStringBuilder" "append" "(Ljava/lang/String;)Ljava/lang/AbstractStringBuilder;") ∈ xA := xI5 (List.mem_of_getElem? (i := 214) rfl) rfl
theorem w5_215 : (Cond.sameMethod "java/lang/AbstractStringBuilder" "java/lang/AbstractStringBuilder" "appendNull" "()Ljava/lang/AbstractStringBuilder;") ∈ xA := xI5 (List.mem_of_getElem? (i := 215) rfl) rfl
theorem w5_216 : (Cond.sameMethod "java/lang/AbstractStringBuilder" "java/lang/AbstractStringBuilder" "ensureCapacityInternal" "(I)V") ∈ xA := xI5 (List.mem_of_getElem? (i := 216) rfl) rfl
theorem w5_217 : (Cond.sameMethod "java/lang/AbstractStringBuilder" "java/lang/AbstractStringBuilder" "newCapacity" "(I)I") ∈ xA := xI5 (List.mem_of_getElem? (i := 217) rfl) rfl
theorem w5_218 : (Cond.sameMethod "java/lang/AbstractStringBuilder" "java/lang/AbstractStringBuilder" "putStringAt" "(ILjava/lang/String;)V") ∈ xA := xI5 (List.mem_of_getElem? (i := 218) rfl) rfl
theorem w5_219 : (Cond.sameMethod "java/lang/AbstractStringBuilder" "java/lang/AbstractStringBuilder" "inflateIfNeededFor" "(Ljava/lang/String;)V") ∈ xA := xI5 (List.mem_of_getElem? (i := 219) rfl) rfl
theorem w5_220 : (Cond.sameMethod "java/lang/AbstractStringBuilder" "java/lang/AbstractStringBuilder" "inflate" "()V") ∈ xA := xI5 (List.mem_of_getElem? (i := 220) rfl) rfl
theorem w5_221 : (Cond.sameMethod "java/lang/AbstractStringBuilder" "java/lang/AbstractStringBuilder" "append" "(I)Ljava/lang/AbstractStringBuilder;") ∈ xA := xI5 (List.mem_of_getElem? (i := 221) rfl) rfl
theorem w5_222 : (Cond.fieldLink RX3 112 "FogBellMarket$Verb" "word" "Ljava/lang/String;") ∈ xA := xI5 (List.mem_of_getElem? (i := 222) rfl) rfl
theorem w5_223 : (Cond.fieldLink RX3 98 "FogBellMarket$Verb" "kinds" "Ljava/lang/String;") ∈ xA := xI5 (List.mem_of_getElem? (i := 223) rfl) rfl
theorem w5_224 : (Cond.fieldLink RJx29ce0 7 "java/lang/Enum" "ordinal" "I") ∈ xA := xI5 (List.mem_of_getElem? (i := 224) rfl) rfl
theorem wp1_1 : (Cond.selects RX6 yX6_stallAt yX6_stallAt) ∈ xA := xS1 (List.mem_of_getElem? (i := 1) rfl) rfl
theorem wp1_2 : (Cond.selects RX6 yX6_checkStall yX6_checkStall) ∈ xA := xS1 (List.mem_of_getElem? (i := 2) rfl) rfl
theorem wp1_3 : (Cond.selects RX6 yX6_buyerAt yX6_buyerAt) ∈ xA := xS1 (List.mem_of_getElem? (i := 3) rfl) rfl
theorem wp1_4 : (Cond.selects RX6 yX6_checkBuyer yX6_checkBuyer) ∈ xA := xS1 (List.mem_of_getElem? (i := 4) rfl) rfl
theorem wp1_5 : (Cond.selects RX6 yX6_remember yX6_remember) ∈ xA := xS1 (List.mem_of_getElem? (i := 5) rfl) rfl
theorem wp1_6 : (Cond.selects RX2 yX2_letAct yX2_letAct) ∈ xA := xS1 (List.mem_of_getElem? (i := 6) rfl) rfl
theorem wp1_7 : (Cond.selects RX4 yX4_guardedDensity yX4_guardedDensity) ∈ xA := xS1 (List.mem_of_getElem? (i := 7) rfl) rfl
theorem wp1_8 : (Cond.selects RX3 yX3_appendByte yX3_appendByte) ∈ xA := xS1 (List.mem_of_getElem? (i := 8) rfl) rfl
theorem wp1_9 : (Cond.selects RX6 yX6_replaceMarket yX6_replaceMarket) ∈ xA := xS1 (List.mem_of_getElem? (i := 9) rfl) rfl
theorem wp1_10 : (Cond.selects RX3 yX3_readWord yX3_readWord) ∈ xA := xS1 (List.mem_of_getElem? (i := 10) rfl) rfl
theorem wp1_11 : (Cond.selects RX3 yX3_readToken yX3_readToken) ∈ xA := xS1 (List.mem_of_getElem? (i := 11) rfl) rfl
theorem wp1_12 : (Cond.selects RX3 yX3_byteAt yX3_byteAt) ∈ xA := xS1 (List.mem_of_getElem? (i := 12) rfl) rfl
theorem wp1_13 : (Cond.selects RX3 yX3_readDigits yX3_readDigits) ∈ xA := xS1 (List.mem_of_getElem? (i := 13) rfl) rfl
theorem wp1_14 : (Cond.selects RX3 yX3_isWord yX3_isWord) ∈ xA := xS1 (List.mem_of_getElem? (i := 14) rfl) rfl
theorem wp1_15 : (Cond.selects RX3 yX3_fail yX3_fail) ∈ xA := xS1 (List.mem_of_getElem? (i := 15) rfl) rfl
theorem wp2_0 : (Cond.selects RX3 yX3_readNumber yX3_readNumber) ∈ xA := xS2 (List.mem_of_getElem? (i := 0) rfl) rfl
theorem wp2_1 : (Cond.selects RX3 yX3_isNumberFrom yX3_isNumberFrom) ∈ xA := xS2 (List.mem_of_getElem? (i := 1) rfl) rfl
theorem wp2_2 : (Cond.selects RX3 yX3_readSemicolon yX3_readSemicolon) ∈ xA := xS2 (List.mem_of_getElem? (i := 2) rfl) rfl
theorem wp2_3 : (Cond.selects RX3 yX3_readFog yX3_readFog) ∈ xA := xS2 (List.mem_of_getElem? (i := 3) rfl) rfl
theorem wp2_4 : (Cond.selects RX6 yX6_readCommands yX6_readCommands) ∈ xA := xS2 (List.mem_of_getElem? (i := 4) rfl) rfl
theorem wp2_5 : (Cond.selects RX3 yX3_verbRead yX3_verbRead) ∈ xA := xS2 (List.mem_of_getElem? (i := 5) rfl) rfl
theorem wp2_6 : (Cond.selects RX3 yX3_hasNoRoom yX3_hasNoRoom) ∈ xA := xS2 (List.mem_of_getElem? (i := 6) rfl) rfl
theorem wp2_7 : (Cond.selects RX3 yX3_readArgument yX3_readArgument) ∈ xA := xS2 (List.mem_of_getElem? (i := 7) rfl) rfl
theorem wp2_8 : (Cond.selects RX3 yX3_lanternRead yX3_lanternRead) ∈ xA := xS2 (List.mem_of_getElem? (i := 8) rfl) rfl
theorem wp2_9 : (Cond.selects RX3 yX3_textureRead yX3_textureRead) ∈ xA := xS2 (List.mem_of_getElem? (i := 9) rfl) rfl
theorem wp2_10 : (Cond.selects RX3 yX3_keepArgument yX3_keepArgument) ∈ xA := xS2 (List.mem_of_getElem? (i := 10) rfl) rfl
theorem wp2_11 : (Cond.selects RX3 yX3_isRefusedBy yX3_isRefusedBy) ∈ xA := xS2 (List.mem_of_getElem? (i := 11) rfl) rfl
theorem wp2_12 : (Cond.selects RX6 yX6_forgetChanges yX6_forgetChanges) ∈ xA := xS2 (List.mem_of_getElem? (i := 12) rfl) rfl
theorem w9_0 : (Cond.selects RJ4 yJ5_ensureCapacityInternal_d00df yJ5_ensureCapacityInternal_d00df) ∈ xA := List.mem_append_left _ (List.mem_of_getElem? (i := 0) rfl)
theorem w9_1 : (Cond.selects RJ4 yJ5_newCapacity_0f7a4 yJ5_newCapacity_0f7a4) ∈ xA := List.mem_append_left _ (List.mem_of_getElem? (i := 1) rfl)
theorem w9_2 : (Cond.selects RJ4 yJ5_putStringAt_47b60 yJ5_putStringAt_47b60) ∈ xA := List.mem_append_left _ (List.mem_of_getElem? (i := 2) rfl)
theorem w9_3 : (Cond.selects RJ4 yJ5_inflateIfNeededFor_a7421 yJ5_inflateIfNeededFor_a7421) ∈ xA := List.mem_append_left _ (List.mem_of_getElem? (i := 3) rfl)
