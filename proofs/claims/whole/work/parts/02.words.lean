def xA : List Cond := lw_tbl.filter goodWord
theorem xA_in : ∀ {w : Cond}, w ∈ xA → w ∈ lw_tbl := fun h => (List.mem_filter.mp h).1
theorem xA_good : ∀ {w : Cond}, w ∈ xA → goodWord w = true := fun h => (List.mem_filter.mp h).2
theorem xA_of {w : Cond} (h : w ∈ tables_1) (hg : goodWord w = true) : w ∈ xA := List.mem_filter.mpr ⟨List.mem_append_right _ h, hg⟩
theorem xA_sel {w : Cond} (h : w ∈ k2_sels lw_privs) (hg : goodWord w = true) : w ∈ xA := List.mem_filter.mpr ⟨List.mem_append_left _ h, hg⟩
theorem xI1 {w : Cond} (h : w ∈ tables_1_1) (hg : goodWord w = true) : w ∈ xA := xA_of (List.mem_append_left _ h) hg
theorem xI2 {w : Cond} (h : w ∈ tables_1_2) (hg : goodWord w = true) : w ∈ xA := xA_of (List.mem_append_right _ (List.mem_append_left _ h)) hg
theorem xI3 {w : Cond} (h : w ∈ tables_1_3) (hg : goodWord w = true) : w ∈ xA := xA_of (List.mem_append_right _ (List.mem_append_right _ (List.mem_append_left _ h))) hg
theorem xI4 {w : Cond} (h : w ∈ tables_1_4) (hg : goodWord w = true) : w ∈ xA := xA_of (List.mem_append_right _ (List.mem_append_right _ (List.mem_append_right _ (List.mem_append_left _ h)))) hg
theorem xI5 {w : Cond} (h : w ∈ tables_1_5) (hg : goodWord w = true) : w ∈ xA := xA_of (List.mem_append_right _ (List.mem_append_right _ (List.mem_append_right _ (List.mem_append_right _ (List.mem_append_left _ h))))) hg
theorem xI6 {w : Cond} (h : w ∈ tables_1_6) (hg : goodWord w = true) : w ∈ xA := xA_of (List.mem_append_right _ (List.mem_append_right _ (List.mem_append_right _ (List.mem_append_right _ (List.mem_append_right _ (List.mem_append_left _ h)))))) hg
theorem xI7 {w : Cond} (h : w ∈ tables_1_7) (hg : goodWord w = true) : w ∈ xA := xA_of (List.mem_append_right _ (List.mem_append_right _ (List.mem_append_right _ (List.mem_append_right _ (List.mem_append_right _ (List.mem_append_right _ (List.mem_append_left _ h))))))) hg
theorem xI8 {w : Cond} (h : w ∈ tables_1_8) (hg : goodWord w = true) : w ∈ xA := xA_of (List.mem_append_right _ (List.mem_append_right _ (List.mem_append_right _ (List.mem_append_right _ (List.mem_append_right _ (List.mem_append_right _ (List.mem_append_right _ (h)))))))) hg
theorem xS1 {w : Cond} (h : w ∈ k2_sels lw_privs_1) (hg : goodWord w = true) : w ∈ xA := xA_sel (by rw [show k2_sels lw_privs = k2_sels lw_privs_1 ++ (k2_sels lw_privs_2 ++ (k2_sels lw_privs_3 ++ (k2_sels lw_privs_4 ++ (k2_sels lw_privs_5 ++ (k2_sels lw_privs_6))))) from by simp only [lw_privs, k2_sels, List.map_append]]; exact List.mem_append_left _ h) hg
theorem xS2 {w : Cond} (h : w ∈ k2_sels lw_privs_2) (hg : goodWord w = true) : w ∈ xA := xA_sel (by rw [show k2_sels lw_privs = k2_sels lw_privs_1 ++ (k2_sels lw_privs_2 ++ (k2_sels lw_privs_3 ++ (k2_sels lw_privs_4 ++ (k2_sels lw_privs_5 ++ (k2_sels lw_privs_6))))) from by simp only [lw_privs, k2_sels, List.map_append]]; exact List.mem_append_right _ (List.mem_append_left _ h)) hg
theorem xS3 {w : Cond} (h : w ∈ k2_sels lw_privs_3) (hg : goodWord w = true) : w ∈ xA := xA_sel (by rw [show k2_sels lw_privs = k2_sels lw_privs_1 ++ (k2_sels lw_privs_2 ++ (k2_sels lw_privs_3 ++ (k2_sels lw_privs_4 ++ (k2_sels lw_privs_5 ++ (k2_sels lw_privs_6))))) from by simp only [lw_privs, k2_sels, List.map_append]]; exact List.mem_append_right _ (List.mem_append_right _ (List.mem_append_left _ h))) hg
theorem xS4 {w : Cond} (h : w ∈ k2_sels lw_privs_4) (hg : goodWord w = true) : w ∈ xA := xA_sel (by rw [show k2_sels lw_privs = k2_sels lw_privs_1 ++ (k2_sels lw_privs_2 ++ (k2_sels lw_privs_3 ++ (k2_sels lw_privs_4 ++ (k2_sels lw_privs_5 ++ (k2_sels lw_privs_6))))) from by simp only [lw_privs, k2_sels, List.map_append]]; exact List.mem_append_right _ (List.mem_append_right _ (List.mem_append_right _ (List.mem_append_left _ h)))) hg
theorem xS5 {w : Cond} (h : w ∈ k2_sels lw_privs_5) (hg : goodWord w = true) : w ∈ xA := xA_sel (by rw [show k2_sels lw_privs = k2_sels lw_privs_1 ++ (k2_sels lw_privs_2 ++ (k2_sels lw_privs_3 ++ (k2_sels lw_privs_4 ++ (k2_sels lw_privs_5 ++ (k2_sels lw_privs_6))))) from by simp only [lw_privs, k2_sels, List.map_append]]; exact List.mem_append_right _ (List.mem_append_right _ (List.mem_append_right _ (List.mem_append_right _ (List.mem_append_left _ h))))) hg
theorem xS6 {w : Cond} (h : w ∈ k2_sels lw_privs_6) (hg : goodWord w = true) : w ∈ xA := xA_sel (by rw [show k2_sels lw_privs = k2_sels lw_privs_1 ++ (k2_sels lw_privs_2 ++ (k2_sels lw_privs_3 ++ (k2_sels lw_privs_4 ++ (k2_sels lw_privs_5 ++ (k2_sels lw_privs_6))))) from by simp only [lw_privs, k2_sels, List.map_append]]; exact List.mem_append_right _ (List.mem_append_right _ (List.mem_append_right _ (List.mem_append_right _ (List.mem_append_right _ (h)))))) hg
theorem w1_0 : (Cond.initialized RL) ∈ xA := xI1 (List.mem_of_getElem? (i := 0) rfl) rfl
theorem w1_1 : (Cond.initialized RX6) ∈ xA := xI1 (List.mem_of_getElem? (i := 1) rfl) rfl
theorem w1_2 : (Cond.initialized RX2) ∈ xA := xI1 (List.mem_of_getElem? (i := 2) rfl) rfl
theorem w1_3 : (Cond.initialized RX4) ∈ xA := xI1 (List.mem_of_getElem? (i := 3) rfl) rfl
theorem w1_4 : (Cond.initialized RX1) ∈ xA := xI1 (List.mem_of_getElem? (i := 4) rfl) rfl
theorem w1_5 : (Cond.initialized RX3) ∈ xA := xI1 (List.mem_of_getElem? (i := 5) rfl) rfl
theorem w1_6 : (Cond.initialized RJ0) ∈ xA := xI1 (List.mem_of_getElem? (i := 6) rfl) rfl
theorem w1_7 : (Cond.initialized RJ1) ∈ xA := xI1 (List.mem_of_getElem? (i := 7) rfl) rfl
theorem w1_8 : (Cond.initialized RJ3) ∈ xA := xI1 (List.mem_of_getElem? (i := 8) rfl) rfl
theorem w1_9 : (Cond.initialized RJ2) ∈ xA := xI1 (List.mem_of_getElem? (i := 9) rfl) rfl
theorem w1_10 : (Cond.initialized RJx29ce0) ∈ xA := xI1 (List.mem_of_getElem? (i := 10) rfl) rfl
theorem w1_11 : (Cond.initialized RX5) ∈ xA := xI1 (List.mem_of_getElem? (i := 11) rfl) rfl
theorem w1_12 : (Cond.initialized RX0) ∈ xA := xI1 (List.mem_of_getElem? (i := 12) rfl) rfl
theorem w1_13 : (Cond.initialized RJ9) ∈ xA := xI1 (List.mem_of_getElem? (i := 13) rfl) rfl
theorem w1_14 : (Cond.initialized RX7) ∈ xA := xI1 (List.mem_of_getElem? (i := 14) rfl) rfl
theorem w1_15 : (Cond.initialized "java/lang/Throwable") ∈ xA := xI1 (List.mem_of_getElem? (i := 15) rfl) rfl
theorem w1_16 : (Cond.initialized "java/lang/Exception") ∈ xA := xI1 (List.mem_of_getElem? (i := 16) rfl) rfl
theorem w1_17 : (Cond.initialized "java/lang/RuntimeException") ∈ xA := xI1 (List.mem_of_getElem? (i := 17) rfl) rfl
theorem w1_18 : (Cond.initialized "java/lang/IllegalArgumentException") ∈ xA := xI1 (List.mem_of_getElem? (i := 18) rfl) rfl
theorem w1_19 : (Cond.initialized "java/lang/IndexOutOfBoundsException") ∈ xA := xI1 (List.mem_of_getElem? (i := 19) rfl) rfl
theorem w1_20 : (Cond.initialized "java/lang/IllegalStateException") ∈ xA := xI1 (List.mem_of_getElem? (i := 20) rfl) rfl
theorem w1_21 : (Cond.initialized "java/util/NoSuchElementException") ∈ xA := xI1 (List.mem_of_getElem? (i := 21) rfl) rfl
theorem w1_22 : (Cond.classLink RL 8 "FogBellMarket") ∈ xA := xI1 (List.mem_of_getElem? (i := 22) rfl) rfl
theorem w1_23 : (Cond.instantiable RX6 11) ∈ xA := xI1 (List.mem_of_getElem? (i := 23) rfl) rfl
theorem w1_24 : (Cond.methodLink RL 136 yX6_init) ∈ xA := xI1 (List.mem_of_getElem? (i := 24) rfl) rfl
theorem w1_25 : (Cond.instanceMethod yX6_init) ∈ xA := xI1 (List.mem_of_getElem? (i := 25) rfl) rfl
theorem w1_26 : (Cond.code yX6_init cX6_init 2 none) ∈ xA := xI1 (List.mem_of_getElem? (i := 26) rfl) rfl
theorem w1_27 : (Cond.methodLink RX6 1 (⟨"java/lang/Object", "<init>", "()V"⟩)) ∈ xA := xI1 (List.mem_of_getElem? (i := 27) rfl) rfl
theorem w1_28 : (Cond.instanceMethod (⟨"java/lang/Object", "<init>", "()V"⟩)) ∈ xA := xI1 (List.mem_of_getElem? (i := 28) rfl) rfl
theorem w1_29 : (Cond.code (⟨"java/lang/Object", "<init>", "()V"⟩) object_method_1_code 1 none) ∈ xA := xI1 (List.mem_of_getElem? (i := 29) rfl) rfl
theorem w1_30 : (Cond.classLink RX6 7 "FogBellMarket$Market") ∈ xA := xI1 (List.mem_of_getElem? (i := 30) rfl) rfl
theorem w1_31 : (Cond.instantiable RX2 14) ∈ xA := xI1 (List.mem_of_getElem? (i := 31) rfl) rfl
theorem w1_32 : (Cond.methodLink RX6 9 yX2_init) ∈ xA := xI1 (List.mem_of_getElem? (i := 32) rfl) rfl
theorem w1_33 : (Cond.instanceMethod yX2_init) ∈ xA := xI1 (List.mem_of_getElem? (i := 33) rfl) rfl
theorem w1_34 : (Cond.code yX2_init cX2_init 2 none) ∈ xA := xI1 (List.mem_of_getElem? (i := 34) rfl) rfl
theorem w1_35 : (Cond.methodLink RX2 3 (⟨"java/lang/Object", "<init>", "()V"⟩)) ∈ xA := xI1 (List.mem_of_getElem? (i := 35) rfl) rfl
theorem w1_36 : (Cond.classLink RX2 9 "FogBellMarket$Stall") ∈ xA := xI1 (List.mem_of_getElem? (i := 36) rfl) rfl
theorem w1_38 : (Cond.classLink RX2 17 "FogBellMarket$Buyer") ∈ xA := xI1 (List.mem_of_getElem? (i := 38) rfl) rfl
theorem w1_40 : (Cond.instantiable RX4 9) ∈ xA := xI1 (List.mem_of_getElem? (i := 40) rfl) rfl
theorem w1_42 : (Cond.instanceMethod yX4_init) ∈ xA := xI1 (List.mem_of_getElem? (i := 42) rfl) rfl
theorem w1_43 : (Cond.code yX4_init cX4_init 1 none) ∈ xA := xI1 (List.mem_of_getElem? (i := 43) rfl) rfl
theorem w1_44 : (Cond.methodLink RX4 3 (⟨"java/lang/Object", "<init>", "()V"⟩)) ∈ xA := xI1 (List.mem_of_getElem? (i := 44) rfl) rfl
theorem w1_45 : (Cond.fieldLink RX4 9 "FogBellMarket$Stall" "position" "I") ∈ xA := xI1 (List.mem_of_getElem? (i := 45) rfl) rfl
theorem w1_46 : (Cond.fieldLink RX2 84 "FogBellMarket$Stall" "position" "I") ∈ xA := xI1 (List.mem_of_getElem? (i := 46) rfl) rfl
theorem w1_47 : (Cond.fieldLink RX6 156 "FogBellMarket$Stall" "position" "I") ∈ xA := xI1 (List.mem_of_getElem? (i := 47) rfl) rfl
theorem w1_48 : (Cond.fieldLink RX4 15 "FogBellMarket$Stall" "lantern" "I") ∈ xA := xI1 (List.mem_of_getElem? (i := 48) rfl) rfl
theorem w1_49 : (Cond.fieldLink RX2 93 "FogBellMarket$Stall" "lantern" "I") ∈ xA := xI1 (List.mem_of_getElem? (i := 49) rfl) rfl
theorem w1_50 : (Cond.fieldLink RX6 161 "FogBellMarket$Stall" "lantern" "I") ∈ xA := xI1 (List.mem_of_getElem? (i := 50) rfl) rfl
theorem w1_51 : (Cond.fieldLink RX4 18 "FogBellMarket$Stall" "texture" "I") ∈ xA := xI1 (List.mem_of_getElem? (i := 51) rfl) rfl
theorem w1_52 : (Cond.fieldLink RX1 36 "FogBellMarket$Stall" "texture" "I") ∈ xA := xI1 (List.mem_of_getElem? (i := 52) rfl) rfl
theorem w1_53 : (Cond.fieldLink RX6 164 "FogBellMarket$Stall" "texture" "I") ∈ xA := xI1 (List.mem_of_getElem? (i := 53) rfl) rfl
theorem w1_54 : (Cond.fieldLink RX4 21 "FogBellMarket$Stall" "price" "I") ∈ xA := xI1 (List.mem_of_getElem? (i := 54) rfl) rfl
theorem w1_55 : (Cond.fieldLink RX1 44 "FogBellMarket$Stall" "price" "I") ∈ xA := xI1 (List.mem_of_getElem? (i := 55) rfl) rfl
theorem w1_56 : (Cond.fieldLink RX2 206 "FogBellMarket$Stall" "price" "I") ∈ xA := xI1 (List.mem_of_getElem? (i := 56) rfl) rfl
theorem w1_57 : (Cond.fieldLink RX6 167 "FogBellMarket$Stall" "price" "I") ∈ xA := xI1 (List.mem_of_getElem? (i := 57) rfl) rfl
theorem w1_58 : (Cond.fieldLink RX4 24 "FogBellMarket$Stall" "stock" "I") ∈ xA := xI1 (List.mem_of_getElem? (i := 58) rfl) rfl
theorem w1_59 : (Cond.fieldLink RX1 41 "FogBellMarket$Stall" "stock" "I") ∈ xA := xI1 (List.mem_of_getElem? (i := 59) rfl) rfl
theorem w1_60 : (Cond.fieldLink RX2 116 "FogBellMarket$Stall" "stock" "I") ∈ xA := xI1 (List.mem_of_getElem? (i := 60) rfl) rfl
theorem w1_61 : (Cond.fieldLink RX6 170 "FogBellMarket$Stall" "stock" "I") ∈ xA := xI1 (List.mem_of_getElem? (i := 61) rfl) rfl
theorem w1_62 : (Cond.fieldLink RX4 27 "FogBellMarket$Stall" "sold" "I") ∈ xA := xI1 (List.mem_of_getElem? (i := 62) rfl) rfl
theorem w1_63 : (Cond.fieldLink RX2 78 "FogBellMarket$Stall" "sold" "I") ∈ xA := xI1 (List.mem_of_getElem? (i := 63) rfl) rfl
theorem w1_64 : (Cond.fieldLink RX1 50 "FogBellMarket$Stall" "sold" "I") ∈ xA := xI1 (List.mem_of_getElem? (i := 64) rfl) rfl
theorem w1_65 : (Cond.fieldLink RX6 179 "FogBellMarket$Stall" "sold" "I") ∈ xA := xI1 (List.mem_of_getElem? (i := 65) rfl) rfl
theorem w1_66 : (Cond.fieldLink RX4 30 "FogBellMarket$Stall" "lost" "I") ∈ xA := xI1 (List.mem_of_getElem? (i := 66) rfl) rfl
theorem w1_67 : (Cond.fieldLink RX6 182 "FogBellMarket$Stall" "lost" "I") ∈ xA := xI1 (List.mem_of_getElem? (i := 67) rfl) rfl
theorem w1_68 : (Cond.fieldLink RX4 33 "FogBellMarket$Stall" "earned" "I") ∈ xA := xI1 (List.mem_of_getElem? (i := 68) rfl) rfl
theorem w1_69 : (Cond.fieldLink RX2 75 "FogBellMarket$Stall" "earned" "I") ∈ xA := xI1 (List.mem_of_getElem? (i := 69) rfl) rfl
theorem w1_70 : (Cond.fieldLink RX1 47 "FogBellMarket$Stall" "earned" "I") ∈ xA := xI1 (List.mem_of_getElem? (i := 70) rfl) rfl
theorem w1_71 : (Cond.fieldLink RX6 185 "FogBellMarket$Stall" "earned" "I") ∈ xA := xI1 (List.mem_of_getElem? (i := 71) rfl) rfl
theorem w1_72 : (Cond.fieldLink RX4 36 "FogBellMarket$Stall" "came" "I") ∈ xA := xI1 (List.mem_of_getElem? (i := 72) rfl) rfl
theorem w1_73 : (Cond.fieldLink RX6 265 "FogBellMarket$Stall" "came" "I") ∈ xA := xI1 (List.mem_of_getElem? (i := 73) rfl) rfl
theorem w1_74 : (Cond.lays RX4 "FogBellMarket$Stall" "position" "I") ∈ xA := xI1 (List.mem_of_getElem? (i := 74) rfl) rfl
theorem w1_76 : (Cond.lays RX4 "FogBellMarket$Stall" "lantern" "I") ∈ xA := xI1 (List.mem_of_getElem? (i := 76) rfl) rfl
theorem w1_78 : (Cond.lays RX4 "FogBellMarket$Stall" "texture" "I") ∈ xA := xI1 (List.mem_of_getElem? (i := 78) rfl) rfl
theorem w1_80 : (Cond.lays RX4 "FogBellMarket$Stall" "price" "I") ∈ xA := xI1 (List.mem_of_getElem? (i := 80) rfl) rfl
theorem w1_82 : (Cond.lays RX4 "FogBellMarket$Stall" "stock" "I") ∈ xA := xI1 (List.mem_of_getElem? (i := 82) rfl) rfl
theorem w1_84 : (Cond.lays RX4 "FogBellMarket$Stall" "sold" "I") ∈ xA := xI1 (List.mem_of_getElem? (i := 84) rfl) rfl
theorem w1_86 : (Cond.lays RX4 "FogBellMarket$Stall" "lost" "I") ∈ xA := xI1 (List.mem_of_getElem? (i := 86) rfl) rfl
theorem w1_88 : (Cond.lays RX4 "FogBellMarket$Stall" "earned" "I") ∈ xA := xI1 (List.mem_of_getElem? (i := 88) rfl) rfl
theorem w1_90 : (Cond.lays RX4 "FogBellMarket$Stall" "came" "I") ∈ xA := xI1 (List.mem_of_getElem? (i := 90) rfl) rfl
theorem w1_93 : (Cond.arrayClass FieldType.int) ∈ xA := xI1 (List.mem_of_getElem? (i := 93) rfl) rfl
theorem w1_94 : (Cond.instantiable RX1 8) ∈ xA := xI1 (List.mem_of_getElem? (i := 94) rfl) rfl
theorem w1_96 : (Cond.instanceMethod yX1_init) ∈ xA := xI1 (List.mem_of_getElem? (i := 96) rfl) rfl
theorem w1_97 : (Cond.code yX1_init cX1_init 1 none) ∈ xA := xI1 (List.mem_of_getElem? (i := 97) rfl) rfl
theorem w1_98 : (Cond.methodLink RX1 3 (⟨"java/lang/Object", "<init>", "()V"⟩)) ∈ xA := xI1 (List.mem_of_getElem? (i := 98) rfl) rfl
theorem w1_99 : (Cond.fieldLink RX1 15 "FogBellMarket$Buyer" "position" "I") ∈ xA := xI1 (List.mem_of_getElem? (i := 99) rfl) rfl
theorem w1_100 : (Cond.fieldLink RX2 87 "FogBellMarket$Buyer" "position" "I") ∈ xA := xI1 (List.mem_of_getElem? (i := 100) rfl) rfl
theorem w1_101 : (Cond.fieldLink RX6 218 "FogBellMarket$Buyer" "position" "I") ∈ xA := xI1 (List.mem_of_getElem? (i := 101) rfl) rfl
theorem w1_102 : (Cond.fieldLink RX1 18 "FogBellMarket$Buyer" "coins" "I") ∈ xA := xI1 (List.mem_of_getElem? (i := 102) rfl) rfl
theorem w1_103 : (Cond.fieldLink RX6 221 "FogBellMarket$Buyer" "coins" "I") ∈ xA := xI1 (List.mem_of_getElem? (i := 103) rfl) rfl
theorem w1_104 : (Cond.fieldLink RX1 21 "FogBellMarket$Buyer" "wanted" "I") ∈ xA := xI1 (List.mem_of_getElem? (i := 104) rfl) rfl
theorem w1_105 : (Cond.fieldLink RX6 224 "FogBellMarket$Buyer" "wanted" "I") ∈ xA := xI1 (List.mem_of_getElem? (i := 105) rfl) rfl
theorem w1_106 : (Cond.fieldLink RX1 24 "FogBellMarket$Buyer" "speed" "I") ∈ xA := xI1 (List.mem_of_getElem? (i := 106) rfl) rfl
theorem w1_107 : (Cond.fieldLink RX6 227 "FogBellMarket$Buyer" "speed" "I") ∈ xA := xI1 (List.mem_of_getElem? (i := 107) rfl) rfl
theorem w1_108 : (Cond.fieldLink RX1 9 "FogBellMarket$Buyer" "heldStall" "I") ∈ xA := xI1 (List.mem_of_getElem? (i := 108) rfl) rfl
theorem w1_109 : (Cond.fieldLink RX2 81 "FogBellMarket$Buyer" "heldStall" "I") ∈ xA := xI1 (List.mem_of_getElem? (i := 109) rfl) rfl
theorem w1_110 : (Cond.fieldLink RX6 230 "FogBellMarket$Buyer" "heldStall" "I") ∈ xA := xI1 (List.mem_of_getElem? (i := 110) rfl) rfl
theorem w1_111 : (Cond.fieldLink RX1 27 "FogBellMarket$Buyer" "debt" "I") ∈ xA := xI1 (List.mem_of_getElem? (i := 111) rfl) rfl
theorem w1_112 : (Cond.fieldLink RX6 233 "FogBellMarket$Buyer" "debt" "I") ∈ xA := xI1 (List.mem_of_getElem? (i := 112) rfl) rfl
theorem w1_113 : (Cond.fieldLink RX1 30 "FogBellMarket$Buyer" "avoided" "I") ∈ xA := xI1 (List.mem_of_getElem? (i := 113) rfl) rfl
theorem w1_114 : (Cond.fieldLink RX2 145 "FogBellMarket$Buyer" "avoided" "I") ∈ xA := xI1 (List.mem_of_getElem? (i := 114) rfl) rfl
theorem w1_115 : (Cond.fieldLink RX6 236 "FogBellMarket$Buyer" "avoided" "I") ∈ xA := xI1 (List.mem_of_getElem? (i := 115) rfl) rfl
theorem w1_116 : (Cond.fieldLink RX1 33 "FogBellMarket$Buyer" "bought" "I") ∈ xA := xI1 (List.mem_of_getElem? (i := 116) rfl) rfl
theorem w1_117 : (Cond.fieldLink RX6 239 "FogBellMarket$Buyer" "bought" "I") ∈ xA := xI1 (List.mem_of_getElem? (i := 117) rfl) rfl
theorem w1_118 : (Cond.lays RX1 "FogBellMarket$Buyer" "position" "I") ∈ xA := xI1 (List.mem_of_getElem? (i := 118) rfl) rfl
theorem w1_120 : (Cond.lays RX1 "FogBellMarket$Buyer" "coins" "I") ∈ xA := xI1 (List.mem_of_getElem? (i := 120) rfl) rfl
theorem w1_122 : (Cond.lays RX1 "FogBellMarket$Buyer" "wanted" "I") ∈ xA := xI1 (List.mem_of_getElem? (i := 122) rfl) rfl
theorem w1_124 : (Cond.lays RX1 "FogBellMarket$Buyer" "speed" "I") ∈ xA := xI1 (List.mem_of_getElem? (i := 124) rfl) rfl
theorem w1_126 : (Cond.lays RX1 "FogBellMarket$Buyer" "heldStall" "I") ∈ xA := xI1 (List.mem_of_getElem? (i := 126) rfl) rfl
theorem w1_128 : (Cond.lays RX1 "FogBellMarket$Buyer" "debt" "I") ∈ xA := xI1 (List.mem_of_getElem? (i := 128) rfl) rfl
theorem w1_130 : (Cond.lays RX1 "FogBellMarket$Buyer" "avoided" "I") ∈ xA := xI1 (List.mem_of_getElem? (i := 130) rfl) rfl
theorem w1_132 : (Cond.lays RX1 "FogBellMarket$Buyer" "bought" "I") ∈ xA := xI1 (List.mem_of_getElem? (i := 132) rfl) rfl
theorem w1_135 : (Cond.fieldLink RX2 11 "FogBellMarket$Market" "stalls" "[LFogBellMarket$Stall;") ∈ xA := xI1 (List.mem_of_getElem? (i := 135) rfl) rfl
theorem w1_136 : (Cond.fieldLink RX3 168 "FogBellMarket$Market" "stalls" "[LFogBellMarket$Stall;") ∈ xA := xI1 (List.mem_of_getElem? (i := 136) rfl) rfl
theorem w1_137 : (Cond.fieldLink RX6 192 "FogBellMarket$Market" "stalls" "[LFogBellMarket$Stall;") ∈ xA := xI1 (List.mem_of_getElem? (i := 137) rfl) rfl
theorem w1_138 : (Cond.fieldLink RX2 29 "FogBellMarket$Market" "stallCount" "I") ∈ xA := xI1 (List.mem_of_getElem? (i := 138) rfl) rfl
theorem w1_139 : (Cond.fieldLink RX6 66 "FogBellMarket$Market" "stallCount" "I") ∈ xA := xI1 (List.mem_of_getElem? (i := 139) rfl) rfl
theorem w1_140 : (Cond.fieldLink RX3 121 "FogBellMarket$Market" "stallCount" "I") ∈ xA := xI1 (List.mem_of_getElem? (i := 140) rfl) rfl
theorem w1_141 : (Cond.fieldLink RX2 19 "FogBellMarket$Market" "buyers" "[LFogBellMarket$Buyer;") ∈ xA := xI1 (List.mem_of_getElem? (i := 141) rfl) rfl
theorem w1_142 : (Cond.fieldLink RX3 183 "FogBellMarket$Market" "buyers" "[LFogBellMarket$Buyer;") ∈ xA := xI1 (List.mem_of_getElem? (i := 142) rfl) rfl
theorem w1_143 : (Cond.fieldLink RX6 258 "FogBellMarket$Market" "buyers" "[LFogBellMarket$Buyer;") ∈ xA := xI1 (List.mem_of_getElem? (i := 143) rfl) rfl
theorem w1_144 : (Cond.fieldLink RX2 33 "FogBellMarket$Market" "buyerCount" "I") ∈ xA := xI1 (List.mem_of_getElem? (i := 144) rfl) rfl
theorem w1_145 : (Cond.fieldLink RX3 127 "FogBellMarket$Market" "buyerCount" "I") ∈ xA := xI1 (List.mem_of_getElem? (i := 145) rfl) rfl
theorem w1_146 : (Cond.fieldLink RX6 211 "FogBellMarket$Market" "buyerCount" "I") ∈ xA := xI1 (List.mem_of_getElem? (i := 146) rfl) rfl
theorem w1_147 : (Cond.fieldLink RX2 23 "FogBellMarket$Market" "fog" "[I") ∈ xA := xI1 (List.mem_of_getElem? (i := 147) rfl) rfl
theorem w1_148 : (Cond.fieldLink RX6 308 "FogBellMarket$Market" "fog" "[I") ∈ xA := xI1 (List.mem_of_getElem? (i := 148) rfl) rfl
theorem w1_149 : (Cond.fieldLink RX2 36 "FogBellMarket$Market" "fogLength" "I") ∈ xA := xI1 (List.mem_of_getElem? (i := 149) rfl) rfl
theorem w1_150 : (Cond.fieldLink RX3 155 "FogBellMarket$Market" "fogLength" "I") ∈ xA := xI1 (List.mem_of_getElem? (i := 150) rfl) rfl
theorem w1_151 : (Cond.fieldLink RX6 303 "FogBellMarket$Market" "fogLength" "I") ∈ xA := xI1 (List.mem_of_getElem? (i := 151) rfl) rfl
theorem w1_152 : (Cond.fieldLink RX2 39 "FogBellMarket$Market" "minute" "I") ∈ xA := xI1 (List.mem_of_getElem? (i := 152) rfl) rfl
theorem w1_153 : (Cond.fieldLink RX6 107 "FogBellMarket$Market" "minute" "I") ∈ xA := xI1 (List.mem_of_getElem? (i := 153) rfl) rfl
theorem w1_154 : (Cond.fieldLink RX2 42 "FogBellMarket$Market" "bell" "I") ∈ xA := xI1 (List.mem_of_getElem? (i := 154) rfl) rfl
theorem w1_155 : (Cond.fieldLink RX6 110 "FogBellMarket$Market" "bell" "I") ∈ xA := xI1 (List.mem_of_getElem? (i := 155) rfl) rfl
theorem w1_156 : (Cond.fieldLink RX2 45 "FogBellMarket$Market" "bellThreshold" "I") ∈ xA := xI1 (List.mem_of_getElem? (i := 156) rfl) rfl
theorem w1_157 : (Cond.fieldLink RX6 113 "FogBellMarket$Market" "bellThreshold" "I") ∈ xA := xI1 (List.mem_of_getElem? (i := 157) rfl) rfl
theorem w1_158 : (Cond.fieldLink RX2 48 "FogBellMarket$Market" "bellDuration" "I") ∈ xA := xI1 (List.mem_of_getElem? (i := 158) rfl) rfl
theorem w1_159 : (Cond.fieldLink RX6 116 "FogBellMarket$Market" "bellDuration" "I") ∈ xA := xI1 (List.mem_of_getElem? (i := 159) rfl) rfl
theorem w1_160 : (Cond.fieldLink RX2 51 "FogBellMarket$Market" "open" "Z") ∈ xA := xI1 (List.mem_of_getElem? (i := 160) rfl) rfl
theorem w1_161 : (Cond.fieldLink RX6 130 "FogBellMarket$Market" "open" "Z") ∈ xA := xI1 (List.mem_of_getElem? (i := 161) rfl) rfl
theorem w1_162 : (Cond.fieldLink RX2 55 "FogBellMarket$Market" "ready" "Z") ∈ xA := xI1 (List.mem_of_getElem? (i := 162) rfl) rfl
theorem w1_163 : (Cond.fieldLink RX6 134 "FogBellMarket$Market" "ready" "Z") ∈ xA := xI1 (List.mem_of_getElem? (i := 163) rfl) rfl
theorem w1_164 : (Cond.fieldLink RX2 58 "FogBellMarket$Market" "minutesOpen" "I") ∈ xA := xI1 (List.mem_of_getElem? (i := 164) rfl) rfl
theorem w1_165 : (Cond.fieldLink RX6 137 "FogBellMarket$Market" "minutesOpen" "I") ∈ xA := xI1 (List.mem_of_getElem? (i := 165) rfl) rfl
theorem w1_166 : (Cond.fieldLink RX2 61 "FogBellMarket$Market" "rings" "I") ∈ xA := xI1 (List.mem_of_getElem? (i := 166) rfl) rfl
theorem w1_167 : (Cond.fieldLink RX6 140 "FogBellMarket$Market" "rings" "I") ∈ xA := xI1 (List.mem_of_getElem? (i := 167) rfl) rfl
theorem w1_168 : (Cond.laysFinal RX2 "FogBellMarket$Market" "stalls" "[LFogBellMarket$Stall;") ∈ xA := xI1 (List.mem_of_getElem? (i := 168) rfl) rfl
theorem w1_170 : (Cond.lays RX2 "FogBellMarket$Market" "stallCount" "I") ∈ xA := xI1 (List.mem_of_getElem? (i := 170) rfl) rfl
theorem w1_172 : (Cond.laysFinal RX2 "FogBellMarket$Market" "buyers" "[LFogBellMarket$Buyer;") ∈ xA := xI1 (List.mem_of_getElem? (i := 172) rfl) rfl
theorem w1_174 : (Cond.lays RX2 "FogBellMarket$Market" "buyerCount" "I") ∈ xA := xI1 (List.mem_of_getElem? (i := 174) rfl) rfl
theorem w1_176 : (Cond.laysFinal RX2 "FogBellMarket$Market" "fog" "[I") ∈ xA := xI1 (List.mem_of_getElem? (i := 176) rfl) rfl
theorem w1_178 : (Cond.lays RX2 "FogBellMarket$Market" "fogLength" "I") ∈ xA := xI1 (List.mem_of_getElem? (i := 178) rfl) rfl
theorem w1_180 : (Cond.lays RX2 "FogBellMarket$Market" "minute" "I") ∈ xA := xI1 (List.mem_of_getElem? (i := 180) rfl) rfl
theorem w1_182 : (Cond.lays RX2 "FogBellMarket$Market" "bell" "I") ∈ xA := xI1 (List.mem_of_getElem? (i := 182) rfl) rfl
theorem w1_184 : (Cond.lays RX2 "FogBellMarket$Market" "bellThreshold" "I") ∈ xA := xI1 (List.mem_of_getElem? (i := 184) rfl) rfl
theorem w1_186 : (Cond.lays RX2 "FogBellMarket$Market" "bellDuration" "I") ∈ xA := xI1 (List.mem_of_getElem? (i := 186) rfl) rfl
theorem w1_188 : (Cond.lays RX2 "FogBellMarket$Market" "open" "Z") ∈ xA := xI1 (List.mem_of_getElem? (i := 188) rfl) rfl
theorem w1_190 : (Cond.lays RX2 "FogBellMarket$Market" "ready" "Z") ∈ xA := xI1 (List.mem_of_getElem? (i := 190) rfl) rfl
theorem w1_192 : (Cond.lays RX2 "FogBellMarket$Market" "minutesOpen" "I") ∈ xA := xI1 (List.mem_of_getElem? (i := 192) rfl) rfl
theorem w1_194 : (Cond.lays RX2 "FogBellMarket$Market" "rings" "I") ∈ xA := xI1 (List.mem_of_getElem? (i := 194) rfl) rfl
theorem w1_197 : (Cond.classLink RX6 22 "FogBellMarket$Reader") ∈ xA := xI1 (List.mem_of_getElem? (i := 197) rfl) rfl
theorem w1_198 : (Cond.instantiable RX3 10) ∈ xA := xI1 (List.mem_of_getElem? (i := 198) rfl) rfl
theorem w1_200 : (Cond.instanceMethod yX3_init) ∈ xA := xI1 (List.mem_of_getElem? (i := 200) rfl) rfl
theorem w1_201 : (Cond.code yX3_init cX3_init 1 none) ∈ xA := xI1 (List.mem_of_getElem? (i := 201) rfl) rfl
theorem w1_202 : (Cond.methodLink RX3 3 (⟨"java/lang/Object", "<init>", "()V"⟩)) ∈ xA := xI1 (List.mem_of_getElem? (i := 202) rfl) rfl
theorem w1_203 : (Cond.fieldLink RX3 9 "FogBellMarket$Reader" "bytes" "[B") ∈ xA := xI1 (List.mem_of_getElem? (i := 203) rfl) rfl
theorem w1_204 : (Cond.fieldLink RX6 58 "FogBellMarket$Reader" "length" "I") ∈ xA := xI1 (List.mem_of_getElem? (i := 204) rfl) rfl
theorem w1_205 : (Cond.fieldLink RX3 37 "FogBellMarket$Reader" "length" "I") ∈ xA := xI1 (List.mem_of_getElem? (i := 205) rfl) rfl
theorem w1_206 : (Cond.fieldLink RX6 86 "FogBellMarket$Reader" "errorCode" "I") ∈ xA := xI1 (List.mem_of_getElem? (i := 206) rfl) rfl
theorem w1_207 : (Cond.fieldLink RX3 42 "FogBellMarket$Reader" "errorCode" "I") ∈ xA := xI1 (List.mem_of_getElem? (i := 207) rfl) rfl
theorem w1_208 : (Cond.fieldLink RX3 15 "FogBellMarket$Reader" "errorPosition" "I") ∈ xA := xI1 (List.mem_of_getElem? (i := 208) rfl) rfl
theorem w1_209 : (Cond.fieldLink RX6 89 "FogBellMarket$Reader" "errorPosition" "I") ∈ xA := xI1 (List.mem_of_getElem? (i := 209) rfl) rfl
theorem w1_210 : (Cond.fieldLink RX3 91 "FogBellMarket$Reader" "verb" "LFogBellMarket$Verb;") ∈ xA := xI1 (List.mem_of_getElem? (i := 210) rfl) rfl
theorem w1_211 : (Cond.fieldLink RX2 166 "FogBellMarket$Reader" "verb" "LFogBellMarket$Verb;") ∈ xA := xI1 (List.mem_of_getElem? (i := 211) rfl) rfl
theorem w1_212 : (Cond.fieldLink RX3 19 "FogBellMarket$Reader" "arguments" "[I") ∈ xA := xI1 (List.mem_of_getElem? (i := 212) rfl) rfl
theorem w1_213 : (Cond.fieldLink RX3 39 "FogBellMarket$Reader" "next" "I") ∈ xA := xI1 (List.mem_of_getElem? (i := 213) rfl) rfl
theorem w1_214 : (Cond.fieldLink RX3 77 "FogBellMarket$Reader" "token" "I") ∈ xA := xI1 (List.mem_of_getElem? (i := 214) rfl) rfl
theorem w1_215 : (Cond.fieldLink RX3 206 "FogBellMarket$Reader" "tokenStart" "I") ∈ xA := xI1 (List.mem_of_getElem? (i := 215) rfl) rfl
theorem w1_216 : (Cond.fieldLink RX3 55 "FogBellMarket$Reader" "number" "I") ∈ xA := xI1 (List.mem_of_getElem? (i := 216) rfl) rfl
theorem w1_217 : (Cond.laysFinal RX3 "FogBellMarket$Reader" "bytes" "[B") ∈ xA := xI1 (List.mem_of_getElem? (i := 217) rfl) rfl
theorem w1_219 : (Cond.lays RX3 "FogBellMarket$Reader" "length" "I") ∈ xA := xI1 (List.mem_of_getElem? (i := 219) rfl) rfl
theorem w1_221 : (Cond.lays RX3 "FogBellMarket$Reader" "errorCode" "I") ∈ xA := xI1 (List.mem_of_getElem? (i := 221) rfl) rfl
theorem w1_223 : (Cond.lays RX3 "FogBellMarket$Reader" "errorPosition" "I") ∈ xA := xI1 (List.mem_of_getElem? (i := 223) rfl) rfl
theorem w1_225 : (Cond.lays RX3 "FogBellMarket$Reader" "verb" "LFogBellMarket$Verb;") ∈ xA := xI1 (List.mem_of_getElem? (i := 225) rfl) rfl
theorem w1_227 : (Cond.laysFinal RX3 "FogBellMarket$Reader" "arguments" "[I") ∈ xA := xI1 (List.mem_of_getElem? (i := 227) rfl) rfl
theorem w1_229 : (Cond.lays RX3 "FogBellMarket$Reader" "next" "I") ∈ xA := xI1 (List.mem_of_getElem? (i := 229) rfl) rfl
theorem w1_231 : (Cond.lays RX3 "FogBellMarket$Reader" "token" "I") ∈ xA := xI1 (List.mem_of_getElem? (i := 231) rfl) rfl
theorem w1_233 : (Cond.lays RX3 "FogBellMarket$Reader" "tokenStart" "I") ∈ xA := xI1 (List.mem_of_getElem? (i := 233) rfl) rfl
theorem w1_235 : (Cond.lays RX3 "FogBellMarket$Reader" "number" "I") ∈ xA := xI1 (List.mem_of_getElem? (i := 235) rfl) rfl
theorem w1_238 : (Cond.arrayClass FieldType.byte) ∈ xA := xI1 (List.mem_of_getElem? (i := 238) rfl) rfl
theorem w2_1 : (Cond.methodLink RX6 46 yX3_appendText) ∈ xA := xI2 (List.mem_of_getElem? (i := 1) rfl) rfl
theorem w2_2 : (Cond.instanceMethod yX3_appendText) ∈ xA := xI2 (List.mem_of_getElem? (i := 2) rfl) rfl
theorem w2_3 : (Cond.selects RX3 yX3_appendText yX3_appendText) ∈ xA := xI2 (List.mem_of_getElem? (i := 3) rfl) rfl
theorem w2_4 : (Cond.code yX3_appendText cX3_appendText 3 none) ∈ xA := xI2 (List.mem_of_getElem? (i := 4) rfl) rfl
theorem w2_5 : (Cond.methodLink RX3 23 yJ0_length_8abf5) ∈ xA := xI2 (List.mem_of_getElem? (i := 5) rfl) rfl
theorem w2_6 : (Cond.instanceMethod yJ0_length_8abf5) ∈ xA := xI2 (List.mem_of_getElem? (i := 6) rfl) rfl
theorem w2_7 : (Cond.selects RJ0 yJ0_length_8abf5 yJ0_length_8abf5) ∈ xA := xI2 (List.mem_of_getElem? (i := 7) rfl) rfl
theorem w2_8 : (Cond.code yJ0_length_8abf5 cJ0_length_8abf5 1 (some FieldType.int)) ∈ xA := xI2 (List.mem_of_getElem? (i := 8) rfl) rfl
theorem w2_9 : (Cond.methodLink RJ0 335 yJ0_coder_7d493) ∈ xA := xI2 (List.mem_of_getElem? (i := 9) rfl) rfl
theorem w2_10 : (Cond.instanceMethod yJ0_coder_7d493) ∈ xA := xI2 (List.mem_of_getElem? (i := 10) rfl) rfl
theorem w2_11 : (Cond.selects RJ0 yJ0_coder_7d493 yJ0_coder_7d493) ∈ xA := xI2 (List.mem_of_getElem? (i := 11) rfl) rfl
theorem w2_12 : (Cond.code yJ0_coder_7d493 cJ0_coder_7d493 1 (some FieldType.byte)) ∈ xA := xI2 (List.mem_of_getElem? (i := 12) rfl) rfl
theorem w2_13 : (Cond.fieldLink RJ0 38 "java/lang/String" "COMPACT_STRINGS" "Z") ∈ xA := xI2 (List.mem_of_getElem? (i := 13) rfl) rfl
theorem w2_15 : (Cond.methodLink RX3 29 yJ0_charAt_5068e) ∈ xA := xI2 (List.mem_of_getElem? (i := 15) rfl) rfl
theorem w2_16 : (Cond.instanceMethod yJ0_charAt_5068e) ∈ xA := xI2 (List.mem_of_getElem? (i := 16) rfl) rfl
theorem w2_17 : (Cond.selects RJ0 yJ0_charAt_5068e yJ0_charAt_5068e) ∈ xA := xI2 (List.mem_of_getElem? (i := 17) rfl) rfl
theorem w2_18 : (Cond.code yJ0_charAt_5068e cJ0_charAt_5068e 2 (some FieldType.char)) ∈ xA := xI2 (List.mem_of_getElem? (i := 18) rfl) rfl
theorem w2_19 : (Cond.methodLink RJ0 492 yJ0_isLatin1_aae02) ∈ xA := xI2 (List.mem_of_getElem? (i := 19) rfl) rfl
theorem w2_20 : (Cond.instanceMethod yJ0_isLatin1_aae02) ∈ xA := xI2 (List.mem_of_getElem? (i := 20) rfl) rfl
theorem w2_21 : (Cond.selects RJ0 yJ0_isLatin1_aae02 yJ0_isLatin1_aae02) ∈ xA := xI2 (List.mem_of_getElem? (i := 21) rfl) rfl
theorem w2_22 : (Cond.code yJ0_isLatin1_aae02 cJ0_isLatin1_aae02 1 (some FieldType.boolean)) ∈ xA := xI2 (List.mem_of_getElem? (i := 22) rfl) rfl
theorem w2_23 : (Cond.methodLink RJ0 495 yJ1_charAt_3b067) ∈ xA := xI2 (List.mem_of_getElem? (i := 23) rfl) rfl
theorem w2_24 : (Cond.static yJ1_charAt_3b067) ∈ xA := xI2 (List.mem_of_getElem? (i := 24) rfl) rfl
theorem w2_25 : (Cond.code yJ1_charAt_3b067 cJ1_charAt_3b067 2 (some FieldType.char)) ∈ xA := xI2 (List.mem_of_getElem? (i := 25) rfl) rfl
theorem w2_26 : (Cond.methodLink RJ1 9 yJ0_checkIndex_df160) ∈ xA := xI2 (List.mem_of_getElem? (i := 26) rfl) rfl
theorem w2_27 : (Cond.static yJ0_checkIndex_df160) ∈ xA := xI2 (List.mem_of_getElem? (i := 27) rfl) rfl
theorem w2_28 : (Cond.code yJ0_checkIndex_df160 cJ0_checkIndex_df160 2 none) ∈ xA := xI2 (List.mem_of_getElem? (i := 28) rfl) rfl
theorem w2_29 : (Cond.fieldLink RJ0 1053 "jdk/internal/util/Preconditions" "SIOOBE_FORMATTER" "Ljava/util/function/BiFunction;") ∈ xA := xI2 (List.mem_of_getElem? (i := 29) rfl) rfl
theorem w2_31 : (Cond.methodLink RJ0 1059 yJ3_checkIndex_8e157) ∈ xA := xI2 (List.mem_of_getElem? (i := 31) rfl) rfl
theorem w2_32 : (Cond.static yJ3_checkIndex_8e157) ∈ xA := xI2 (List.mem_of_getElem? (i := 32) rfl) rfl
theorem w2_33 : (Cond.code yJ3_checkIndex_8e157 cJ3_checkIndex_8e157 3 (some FieldType.int)) ∈ xA := xI2 (List.mem_of_getElem? (i := 33) rfl) rfl
theorem w2_34 : (Cond.methodLink RJ0 498 yJ2_charAt_3b067) ∈ xA := xI2 (List.mem_of_getElem? (i := 34) rfl) rfl
theorem w2_35 : (Cond.static yJ2_charAt_3b067) ∈ xA := xI2 (List.mem_of_getElem? (i := 35) rfl) rfl
theorem w2_36 : (Cond.code yJ2_charAt_3b067 cJ2_charAt_3b067 2 (some FieldType.char)) ∈ xA := xI2 (List.mem_of_getElem? (i := 36) rfl) rfl
theorem w2_37 : (Cond.methodLink RJ2 67 yJ2_checkIndex_2214a) ∈ xA := xI2 (List.mem_of_getElem? (i := 37) rfl) rfl
theorem w2_38 : (Cond.static yJ2_checkIndex_2214a) ∈ xA := xI2 (List.mem_of_getElem? (i := 38) rfl) rfl
theorem w2_39 : (Cond.code yJ2_checkIndex_2214a cJ2_checkIndex_2214a 2 none) ∈ xA := xI2 (List.mem_of_getElem? (i := 39) rfl) rfl
theorem w2_40 : (Cond.methodLink RJ2 48 yJ2_length_9d52b) ∈ xA := xI2 (List.mem_of_getElem? (i := 40) rfl) rfl
theorem w2_41 : (Cond.static yJ2_length_9d52b) ∈ xA := xI2 (List.mem_of_getElem? (i := 41) rfl) rfl
theorem w2_42 : (Cond.code yJ2_length_9d52b cJ2_length_9d52b 1 (some FieldType.int)) ∈ xA := xI2 (List.mem_of_getElem? (i := 42) rfl) rfl
theorem w2_43 : (Cond.methodLink RJ2 414 yJ0_checkIndex_df160) ∈ xA := xI2 (List.mem_of_getElem? (i := 43) rfl) rfl
theorem w2_44 : (Cond.methodLink RJ2 71 yJ2_getChar_3b067) ∈ xA := xI2 (List.mem_of_getElem? (i := 44) rfl) rfl
theorem w2_45 : (Cond.static yJ2_getChar_3b067) ∈ xA := xI2 (List.mem_of_getElem? (i := 45) rfl) rfl
theorem w2_46 : (Cond.code yJ2_getChar_3b067 cJ2_getChar_3b067 2 (some FieldType.char)) ∈ xA := xI2 (List.mem_of_getElem? (i := 46) rfl) rfl
theorem w2_47 : (Cond.fieldLink RJ2 44 "java/lang/StringUTF16" "$assertionsDisabled" "Z") ∈ xA := xI2 (List.mem_of_getElem? (i := 47) rfl) rfl
theorem w2_49 : (Cond.fieldLink RJ2 59 "java/lang/StringUTF16" "HI_BYTE_SHIFT" "I") ∈ xA := xI2 (List.mem_of_getElem? (i := 49) rfl) rfl
theorem w2_51 : (Cond.fieldLink RJ2 63 "java/lang/StringUTF16" "LO_BYTE_SHIFT" "I") ∈ xA := xI2 (List.mem_of_getElem? (i := 51) rfl) rfl
theorem w2_53 : (Cond.methodLink RX3 33 yX3_appendByte) ∈ xA := xI2 (List.mem_of_getElem? (i := 53) rfl) rfl
theorem w2_55 : (Cond.instanceMethod yX3_appendByte) ∈ xA := xI2 (List.mem_of_getElem? (i := 55) rfl) rfl
theorem w2_56 : (Cond.code yX3_appendByte cX3_appendByte 2 none) ∈ xA := xI2 (List.mem_of_getElem? (i := 56) rfl) rfl
theorem w2_57 : (Cond.methodLink RX6 50 yX6_replaceMarket) ∈ xA := xI2 (List.mem_of_getElem? (i := 57) rfl) rfl
theorem w2_59 : (Cond.instanceMethod yX6_replaceMarket) ∈ xA := xI2 (List.mem_of_getElem? (i := 59) rfl) rfl
theorem w2_60 : (Cond.code yX6_replaceMarket cX6_replaceMarket 3 (some FieldType.boolean)) ∈ xA := xI2 (List.mem_of_getElem? (i := 60) rfl) rfl
theorem w2_61 : (Cond.methodLink RX6 73 yX3_begin) ∈ xA := xI2 (List.mem_of_getElem? (i := 61) rfl) rfl
theorem w2_62 : (Cond.instanceMethod yX3_begin) ∈ xA := xI2 (List.mem_of_getElem? (i := 62) rfl) rfl
theorem w2_63 : (Cond.selects RX3 yX3_begin yX3_begin) ∈ xA := xI2 (List.mem_of_getElem? (i := 63) rfl) rfl
theorem w2_64 : (Cond.code yX3_begin cX3_begin 1 none) ∈ xA := xI2 (List.mem_of_getElem? (i := 64) rfl) rfl
theorem w2_65 : (Cond.methodLink RX6 92 yX3_readHead) ∈ xA := xI2 (List.mem_of_getElem? (i := 65) rfl) rfl
theorem w2_66 : (Cond.instanceMethod yX3_readHead) ∈ xA := xI2 (List.mem_of_getElem? (i := 66) rfl) rfl
theorem w2_67 : (Cond.selects RX3 yX3_readHead yX3_readHead) ∈ xA := xI2 (List.mem_of_getElem? (i := 67) rfl) rfl
theorem w2_68 : (Cond.code yX3_readHead cX3_readHead 4 (some FieldType.boolean)) ∈ xA := xI2 (List.mem_of_getElem? (i := 68) rfl) rfl
theorem w2_70 : (Cond.methodLink RX3 47 yX3_readWord) ∈ xA := xI2 (List.mem_of_getElem? (i := 70) rfl) rfl
theorem w2_72 : (Cond.instanceMethod yX3_readWord) ∈ xA := xI2 (List.mem_of_getElem? (i := 72) rfl) rfl
theorem w2_73 : (Cond.code yX3_readWord cX3_readWord 2 (some FieldType.boolean)) ∈ xA := xI2 (List.mem_of_getElem? (i := 73) rfl) rfl
theorem w2_74 : (Cond.methodLink RX3 74 yX3_readToken) ∈ xA := xI2 (List.mem_of_getElem? (i := 74) rfl) rfl
theorem w2_76 : (Cond.instanceMethod yX3_readToken) ∈ xA := xI2 (List.mem_of_getElem? (i := 76) rfl) rfl
theorem w2_77 : (Cond.code yX3_readToken cX3_readToken 1 none) ∈ xA := xI2 (List.mem_of_getElem? (i := 77) rfl) rfl
theorem w2_78 : (Cond.methodLink RX3 209 yX3_byteAt) ∈ xA := xI2 (List.mem_of_getElem? (i := 78) rfl) rfl
theorem w2_80 : (Cond.instanceMethod yX3_byteAt) ∈ xA := xI2 (List.mem_of_getElem? (i := 80) rfl) rfl
theorem w2_81 : (Cond.code yX3_byteAt cX3_byteAt 2 (some FieldType.int)) ∈ xA := xI2 (List.mem_of_getElem? (i := 81) rfl) rfl
theorem w2_82 : (Cond.methodLink RX3 212 yX3_isLetter) ∈ xA := xI2 (List.mem_of_getElem? (i := 82) rfl) rfl
theorem w2_83 : (Cond.static yX3_isLetter) ∈ xA := xI2 (List.mem_of_getElem? (i := 83) rfl) rfl
theorem w2_84 : (Cond.code yX3_isLetter cX3_isLetter 1 (some FieldType.boolean)) ∈ xA := xI2 (List.mem_of_getElem? (i := 84) rfl) rfl
theorem w2_85 : (Cond.methodLink RX3 215 yX3_isDigit) ∈ xA := xI2 (List.mem_of_getElem? (i := 85) rfl) rfl
theorem w2_86 : (Cond.static yX3_isDigit) ∈ xA := xI2 (List.mem_of_getElem? (i := 86) rfl) rfl
theorem w2_87 : (Cond.code yX3_isDigit cX3_isDigit 1 (some FieldType.boolean)) ∈ xA := xI2 (List.mem_of_getElem? (i := 87) rfl) rfl
theorem w2_88 : (Cond.methodLink RX3 218 yX3_readDigits) ∈ xA := xI2 (List.mem_of_getElem? (i := 88) rfl) rfl
theorem w2_90 : (Cond.instanceMethod yX3_readDigits) ∈ xA := xI2 (List.mem_of_getElem? (i := 90) rfl) rfl
theorem w2_91 : (Cond.code yX3_readDigits cX3_readDigits 1 none) ∈ xA := xI2 (List.mem_of_getElem? (i := 91) rfl) rfl
theorem w2_92 : (Cond.constant RX3 221 (100000)) ∈ xA := xI2 (List.mem_of_getElem? (i := 92) rfl) rfl
theorem w2_93 : (Cond.methodLink RX3 115 yX3_isWord) ∈ xA := xI2 (List.mem_of_getElem? (i := 93) rfl) rfl
theorem w2_95 : (Cond.instanceMethod yX3_isWord) ∈ xA := xI2 (List.mem_of_getElem? (i := 95) rfl) rfl
theorem w2_96 : (Cond.code yX3_isWord cX3_isWord 3 (some FieldType.boolean)) ∈ xA := xI2 (List.mem_of_getElem? (i := 96) rfl) rfl
theorem w2_97 : (Cond.methodLink RX3 80 yX3_fail) ∈ xA := xI2 (List.mem_of_getElem? (i := 97) rfl) rfl
theorem w2_99 : (Cond.instanceMethod yX3_fail) ∈ xA := xI2 (List.mem_of_getElem? (i := 99) rfl) rfl
theorem w2_100 : (Cond.code yX3_fail cX3_fail 2 (some FieldType.boolean)) ∈ xA := xI2 (List.mem_of_getElem? (i := 100) rfl) rfl
theorem w2_101 : (Cond.methodLink RX3 51 yX3_readNumber) ∈ xA := xI2 (List.mem_of_getElem? (i := 101) rfl) rfl
theorem w2_103 : (Cond.instanceMethod yX3_readNumber) ∈ xA := xI2 (List.mem_of_getElem? (i := 103) rfl) rfl
theorem w2_104 : (Cond.code yX3_readNumber cX3_readNumber 3 (some FieldType.boolean)) ∈ xA := xI2 (List.mem_of_getElem? (i := 104) rfl) rfl
theorem w2_105 : (Cond.methodLink RX3 148 yX3_isNumberFrom) ∈ xA := xI2 (List.mem_of_getElem? (i := 105) rfl) rfl
theorem w2_107 : (Cond.instanceMethod yX3_isNumberFrom) ∈ xA := xI2 (List.mem_of_getElem? (i := 107) rfl) rfl
theorem w2_108 : (Cond.code yX3_isNumberFrom cX3_isNumberFrom 3 (some FieldType.boolean)) ∈ xA := xI2 (List.mem_of_getElem? (i := 108) rfl) rfl
theorem w2_109 : (Cond.methodLink RX3 58 yX2_reset) ∈ xA := xI2 (List.mem_of_getElem? (i := 109) rfl) rfl
theorem w2_110 : (Cond.instanceMethod yX2_reset) ∈ xA := xI2 (List.mem_of_getElem? (i := 110) rfl) rfl
theorem w2_111 : (Cond.selects RX2 yX2_reset yX2_reset) ∈ xA := xI2 (List.mem_of_getElem? (i := 111) rfl) rfl
theorem w2_112 : (Cond.code yX2_reset cX2_reset 4 none) ∈ xA := xI2 (List.mem_of_getElem? (i := 112) rfl) rfl
theorem w2_113 : (Cond.methodLink RX3 64 yX3_readSemicolon) ∈ xA := xI2 (List.mem_of_getElem? (i := 113) rfl) rfl
theorem w2_115 : (Cond.instanceMethod yX3_readSemicolon) ∈ xA := xI2 (List.mem_of_getElem? (i := 115) rfl) rfl
theorem w2_116 : (Cond.code yX3_readSemicolon cX3_readSemicolon 1 (some FieldType.boolean)) ∈ xA := xI2 (List.mem_of_getElem? (i := 116) rfl) rfl
theorem w2_118 : (Cond.methodLink RX3 70 yX3_readFog) ∈ xA := xI2 (List.mem_of_getElem? (i := 118) rfl) rfl
theorem w2_120 : (Cond.instanceMethod yX3_readFog) ∈ xA := xI2 (List.mem_of_getElem? (i := 120) rfl) rfl
theorem w2_121 : (Cond.code yX3_readFog cX3_readFog 3 (some FieldType.boolean)) ∈ xA := xI2 (List.mem_of_getElem? (i := 121) rfl) rfl
theorem w2_122 : (Cond.methodLink RX3 84 yX2_addDensity) ∈ xA := xI2 (List.mem_of_getElem? (i := 122) rfl) rfl
theorem w2_123 : (Cond.instanceMethod yX2_addDensity) ∈ xA := xI2 (List.mem_of_getElem? (i := 123) rfl) rfl
theorem w2_124 : (Cond.selects RX2 yX2_addDensity yX2_addDensity) ∈ xA := xI2 (List.mem_of_getElem? (i := 124) rfl) rfl
theorem w2_125 : (Cond.code yX2_addDensity cX2_addDensity 2 none) ∈ xA := xI2 (List.mem_of_getElem? (i := 125) rfl) rfl
theorem w2_126 : (Cond.methodLink RX6 76 yX6_readCommands) ∈ xA := xI2 (List.mem_of_getElem? (i := 126) rfl) rfl
theorem w2_128 : (Cond.instanceMethod yX6_readCommands) ∈ xA := xI2 (List.mem_of_getElem? (i := 128) rfl) rfl
theorem w2_129 : (Cond.code yX6_readCommands cX6_readCommands 2 (some FieldType.int)) ∈ xA := xI2 (List.mem_of_getElem? (i := 129) rfl) rfl
theorem w2_130 : (Cond.methodLink RX6 99 yX3_readCommand) ∈ xA := xI2 (List.mem_of_getElem? (i := 130) rfl) rfl
theorem w2_131 : (Cond.instanceMethod yX3_readCommand) ∈ xA := xI2 (List.mem_of_getElem? (i := 131) rfl) rfl
theorem w2_132 : (Cond.selects RX3 yX3_readCommand yX3_readCommand) ∈ xA := xI2 (List.mem_of_getElem? (i := 132) rfl) rfl
theorem w2_133 : (Cond.code yX3_readCommand cX3_readCommand 4 (some FieldType.boolean)) ∈ xA := xI2 (List.mem_of_getElem? (i := 133) rfl) rfl
theorem w2_134 : (Cond.methodLink RX3 87 yX3_verbRead) ∈ xA := xI2 (List.mem_of_getElem? (i := 134) rfl) rfl
theorem w2_136 : (Cond.instanceMethod yX3_verbRead) ∈ xA := xI2 (List.mem_of_getElem? (i := 136) rfl) rfl
theorem w2_137 : (Cond.code yX3_verbRead cX3_verbRead 2 (some (FieldType.object "FogBellMarket$Verb"))) ∈ xA := xI2 (List.mem_of_getElem? (i := 137) rfl) rfl
theorem w2_138 : (Cond.fieldLink RX3 108 "FogBellMarket$Reader" "VERBS" "[LFogBellMarket$Verb;") ∈ xA := xI2 (List.mem_of_getElem? (i := 138) rfl) rfl
theorem w2_140 : (Cond.methodLink RX3 95 yX3_hasNoRoom) ∈ xA := xI2 (List.mem_of_getElem? (i := 140) rfl) rfl
theorem w2_142 : (Cond.instanceMethod yX3_hasNoRoom) ∈ xA := xI2 (List.mem_of_getElem? (i := 142) rfl) rfl
theorem w2_143 : (Cond.code yX3_hasNoRoom cX3_hasNoRoom 2 (some FieldType.boolean)) ∈ xA := xI2 (List.mem_of_getElem? (i := 143) rfl) rfl
theorem w2_144 : (Cond.fieldLink RX3 118 "FogBellMarket$Verb" "STALL" "LFogBellMarket$Verb;") ∈ xA := xI2 (List.mem_of_getElem? (i := 144) rfl) rfl
theorem w2_146 : (Cond.fieldLink RX3 124 "FogBellMarket$Verb" "BUYER" "LFogBellMarket$Verb;") ∈ xA := xI2 (List.mem_of_getElem? (i := 146) rfl) rfl
theorem w2_148 : (Cond.methodLink RX3 104 yX3_readArgument) ∈ xA := xI2 (List.mem_of_getElem? (i := 148) rfl) rfl
theorem w2_150 : (Cond.instanceMethod yX3_readArgument) ∈ xA := xI2 (List.mem_of_getElem? (i := 150) rfl) rfl
theorem w2_151 : (Cond.code yX3_readArgument cX3_readArgument 5 (some FieldType.boolean)) ∈ xA := xI2 (List.mem_of_getElem? (i := 151) rfl) rfl
theorem w2_152 : (Cond.methodLink RX3 130 yX3_lanternRead) ∈ xA := xI2 (List.mem_of_getElem? (i := 152) rfl) rfl
theorem w2_154 : (Cond.instanceMethod yX3_lanternRead) ∈ xA := xI2 (List.mem_of_getElem? (i := 154) rfl) rfl
theorem w2_155 : (Cond.code yX3_lanternRead cX3_lanternRead 1 (some FieldType.int)) ∈ xA := xI2 (List.mem_of_getElem? (i := 155) rfl) rfl
theorem w2_160 : (Cond.methodLink RX3 133 yX3_textureRead) ∈ xA := xI2 (List.mem_of_getElem? (i := 160) rfl) rfl
theorem w2_162 : (Cond.instanceMethod yX3_textureRead) ∈ xA := xI2 (List.mem_of_getElem? (i := 162) rfl) rfl
theorem w2_163 : (Cond.code yX3_textureRead cX3_textureRead 1 (some FieldType.int)) ∈ xA := xI2 (List.mem_of_getElem? (i := 163) rfl) rfl
theorem w2_167 : (Cond.methodLink RX3 136 yX3_keepArgument) ∈ xA := xI2 (List.mem_of_getElem? (i := 167) rfl) rfl
theorem w2_169 : (Cond.instanceMethod yX3_keepArgument) ∈ xA := xI2 (List.mem_of_getElem? (i := 169) rfl) rfl
theorem w2_170 : (Cond.code yX3_keepArgument cX3_keepArgument 3 none) ∈ xA := xI2 (List.mem_of_getElem? (i := 170) rfl) rfl
theorem w2_171 : (Cond.methodLink RX3 140 yX3_lowest) ∈ xA := xI2 (List.mem_of_getElem? (i := 171) rfl) rfl
theorem w2_172 : (Cond.static yX3_lowest) ∈ xA := xI2 (List.mem_of_getElem? (i := 172) rfl) rfl
theorem w2_173 : (Cond.code yX3_lowest cX3_lowest 1 (some FieldType.int)) ∈ xA := xI2 (List.mem_of_getElem? (i := 173) rfl) rfl
theorem w2_174 : (Cond.methodLink RX3 144 yX3_highest) ∈ xA := xI2 (List.mem_of_getElem? (i := 174) rfl) rfl
theorem w2_175 : (Cond.static yX3_highest) ∈ xA := xI2 (List.mem_of_getElem? (i := 175) rfl) rfl
theorem w2_176 : (Cond.code yX3_highest cX3_highest 2 (some FieldType.int)) ∈ xA := xI2 (List.mem_of_getElem? (i := 176) rfl) rfl
theorem w2_177 : (Cond.methodLink RX3 151 yX3_isRefusedBy) ∈ xA := xI2 (List.mem_of_getElem? (i := 177) rfl) rfl
theorem w2_179 : (Cond.instanceMethod yX3_isRefusedBy) ∈ xA := xI2 (List.mem_of_getElem? (i := 179) rfl) rfl
theorem w2_180 : (Cond.code yX3_isRefusedBy cX3_isRefusedBy 4 (some FieldType.boolean)) ∈ xA := xI2 (List.mem_of_getElem? (i := 180) rfl) rfl
theorem w2_181 : (Cond.fieldLink RX3 158 "FogBellMarket$Verb" "STOCK" "LFogBellMarket$Verb;") ∈ xA := xI2 (List.mem_of_getElem? (i := 181) rfl) rfl
theorem w2_183 : (Cond.methodLink RX3 161 yX3_argument) ∈ xA := xI2 (List.mem_of_getElem? (i := 183) rfl) rfl
theorem w2_184 : (Cond.instanceMethod yX3_argument) ∈ xA := xI2 (List.mem_of_getElem? (i := 184) rfl) rfl
theorem w2_185 : (Cond.selects RX3 yX3_argument yX3_argument) ∈ xA := xI2 (List.mem_of_getElem? (i := 185) rfl) rfl
theorem w2_186 : (Cond.code yX3_argument cX3_argument 2 (some FieldType.int)) ∈ xA := xI2 (List.mem_of_getElem? (i := 186) rfl) rfl
theorem w2_187 : (Cond.methodLink RX3 165 yX2_isStall) ∈ xA := xI2 (List.mem_of_getElem? (i := 187) rfl) rfl
theorem w2_188 : (Cond.instanceMethod yX2_isStall) ∈ xA := xI2 (List.mem_of_getElem? (i := 188) rfl) rfl
theorem w2_189 : (Cond.selects RX2 yX2_isStall yX2_isStall) ∈ xA := xI2 (List.mem_of_getElem? (i := 189) rfl) rfl
theorem w2_190 : (Cond.code yX2_isStall cX2_isStall 2 (some FieldType.boolean)) ∈ xA := xI2 (List.mem_of_getElem? (i := 190) rfl) rfl
theorem w2_191 : (Cond.methodLink RX3 172 yX4_hasRoomFor) ∈ xA := xI2 (List.mem_of_getElem? (i := 191) rfl) rfl
theorem w2_192 : (Cond.instanceMethod yX4_hasRoomFor) ∈ xA := xI2 (List.mem_of_getElem? (i := 192) rfl) rfl
theorem w2_193 : (Cond.selects RX4 yX4_hasRoomFor yX4_hasRoomFor) ∈ xA := xI2 (List.mem_of_getElem? (i := 193) rfl) rfl
theorem w2_194 : (Cond.code yX4_hasRoomFor cX4_hasRoomFor 2 (some FieldType.boolean)) ∈ xA := xI2 (List.mem_of_getElem? (i := 194) rfl) rfl
theorem w2_195 : (Cond.fieldLink RX3 177 "FogBellMarket$Verb" "BACK" "LFogBellMarket$Verb;") ∈ xA := xI2 (List.mem_of_getElem? (i := 195) rfl) rfl
theorem w2_197 : (Cond.methodLink RX3 180 yX2_isBuyer) ∈ xA := xI2 (List.mem_of_getElem? (i := 197) rfl) rfl
theorem w2_198 : (Cond.instanceMethod yX2_isBuyer) ∈ xA := xI2 (List.mem_of_getElem? (i := 198) rfl) rfl
theorem w2_199 : (Cond.selects RX2 yX2_isBuyer yX2_isBuyer) ∈ xA := xI2 (List.mem_of_getElem? (i := 199) rfl) rfl
theorem w2_200 : (Cond.code yX2_isBuyer cX2_isBuyer 2 (some FieldType.boolean)) ∈ xA := xI2 (List.mem_of_getElem? (i := 200) rfl) rfl
theorem w2_201 : (Cond.methodLink RX3 187 yX1_holds) ∈ xA := xI2 (List.mem_of_getElem? (i := 201) rfl) rfl
theorem w2_202 : (Cond.instanceMethod yX1_holds) ∈ xA := xI2 (List.mem_of_getElem? (i := 202) rfl) rfl
theorem w2_203 : (Cond.selects RX1 yX1_holds yX1_holds) ∈ xA := xI2 (List.mem_of_getElem? (i := 203) rfl) rfl
theorem w2_204 : (Cond.code yX1_holds cX1_holds 1 (some FieldType.boolean)) ∈ xA := xI2 (List.mem_of_getElem? (i := 204) rfl) rfl
theorem w2_205 : (Cond.methodLink RX6 103 yX2_perform) ∈ xA := xI2 (List.mem_of_getElem? (i := 205) rfl) rfl
theorem w2_206 : (Cond.instanceMethod yX2_perform) ∈ xA := xI2 (List.mem_of_getElem? (i := 206) rfl) rfl
theorem w2_207 : (Cond.selects RX2 yX2_perform yX2_perform) ∈ xA := xI2 (List.mem_of_getElem? (i := 207) rfl) rfl
theorem w2_208 : (Cond.code yX2_perform cX2_perform 4 none) ∈ xA := xI2 (List.mem_of_getElem? (i := 208) rfl) rfl
theorem w2_209 : (Cond.methodLink RX2 172 yX3_argument) ∈ xA := xI2 (List.mem_of_getElem? (i := 209) rfl) rfl
theorem w2_210 : (Cond.fieldLink RX2 175 "FogBellMarket$1" "$SwitchMap$FogBellMarket$Verb" "[I") ∈ xA := xI2 (List.mem_of_getElem? (i := 210) rfl) rfl
theorem w2_212 : (Cond.methodLink RX2 180 (⟨"FogBellMarket$Verb", "ordinal", "()I"⟩)) ∈ xA := xI2 (List.mem_of_getElem? (i := 212) rfl) rfl
theorem w2_213 : (Cond.sameMethod "FogBellMarket$Verb" "java/lang/Enum" "ordinal" "()I") ∈ xA := xI2 (List.mem_of_getElem? (i := 213) rfl) rfl
theorem w2_215 : (Cond.selects RX5 (⟨"FogBellMarket$Verb", "ordinal", "()I"⟩) yJx29ce0_ordinal_8abf5) ∈ xA := xI2 (List.mem_of_getElem? (i := 215) rfl) rfl
theorem w2_216 : (Cond.instanceMethod yJx29ce0_ordinal_8abf5) ∈ xA := xI2 (List.mem_of_getElem? (i := 216) rfl) rfl
theorem w2_217 : (Cond.code yJx29ce0_ordinal_8abf5 cJx29ce0_ordinal_8abf5 1 (some FieldType.int)) ∈ xA := xI2 (List.mem_of_getElem? (i := 217) rfl) rfl
theorem w2_218 : (Cond.methodLink RX2 185 yX2_placeStall) ∈ xA := xI2 (List.mem_of_getElem? (i := 218) rfl) rfl
theorem w2_219 : (Cond.instanceMethod yX2_placeStall) ∈ xA := xI2 (List.mem_of_getElem? (i := 219) rfl) rfl
theorem w2_220 : (Cond.selects RX2 yX2_placeStall yX2_placeStall) ∈ xA := xI2 (List.mem_of_getElem? (i := 220) rfl) rfl
theorem w2_221 : (Cond.code yX2_placeStall cX2_placeStall 7 (some FieldType.int)) ∈ xA := xI2 (List.mem_of_getElem? (i := 221) rfl) rfl
theorem w2_222 : (Cond.methodLink RX2 104 yX4_reset) ∈ xA := xI2 (List.mem_of_getElem? (i := 222) rfl) rfl
theorem w2_223 : (Cond.instanceMethod yX4_reset) ∈ xA := xI2 (List.mem_of_getElem? (i := 223) rfl) rfl
theorem w2_224 : (Cond.selects RX4 yX4_reset yX4_reset) ∈ xA := xI2 (List.mem_of_getElem? (i := 224) rfl) rfl
theorem w2_225 : (Cond.code yX4_reset cX4_reset 5 none) ∈ xA := xI2 (List.mem_of_getElem? (i := 225) rfl) rfl
theorem w2_226 : (Cond.methodLink RX2 108 yX4_receive) ∈ xA := xI2 (List.mem_of_getElem? (i := 226) rfl) rfl
theorem w2_227 : (Cond.instanceMethod yX4_receive) ∈ xA := xI2 (List.mem_of_getElem? (i := 227) rfl) rfl
theorem w2_228 : (Cond.selects RX4 yX4_receive yX4_receive) ∈ xA := xI2 (List.mem_of_getElem? (i := 228) rfl) rfl
theorem w2_229 : (Cond.code yX4_receive cX4_receive 2 none) ∈ xA := xI2 (List.mem_of_getElem? (i := 229) rfl) rfl
theorem w2_230 : (Cond.methodLink RX2 189 yX2_placeBuyer) ∈ xA := xI2 (List.mem_of_getElem? (i := 230) rfl) rfl
theorem w2_231 : (Cond.instanceMethod yX2_placeBuyer) ∈ xA := xI2 (List.mem_of_getElem? (i := 231) rfl) rfl
theorem w2_232 : (Cond.selects RX2 yX2_placeBuyer yX2_placeBuyer) ∈ xA := xI2 (List.mem_of_getElem? (i := 232) rfl) rfl
theorem w2_233 : (Cond.code yX2_placeBuyer cX2_placeBuyer 6 (some FieldType.int)) ∈ xA := xI2 (List.mem_of_getElem? (i := 233) rfl) rfl
theorem w2_234 : (Cond.methodLink RX2 112 yX1_reset) ∈ xA := xI2 (List.mem_of_getElem? (i := 234) rfl) rfl
theorem w2_235 : (Cond.instanceMethod yX1_reset) ∈ xA := xI2 (List.mem_of_getElem? (i := 235) rfl) rfl
theorem w2_236 : (Cond.selects RX1 yX1_reset yX1_reset) ∈ xA := xI2 (List.mem_of_getElem? (i := 236) rfl) rfl
theorem w2_237 : (Cond.code yX1_reset cX1_reset 5 none) ∈ xA := xI2 (List.mem_of_getElem? (i := 237) rfl) rfl
theorem w2_238 : (Cond.methodLink RX2 193 yX2_isBuyer) ∈ xA := xI2 (List.mem_of_getElem? (i := 238) rfl) rfl
theorem w2_239 : (Cond.methodLink RX2 196 yX2_returnAndAvoid) ∈ xA := xI2 (List.mem_of_getElem? (i := 239) rfl) rfl
theorem w3_0 : (Cond.instanceMethod yX2_returnAndAvoid) ∈ xA := xI3 (List.mem_of_getElem? (i := 0) rfl) rfl
theorem w3_1 : (Cond.selects RX2 yX2_returnAndAvoid yX2_returnAndAvoid) ∈ xA := xI3 (List.mem_of_getElem? (i := 1) rfl) rfl
theorem w3_2 : (Cond.code yX2_returnAndAvoid cX2_returnAndAvoid 3 none) ∈ xA := xI3 (List.mem_of_getElem? (i := 2) rfl) rfl
theorem w3_3 : (Cond.methodLink RX2 122 yX2_returnGood) ∈ xA := xI3 (List.mem_of_getElem? (i := 3) rfl) rfl
theorem w3_4 : (Cond.instanceMethod yX2_returnGood) ∈ xA := xI3 (List.mem_of_getElem? (i := 4) rfl) rfl
theorem w3_5 : (Cond.selects RX2 yX2_returnGood yX2_returnGood) ∈ xA := xI3 (List.mem_of_getElem? (i := 5) rfl) rfl
theorem w3_6 : (Cond.code yX2_returnGood cX2_returnGood 2 none) ∈ xA := xI3 (List.mem_of_getElem? (i := 6) rfl) rfl
theorem w3_7 : (Cond.methodLink RX2 113 yX2_isStall) ∈ xA := xI3 (List.mem_of_getElem? (i := 7) rfl) rfl
theorem w3_8 : (Cond.methodLink RX2 119 yX1_letGo) ∈ xA := xI3 (List.mem_of_getElem? (i := 8) rfl) rfl
theorem w3_9 : (Cond.instanceMethod yX1_letGo) ∈ xA := xI3 (List.mem_of_getElem? (i := 9) rfl) rfl
theorem w3_10 : (Cond.selects RX1 yX1_letGo yX1_letGo) ∈ xA := xI3 (List.mem_of_getElem? (i := 10) rfl) rfl
theorem w3_11 : (Cond.code yX1_letGo cX1_letGo 1 none) ∈ xA := xI3 (List.mem_of_getElem? (i := 11) rfl) rfl
theorem w3_12 : (Cond.methodLink RX2 125 yX1_avoid) ∈ xA := xI3 (List.mem_of_getElem? (i := 12) rfl) rfl
theorem w3_13 : (Cond.instanceMethod yX1_avoid) ∈ xA := xI3 (List.mem_of_getElem? (i := 13) rfl) rfl
theorem w3_14 : (Cond.selects RX1 yX1_avoid yX1_avoid) ∈ xA := xI3 (List.mem_of_getElem? (i := 14) rfl) rfl
theorem w3_15 : (Cond.code yX1_avoid cX1_avoid 2 none) ∈ xA := xI3 (List.mem_of_getElem? (i := 15) rfl) rfl
theorem w3_16 : (Cond.methodLink RX2 199 yX2_pass) ∈ xA := xI3 (List.mem_of_getElem? (i := 16) rfl) rfl
theorem w3_17 : (Cond.instanceMethod yX2_pass) ∈ xA := xI3 (List.mem_of_getElem? (i := 17) rfl) rfl
theorem w3_18 : (Cond.selects RX2 yX2_pass yX2_pass) ∈ xA := xI3 (List.mem_of_getElem? (i := 18) rfl) rfl
theorem w3_19 : (Cond.code yX2_pass cX2_pass 5 none) ∈ xA := xI3 (List.mem_of_getElem? (i := 19) rfl) rfl
theorem w3_20 : (Cond.methodLink RX2 128 yX2_densityNow) ∈ xA := xI3 (List.mem_of_getElem? (i := 20) rfl) rfl
theorem w3_21 : (Cond.instanceMethod yX2_densityNow) ∈ xA := xI3 (List.mem_of_getElem? (i := 21) rfl) rfl
theorem w3_22 : (Cond.selects RX2 yX2_densityNow yX2_densityNow) ∈ xA := xI3 (List.mem_of_getElem? (i := 22) rfl) rfl
theorem w3_23 : (Cond.code yX2_densityNow cX2_densityNow 1 (some FieldType.int)) ∈ xA := xI3 (List.mem_of_getElem? (i := 23) rfl) rfl
theorem w3_24 : (Cond.methodLink RX2 71 yX2_densityIn) ∈ xA := xI3 (List.mem_of_getElem? (i := 24) rfl) rfl
theorem w3_25 : (Cond.instanceMethod yX2_densityIn) ∈ xA := xI3 (List.mem_of_getElem? (i := 25) rfl) rfl
theorem w3_26 : (Cond.selects RX2 yX2_densityIn yX2_densityIn) ∈ xA := xI3 (List.mem_of_getElem? (i := 26) rfl) rfl
theorem w3_27 : (Cond.code yX2_densityIn cX2_densityIn 2 (some FieldType.int)) ∈ xA := xI3 (List.mem_of_getElem? (i := 27) rfl) rfl
theorem w3_28 : (Cond.methodLink RX2 132 yX2_moveBell) ∈ xA := xI3 (List.mem_of_getElem? (i := 28) rfl) rfl
theorem w3_29 : (Cond.instanceMethod yX2_moveBell) ∈ xA := xI3 (List.mem_of_getElem? (i := 29) rfl) rfl
theorem w3_30 : (Cond.selects RX2 yX2_moveBell yX2_moveBell) ∈ xA := xI3 (List.mem_of_getElem? (i := 30) rfl) rfl
theorem w3_31 : (Cond.code yX2_moveBell cX2_moveBell 4 none) ∈ xA := xI3 (List.mem_of_getElem? (i := 31) rfl) rfl
theorem w3_32 : (Cond.methodLink RX2 135 yX2_letAct) ∈ xA := xI3 (List.mem_of_getElem? (i := 32) rfl) rfl
theorem w3_34 : (Cond.instanceMethod yX2_letAct) ∈ xA := xI3 (List.mem_of_getElem? (i := 34) rfl) rfl
theorem w3_35 : (Cond.code yX2_letAct cX2_letAct 5 none) ∈ xA := xI3 (List.mem_of_getElem? (i := 35) rfl) rfl
theorem w3_36 : (Cond.methodLink RX2 148 yX1_walkTo) ∈ xA := xI3 (List.mem_of_getElem? (i := 36) rfl) rfl
theorem w3_37 : (Cond.instanceMethod yX1_walkTo) ∈ xA := xI3 (List.mem_of_getElem? (i := 37) rfl) rfl
theorem w3_38 : (Cond.selects RX1 yX1_walkTo yX1_walkTo) ∈ xA := xI3 (List.mem_of_getElem? (i := 38) rfl) rfl
theorem w3_39 : (Cond.code yX1_walkTo cX1_walkTo 2 none) ∈ xA := xI3 (List.mem_of_getElem? (i := 39) rfl) rfl
theorem w3_40 : (Cond.methodLink RX2 151 yX1_payTo) ∈ xA := xI3 (List.mem_of_getElem? (i := 40) rfl) rfl
theorem w3_41 : (Cond.instanceMethod yX1_payTo) ∈ xA := xI3 (List.mem_of_getElem? (i := 41) rfl) rfl
theorem w3_42 : (Cond.selects RX1 yX1_payTo yX1_payTo) ∈ xA := xI3 (List.mem_of_getElem? (i := 42) rfl) rfl
theorem w3_43 : (Cond.code yX1_payTo cX1_payTo 2 none) ∈ xA := xI3 (List.mem_of_getElem? (i := 43) rfl) rfl
theorem w3_44 : (Cond.methodLink RX1 53 yX1_letGo) ∈ xA := xI3 (List.mem_of_getElem? (i := 44) rfl) rfl
theorem w3_45 : (Cond.methodLink RX2 154 yX2_findTarget) ∈ xA := xI3 (List.mem_of_getElem? (i := 45) rfl) rfl
theorem w3_46 : (Cond.instanceMethod yX2_findTarget) ∈ xA := xI3 (List.mem_of_getElem? (i := 46) rfl) rfl
theorem w3_47 : (Cond.selects RX2 yX2_findTarget yX2_findTarget) ∈ xA := xI3 (List.mem_of_getElem? (i := 47) rfl) rfl
theorem w3_48 : (Cond.code yX2_findTarget cX2_findTarget 8 (some FieldType.int)) ∈ xA := xI3 (List.mem_of_getElem? (i := 48) rfl) rfl
theorem w3_49 : (Cond.methodLink RX2 88 yJ9_abs_0f7a4) ∈ xA := xI3 (List.mem_of_getElem? (i := 49) rfl) rfl
theorem w3_50 : (Cond.static yJ9_abs_0f7a4) ∈ xA := xI3 (List.mem_of_getElem? (i := 50) rfl) rfl
theorem w3_51 : (Cond.code yJ9_abs_0f7a4 cJ9_abs_0f7a4 1 (some FieldType.int)) ∈ xA := xI3 (List.mem_of_getElem? (i := 51) rfl) rfl
theorem w3_52 : (Cond.methodLink RX2 96 yX4_paces) ∈ xA := xI3 (List.mem_of_getElem? (i := 52) rfl) rfl
theorem w3_53 : (Cond.static yX4_paces) ∈ xA := xI3 (List.mem_of_getElem? (i := 53) rfl) rfl
theorem w3_54 : (Cond.code yX4_paces cX4_paces 2 (some FieldType.int)) ∈ xA := xI3 (List.mem_of_getElem? (i := 54) rfl) rfl
theorem w3_55 : (Cond.methodLink RX2 100 yX1_avoids) ∈ xA := xI3 (List.mem_of_getElem? (i := 55) rfl) rfl
theorem w3_56 : (Cond.instanceMethod yX1_avoids) ∈ xA := xI3 (List.mem_of_getElem? (i := 56) rfl) rfl
theorem w3_57 : (Cond.selects RX1 yX1_avoids yX1_avoids) ∈ xA := xI3 (List.mem_of_getElem? (i := 57) rfl) rfl
theorem w3_58 : (Cond.code yX1_avoids cX1_avoids 2 (some FieldType.boolean)) ∈ xA := xI3 (List.mem_of_getElem? (i := 58) rfl) rfl
theorem w3_59 : (Cond.methodLink RX2 158 yX1_feel) ∈ xA := xI3 (List.mem_of_getElem? (i := 59) rfl) rfl
theorem w3_60 : (Cond.instanceMethod yX1_feel) ∈ xA := xI3 (List.mem_of_getElem? (i := 60) rfl) rfl
theorem w3_61 : (Cond.selects RX1 yX1_feel yX1_feel) ∈ xA := xI3 (List.mem_of_getElem? (i := 61) rfl) rfl
theorem w3_62 : (Cond.code yX1_feel cX1_feel 2 (some FieldType.int)) ∈ xA := xI3 (List.mem_of_getElem? (i := 62) rfl) rfl
theorem w3_63 : (Cond.methodLink RX2 162 yX1_take) ∈ xA := xI3 (List.mem_of_getElem? (i := 63) rfl) rfl
theorem w3_64 : (Cond.instanceMethod yX1_take) ∈ xA := xI3 (List.mem_of_getElem? (i := 64) rfl) rfl
theorem w3_65 : (Cond.selects RX1 yX1_take yX1_take) ∈ xA := xI3 (List.mem_of_getElem? (i := 65) rfl) rfl
theorem w3_66 : (Cond.code yX1_take cX1_take 3 none) ∈ xA := xI3 (List.mem_of_getElem? (i := 66) rfl) rfl
theorem w3_67 : (Cond.methodLink RX2 139 yX4_letMistIn) ∈ xA := xI3 (List.mem_of_getElem? (i := 67) rfl) rfl
theorem w3_68 : (Cond.instanceMethod yX4_letMistIn) ∈ xA := xI3 (List.mem_of_getElem? (i := 68) rfl) rfl
theorem w3_69 : (Cond.selects RX4 yX4_letMistIn yX4_letMistIn) ∈ xA := xI3 (List.mem_of_getElem? (i := 69) rfl) rfl
theorem w3_70 : (Cond.code yX4_letMistIn cX4_letMistIn 2 none) ∈ xA := xI3 (List.mem_of_getElem? (i := 70) rfl) rfl
theorem w3_71 : (Cond.methodLink RX4 49 yX4_guardedDensity) ∈ xA := xI3 (List.mem_of_getElem? (i := 71) rfl) rfl
theorem w3_73 : (Cond.instanceMethod yX4_guardedDensity) ∈ xA := xI3 (List.mem_of_getElem? (i := 73) rfl) rfl
theorem w3_74 : (Cond.code yX4_guardedDensity cX4_guardedDensity 1 (some FieldType.int)) ∈ xA := xI3 (List.mem_of_getElem? (i := 74) rfl) rfl
theorem w3_75 : (Cond.methodLink RX2 142 yX2_countMinute) ∈ xA := xI3 (List.mem_of_getElem? (i := 75) rfl) rfl
theorem w3_76 : (Cond.instanceMethod yX2_countMinute) ∈ xA := xI3 (List.mem_of_getElem? (i := 76) rfl) rfl
theorem w3_77 : (Cond.selects RX2 yX2_countMinute yX2_countMinute) ∈ xA := xI3 (List.mem_of_getElem? (i := 77) rfl) rfl
theorem w3_78 : (Cond.code yX2_countMinute cX2_countMinute 1 none) ∈ xA := xI3 (List.mem_of_getElem? (i := 78) rfl) rfl
theorem w3_79 : (Cond.methodLink RX2 202 yX2_changeStall) ∈ xA := xI3 (List.mem_of_getElem? (i := 79) rfl) rfl
theorem w3_80 : (Cond.static yX2_changeStall) ∈ xA := xI3 (List.mem_of_getElem? (i := 80) rfl) rfl
theorem w3_81 : (Cond.code yX2_changeStall cX2_changeStall 3 none) ∈ xA := xI3 (List.mem_of_getElem? (i := 81) rfl) rfl
theorem w3_82 : (Cond.methodLink RX6 80 yX3_clear) ∈ xA := xI3 (List.mem_of_getElem? (i := 82) rfl) rfl
theorem w3_83 : (Cond.instanceMethod yX3_clear) ∈ xA := xI3 (List.mem_of_getElem? (i := 83) rfl) rfl
theorem w3_84 : (Cond.selects RX3 yX3_clear yX3_clear) ∈ xA := xI3 (List.mem_of_getElem? (i := 84) rfl) rfl
theorem w3_85 : (Cond.code yX3_clear cX3_clear 1 none) ∈ xA := xI3 (List.mem_of_getElem? (i := 85) rfl) rfl
theorem w3_86 : (Cond.methodLink RX6 69 yX2_copyFrom) ∈ xA := xI3 (List.mem_of_getElem? (i := 86) rfl) rfl
theorem w3_87 : (Cond.instanceMethod yX2_copyFrom) ∈ xA := xI3 (List.mem_of_getElem? (i := 87) rfl) rfl
theorem w3_88 : (Cond.selects RX2 yX2_copyFrom yX2_copyFrom) ∈ xA := xI3 (List.mem_of_getElem? (i := 88) rfl) rfl
theorem w3_89 : (Cond.code yX2_copyFrom cX2_copyFrom 3 none) ∈ xA := xI3 (List.mem_of_getElem? (i := 89) rfl) rfl
theorem w3_90 : (Cond.methodLink RX2 64 yX4_copyFrom) ∈ xA := xI3 (List.mem_of_getElem? (i := 90) rfl) rfl
theorem w3_91 : (Cond.instanceMethod yX4_copyFrom) ∈ xA := xI3 (List.mem_of_getElem? (i := 91) rfl) rfl
theorem w3_92 : (Cond.selects RX4 yX4_copyFrom yX4_copyFrom) ∈ xA := xI3 (List.mem_of_getElem? (i := 92) rfl) rfl
theorem w3_93 : (Cond.code yX4_copyFrom cX4_copyFrom 2 none) ∈ xA := xI3 (List.mem_of_getElem? (i := 93) rfl) rfl
theorem w3_94 : (Cond.methodLink RX2 68 yX1_copyFrom) ∈ xA := xI3 (List.mem_of_getElem? (i := 94) rfl) rfl
theorem w3_95 : (Cond.instanceMethod yX1_copyFrom) ∈ xA := xI3 (List.mem_of_getElem? (i := 95) rfl) rfl
theorem w3_96 : (Cond.selects RX1 yX1_copyFrom yX1_copyFrom) ∈ xA := xI3 (List.mem_of_getElem? (i := 96) rfl) rfl
theorem w3_97 : (Cond.code yX1_copyFrom cX1_copyFrom 2 none) ∈ xA := xI3 (List.mem_of_getElem? (i := 97) rfl) rfl
theorem w3_98 : (Cond.methodLink RX6 96 yX6_forgetChanges) ∈ xA := xI3 (List.mem_of_getElem? (i := 98) rfl) rfl
theorem w3_100 : (Cond.instanceMethod yX6_forgetChanges) ∈ xA := xI3 (List.mem_of_getElem? (i := 100) rfl) rfl
theorem w3_101 : (Cond.code yX6_forgetChanges cX6_forgetChanges 1 none) ∈ xA := xI3 (List.mem_of_getElem? (i := 101) rfl) rfl
theorem w3_102 : (Cond.fieldLink RX6 10 "FogBellMarket" "market" "LFogBellMarket$Market;") ∈ xA := xI3 (List.mem_of_getElem? (i := 102) rfl) rfl
theorem w3_103 : (Cond.fieldLink RX6 16 "FogBellMarket" "draft" "LFogBellMarket$Market;") ∈ xA := xI3 (List.mem_of_getElem? (i := 103) rfl) rfl
theorem w3_104 : (Cond.fieldLink RX6 19 "FogBellMarket" "probe" "LFogBellMarket$Market;") ∈ xA := xI3 (List.mem_of_getElem? (i := 104) rfl) rfl
theorem w3_105 : (Cond.fieldLink RX6 25 "FogBellMarket" "reader" "LFogBellMarket$Reader;") ∈ xA := xI3 (List.mem_of_getElem? (i := 105) rfl) rfl
theorem w3_106 : (Cond.fieldLink RX6 29 "FogBellMarket" "past" "[LFogBellMarket$Market;") ∈ xA := xI3 (List.mem_of_getElem? (i := 106) rfl) rfl
theorem w3_107 : (Cond.fieldLink RX6 318 "FogBellMarket" "pastNext" "I") ∈ xA := xI3 (List.mem_of_getElem? (i := 107) rfl) rfl
theorem w3_108 : (Cond.fieldLink RX6 119 "FogBellMarket" "pastCount" "I") ∈ xA := xI3 (List.mem_of_getElem? (i := 108) rfl) rfl
theorem w3_109 : (Cond.fieldLink RX6 33 "FogBellMarket" "saved" "[LFogBellMarket$Market;") ∈ xA := xI3 (List.mem_of_getElem? (i := 109) rfl) rfl
theorem w3_110 : (Cond.fieldLink RX6 36 "FogBellMarket" "hasSaved" "[Z") ∈ xA := xI3 (List.mem_of_getElem? (i := 110) rfl) rfl
theorem w3_111 : (Cond.fieldLink RX6 40 "FogBellMarket" "output" "[B") ∈ xA := xI3 (List.mem_of_getElem? (i := 111) rfl) rfl
theorem w3_112 : (Cond.fieldLink RX6 335 "FogBellMarket" "outputLength" "I") ∈ xA := xI3 (List.mem_of_getElem? (i := 112) rfl) rfl
theorem w3_113 : (Cond.laysFinal RX6 "FogBellMarket" "market" "LFogBellMarket$Market;") ∈ xA := xI3 (List.mem_of_getElem? (i := 113) rfl) rfl
theorem w3_115 : (Cond.laysFinal RX6 "FogBellMarket" "draft" "LFogBellMarket$Market;") ∈ xA := xI3 (List.mem_of_getElem? (i := 115) rfl) rfl
theorem w3_117 : (Cond.laysFinal RX6 "FogBellMarket" "probe" "LFogBellMarket$Market;") ∈ xA := xI3 (List.mem_of_getElem? (i := 117) rfl) rfl
theorem w3_119 : (Cond.laysFinal RX6 "FogBellMarket" "reader" "LFogBellMarket$Reader;") ∈ xA := xI3 (List.mem_of_getElem? (i := 119) rfl) rfl
theorem w3_121 : (Cond.laysFinal RX6 "FogBellMarket" "past" "[LFogBellMarket$Market;") ∈ xA := xI3 (List.mem_of_getElem? (i := 121) rfl) rfl
theorem w3_123 : (Cond.lays RX6 "FogBellMarket" "pastNext" "I") ∈ xA := xI3 (List.mem_of_getElem? (i := 123) rfl) rfl
theorem w3_125 : (Cond.lays RX6 "FogBellMarket" "pastCount" "I") ∈ xA := xI3 (List.mem_of_getElem? (i := 125) rfl) rfl
theorem w3_127 : (Cond.laysFinal RX6 "FogBellMarket" "saved" "[LFogBellMarket$Market;") ∈ xA := xI3 (List.mem_of_getElem? (i := 127) rfl) rfl
theorem w3_129 : (Cond.laysFinal RX6 "FogBellMarket" "hasSaved" "[Z") ∈ xA := xI3 (List.mem_of_getElem? (i := 129) rfl) rfl
theorem w3_131 : (Cond.laysFinal RX6 "FogBellMarket" "output" "[B") ∈ xA := xI3 (List.mem_of_getElem? (i := 131) rfl) rfl
theorem w3_133 : (Cond.lays RX6 "FogBellMarket" "outputLength" "I") ∈ xA := xI3 (List.mem_of_getElem? (i := 133) rfl) rfl
theorem w3_136 : (Cond.arrayClass FieldType.boolean) ∈ xA := xI3 (List.mem_of_getElem? (i := 136) rfl) rfl
theorem w3_137 : (Cond.methodLink RL 140 yX6_feed) ∈ xA := xI3 (List.mem_of_getElem? (i := 137) rfl) rfl
theorem w3_138 : (Cond.instanceMethod yX6_feed) ∈ xA := xI3 (List.mem_of_getElem? (i := 138) rfl) rfl
theorem w3_139 : (Cond.selects RX6 yX6_feed yX6_feed) ∈ xA := xI3 (List.mem_of_getElem? (i := 139) rfl) rfl
theorem w3_140 : (Cond.code yX6_feed cX6_feed 7 (some FieldType.int)) ∈ xA := xI3 (List.mem_of_getElem? (i := 140) rfl) rfl
theorem w3_141 : (Cond.methodLink RX6 54 yX6_bytesIn) ∈ xA := xI3 (List.mem_of_getElem? (i := 141) rfl) rfl
theorem w3_142 : (Cond.static yX6_bytesIn) ∈ xA := xI3 (List.mem_of_getElem? (i := 142) rfl) rfl
theorem w3_143 : (Cond.code yX6_bytesIn cX6_bytesIn 3 (some FieldType.int)) ∈ xA := xI3 (List.mem_of_getElem? (i := 143) rfl) rfl
theorem w3_144 : (Cond.methodLink RX6 62 yX3_appendWord) ∈ xA := xI3 (List.mem_of_getElem? (i := 144) rfl) rfl
theorem w3_145 : (Cond.instanceMethod yX3_appendWord) ∈ xA := xI3 (List.mem_of_getElem? (i := 145) rfl) rfl
theorem w3_146 : (Cond.selects RX3 yX3_appendWord yX3_appendWord) ∈ xA := xI3 (List.mem_of_getElem? (i := 146) rfl) rfl
theorem w3_147 : (Cond.code yX3_appendWord cX3_appendWord 4 none) ∈ xA := xI3 (List.mem_of_getElem? (i := 147) rfl) rfl
theorem w3_148 : (Cond.methodLink RL 144 yX6_loadSetup) ∈ xA := xI3 (List.mem_of_getElem? (i := 148) rfl) rfl
theorem w3_149 : (Cond.instanceMethod yX6_loadSetup) ∈ xA := xI3 (List.mem_of_getElem? (i := 149) rfl) rfl
theorem w3_150 : (Cond.selects RX6 yX6_loadSetup yX6_loadSetup) ∈ xA := xI3 (List.mem_of_getElem? (i := 150) rfl) rfl
theorem w3_151 : (Cond.code yX6_loadSetup cX6_loadSetup 1 (some FieldType.int)) ∈ xA := xI3 (List.mem_of_getElem? (i := 151) rfl) rfl
theorem w3_152 : (Cond.methodLink RL 148 yX6_runScript) ∈ xA := xI3 (List.mem_of_getElem? (i := 152) rfl) rfl
theorem w3_153 : (Cond.instanceMethod yX6_runScript) ∈ xA := xI3 (List.mem_of_getElem? (i := 153) rfl) rfl
theorem w3_154 : (Cond.selects RX6 yX6_runScript yX6_runScript) ∈ xA := xI3 (List.mem_of_getElem? (i := 154) rfl) rfl
theorem w3_155 : (Cond.code yX6_runScript cX6_runScript 2 (some FieldType.int)) ∈ xA := xI3 (List.mem_of_getElem? (i := 155) rfl) rfl
theorem w3_156 : (Cond.methodLink RX6 83 yX6_remember) ∈ xA := xI3 (List.mem_of_getElem? (i := 156) rfl) rfl
theorem w3_158 : (Cond.instanceMethod yX6_remember) ∈ xA := xI3 (List.mem_of_getElem? (i := 158) rfl) rfl
theorem w3_159 : (Cond.code yX6_remember cX6_remember 1 none) ∈ xA := xI3 (List.mem_of_getElem? (i := 159) rfl) rfl
theorem w3_160 : (Cond.methodLink RX6 321 yJ9_min_7cf53) ∈ xA := xI3 (List.mem_of_getElem? (i := 160) rfl) rfl
theorem w3_161 : (Cond.static yJ9_min_7cf53) ∈ xA := xI3 (List.mem_of_getElem? (i := 161) rfl) rfl
theorem w3_162 : (Cond.code yJ9_min_7cf53 cJ9_min_7cf53 2 (some FieldType.int)) ∈ xA := xI3 (List.mem_of_getElem? (i := 162) rfl) rfl
theorem w3_163 : (Cond.methodLink RL 152 yX6_errorCode) ∈ xA := xI3 (List.mem_of_getElem? (i := 163) rfl) rfl
theorem w3_164 : (Cond.instanceMethod yX6_errorCode) ∈ xA := xI3 (List.mem_of_getElem? (i := 164) rfl) rfl
theorem w3_165 : (Cond.selects RX6 yX6_errorCode yX6_errorCode) ∈ xA := xI3 (List.mem_of_getElem? (i := 165) rfl) rfl
theorem w3_166 : (Cond.code yX6_errorCode cX6_errorCode 1 (some FieldType.int)) ∈ xA := xI3 (List.mem_of_getElem? (i := 166) rfl) rfl
theorem w3_167 : (Cond.methodLink RL 156 yX6_errorPosition) ∈ xA := xI3 (List.mem_of_getElem? (i := 167) rfl) rfl
theorem w3_168 : (Cond.instanceMethod yX6_errorPosition) ∈ xA := xI3 (List.mem_of_getElem? (i := 168) rfl) rfl
theorem w3_169 : (Cond.selects RX6 yX6_errorPosition yX6_errorPosition) ∈ xA := xI3 (List.mem_of_getElem? (i := 169) rfl) rfl
theorem w3_170 : (Cond.code yX6_errorPosition cX6_errorPosition 1 (some FieldType.int)) ∈ xA := xI3 (List.mem_of_getElem? (i := 170) rfl) rfl
theorem w3_171 : (Cond.methodLink RL 160 yX6_minute) ∈ xA := xI3 (List.mem_of_getElem? (i := 171) rfl) rfl
theorem w3_172 : (Cond.instanceMethod yX6_minute) ∈ xA := xI3 (List.mem_of_getElem? (i := 172) rfl) rfl
theorem w3_173 : (Cond.selects RX6 yX6_minute yX6_minute) ∈ xA := xI3 (List.mem_of_getElem? (i := 173) rfl) rfl
theorem w3_174 : (Cond.code yX6_minute cX6_minute 1 (some FieldType.int)) ∈ xA := xI3 (List.mem_of_getElem? (i := 174) rfl) rfl
theorem w3_175 : (Cond.methodLink RL 164 yX6_bellPosition) ∈ xA := xI3 (List.mem_of_getElem? (i := 175) rfl) rfl
theorem w3_176 : (Cond.instanceMethod yX6_bellPosition) ∈ xA := xI3 (List.mem_of_getElem? (i := 176) rfl) rfl
theorem w3_177 : (Cond.selects RX6 yX6_bellPosition yX6_bellPosition) ∈ xA := xI3 (List.mem_of_getElem? (i := 177) rfl) rfl
theorem w3_178 : (Cond.code yX6_bellPosition cX6_bellPosition 1 (some FieldType.int)) ∈ xA := xI3 (List.mem_of_getElem? (i := 178) rfl) rfl
theorem w3_179 : (Cond.methodLink RL 168 yX6_threshold) ∈ xA := xI3 (List.mem_of_getElem? (i := 179) rfl) rfl
theorem w3_180 : (Cond.instanceMethod yX6_threshold) ∈ xA := xI3 (List.mem_of_getElem? (i := 180) rfl) rfl
theorem w3_181 : (Cond.selects RX6 yX6_threshold yX6_threshold) ∈ xA := xI3 (List.mem_of_getElem? (i := 181) rfl) rfl
theorem w3_182 : (Cond.code yX6_threshold cX6_threshold 1 (some FieldType.int)) ∈ xA := xI3 (List.mem_of_getElem? (i := 182) rfl) rfl
theorem w3_183 : (Cond.methodLink RL 172 yX6_duration) ∈ xA := xI3 (List.mem_of_getElem? (i := 183) rfl) rfl
theorem w3_184 : (Cond.instanceMethod yX6_duration) ∈ xA := xI3 (List.mem_of_getElem? (i := 184) rfl) rfl
theorem w3_185 : (Cond.selects RX6 yX6_duration yX6_duration) ∈ xA := xI3 (List.mem_of_getElem? (i := 185) rfl) rfl
theorem w3_186 : (Cond.code yX6_duration cX6_duration 1 (some FieldType.int)) ∈ xA := xI3 (List.mem_of_getElem? (i := 186) rfl) rfl
theorem w3_187 : (Cond.methodLink RL 176 yX6_undoCount) ∈ xA := xI3 (List.mem_of_getElem? (i := 187) rfl) rfl
theorem w3_188 : (Cond.instanceMethod yX6_undoCount) ∈ xA := xI3 (List.mem_of_getElem? (i := 188) rfl) rfl
theorem w3_189 : (Cond.selects RX6 yX6_undoCount yX6_undoCount) ∈ xA := xI3 (List.mem_of_getElem? (i := 189) rfl) rfl
theorem w3_190 : (Cond.code yX6_undoCount cX6_undoCount 1 (some FieldType.int)) ∈ xA := xI3 (List.mem_of_getElem? (i := 190) rfl) rfl
theorem w3_191 : (Cond.methodLink RL 189 yX6_isOpen) ∈ xA := xI3 (List.mem_of_getElem? (i := 191) rfl) rfl
theorem w3_192 : (Cond.instanceMethod yX6_isOpen) ∈ xA := xI3 (List.mem_of_getElem? (i := 192) rfl) rfl
theorem w3_193 : (Cond.selects RX6 yX6_isOpen yX6_isOpen) ∈ xA := xI3 (List.mem_of_getElem? (i := 193) rfl) rfl
theorem w3_194 : (Cond.code yX6_isOpen cX6_isOpen 1 (some FieldType.boolean)) ∈ xA := xI3 (List.mem_of_getElem? (i := 194) rfl) rfl
theorem w3_195 : (Cond.methodLink RL 194 yX6_isReady) ∈ xA := xI3 (List.mem_of_getElem? (i := 195) rfl) rfl
theorem w3_196 : (Cond.instanceMethod yX6_isReady) ∈ xA := xI3 (List.mem_of_getElem? (i := 196) rfl) rfl
theorem w3_197 : (Cond.selects RX6 yX6_isReady yX6_isReady) ∈ xA := xI3 (List.mem_of_getElem? (i := 197) rfl) rfl
theorem w3_198 : (Cond.code yX6_isReady cX6_isReady 1 (some FieldType.boolean)) ∈ xA := xI3 (List.mem_of_getElem? (i := 198) rfl) rfl
theorem w3_199 : (Cond.methodLink RL 198 yX6_openMinutes) ∈ xA := xI3 (List.mem_of_getElem? (i := 199) rfl) rfl
theorem w3_200 : (Cond.instanceMethod yX6_openMinutes) ∈ xA := xI3 (List.mem_of_getElem? (i := 200) rfl) rfl
theorem w3_201 : (Cond.selects RX6 yX6_openMinutes yX6_openMinutes) ∈ xA := xI3 (List.mem_of_getElem? (i := 201) rfl) rfl
theorem w3_202 : (Cond.code yX6_openMinutes cX6_openMinutes 1 (some FieldType.int)) ∈ xA := xI3 (List.mem_of_getElem? (i := 202) rfl) rfl
theorem w3_203 : (Cond.methodLink RL 202 yX6_ringings) ∈ xA := xI3 (List.mem_of_getElem? (i := 203) rfl) rfl
theorem w3_204 : (Cond.instanceMethod yX6_ringings) ∈ xA := xI3 (List.mem_of_getElem? (i := 204) rfl) rfl
theorem w3_205 : (Cond.selects RX6 yX6_ringings yX6_ringings) ∈ xA := xI3 (List.mem_of_getElem? (i := 205) rfl) rfl
theorem w3_206 : (Cond.code yX6_ringings cX6_ringings 1 (some FieldType.int)) ∈ xA := xI3 (List.mem_of_getElem? (i := 206) rfl) rfl
theorem w3_207 : (Cond.methodLink RL 206 yX6_minutesToBell) ∈ xA := xI3 (List.mem_of_getElem? (i := 207) rfl) rfl
theorem w3_208 : (Cond.instanceMethod yX6_minutesToBell) ∈ xA := xI3 (List.mem_of_getElem? (i := 208) rfl) rfl
theorem w3_209 : (Cond.selects RX6 yX6_minutesToBell yX6_minutesToBell) ∈ xA := xI3 (List.mem_of_getElem? (i := 209) rfl) rfl
theorem w3_210 : (Cond.code yX6_minutesToBell cX6_minutesToBell 3 (some FieldType.int)) ∈ xA := xI3 (List.mem_of_getElem? (i := 210) rfl) rfl
theorem w3_211 : (Cond.methodLink RX6 143 yX2_densityNow) ∈ xA := xI3 (List.mem_of_getElem? (i := 211) rfl) rfl
theorem w3_212 : (Cond.methodLink RX6 146 yX2_moveBell) ∈ xA := xI3 (List.mem_of_getElem? (i := 212) rfl) rfl
theorem w3_213 : (Cond.methodLink RX6 149 yX2_countMinute) ∈ xA := xI3 (List.mem_of_getElem? (i := 213) rfl) rfl
theorem w3_214 : (Cond.methodLink RL 210 yX6_minutesToEnd) ∈ xA := xI3 (List.mem_of_getElem? (i := 214) rfl) rfl
theorem w3_215 : (Cond.instanceMethod yX6_minutesToEnd) ∈ xA := xI3 (List.mem_of_getElem? (i := 215) rfl) rfl
theorem w3_216 : (Cond.selects RX6 yX6_minutesToEnd yX6_minutesToEnd) ∈ xA := xI3 (List.mem_of_getElem? (i := 216) rfl) rfl
theorem w3_217 : (Cond.code yX6_minutesToEnd cX6_minutesToEnd 2 (some FieldType.int)) ∈ xA := xI3 (List.mem_of_getElem? (i := 217) rfl) rfl
theorem w3_218 : (Cond.methodLink RL 214 yX6_stallCount) ∈ xA := xI3 (List.mem_of_getElem? (i := 218) rfl) rfl
theorem w3_219 : (Cond.instanceMethod yX6_stallCount) ∈ xA := xI3 (List.mem_of_getElem? (i := 219) rfl) rfl
theorem w3_220 : (Cond.selects RX6 yX6_stallCount yX6_stallCount) ∈ xA := xI3 (List.mem_of_getElem? (i := 220) rfl) rfl
theorem w3_221 : (Cond.code yX6_stallCount cX6_stallCount 1 (some FieldType.int)) ∈ xA := xI3 (List.mem_of_getElem? (i := 221) rfl) rfl
theorem w3_222 : (Cond.methodLink RL 252 yX6_buyerCount) ∈ xA := xI3 (List.mem_of_getElem? (i := 222) rfl) rfl
theorem w3_223 : (Cond.instanceMethod yX6_buyerCount) ∈ xA := xI3 (List.mem_of_getElem? (i := 223) rfl) rfl
theorem w3_224 : (Cond.selects RX6 yX6_buyerCount yX6_buyerCount) ∈ xA := xI3 (List.mem_of_getElem? (i := 224) rfl) rfl
theorem w3_225 : (Cond.code yX6_buyerCount cX6_buyerCount 1 (some FieldType.int)) ∈ xA := xI3 (List.mem_of_getElem? (i := 225) rfl) rfl
theorem w3_226 : (Cond.methodLink RL 286 yX6_coinsInAll) ∈ xA := xI3 (List.mem_of_getElem? (i := 226) rfl) rfl
theorem w3_227 : (Cond.instanceMethod yX6_coinsInAll) ∈ xA := xI3 (List.mem_of_getElem? (i := 227) rfl) rfl
theorem w3_228 : (Cond.selects RX6 yX6_coinsInAll yX6_coinsInAll) ∈ xA := xI3 (List.mem_of_getElem? (i := 228) rfl) rfl
theorem w3_229 : (Cond.code yX6_coinsInAll cX6_coinsInAll 3 (some FieldType.int)) ∈ xA := xI3 (List.mem_of_getElem? (i := 229) rfl) rfl
theorem w3_230 : (Cond.methodLink RX6 262 yX2_earnedInAll) ∈ xA := xI3 (List.mem_of_getElem? (i := 230) rfl) rfl
theorem w3_231 : (Cond.instanceMethod yX2_earnedInAll) ∈ xA := xI3 (List.mem_of_getElem? (i := 231) rfl) rfl
theorem w3_232 : (Cond.selects RX2 yX2_earnedInAll yX2_earnedInAll) ∈ xA := xI3 (List.mem_of_getElem? (i := 232) rfl) rfl
theorem w3_233 : (Cond.code yX2_earnedInAll cX2_earnedInAll 3 (some FieldType.int)) ∈ xA := xI3 (List.mem_of_getElem? (i := 233) rfl) rfl
theorem w3_234 : (Cond.methodLink RL 290 yX6_consistencyError) ∈ xA := xI3 (List.mem_of_getElem? (i := 234) rfl) rfl
theorem w3_235 : (Cond.instanceMethod yX6_consistencyError) ∈ xA := xI3 (List.mem_of_getElem? (i := 235) rfl) rfl
theorem w3_236 : (Cond.selects RX6 yX6_consistencyError yX6_consistencyError) ∈ xA := xI3 (List.mem_of_getElem? (i := 236) rfl) rfl
theorem w3_237 : (Cond.code yX6_consistencyError cX6_consistencyError 5 (some FieldType.int)) ∈ xA := xI3 (List.mem_of_getElem? (i := 237) rfl) rfl
theorem w3_238 : (Cond.methodLink RX6 176 yX2_countHeld) ∈ xA := xI3 (List.mem_of_getElem? (i := 238) rfl) rfl
theorem w3_239 : (Cond.instanceMethod yX2_countHeld) ∈ xA := xI3 (List.mem_of_getElem? (i := 239) rfl) rfl
theorem w4_0 : (Cond.selects RX2 yX2_countHeld yX2_countHeld) ∈ xA := xI4 (List.mem_of_getElem? (i := 0) rfl) rfl
theorem w4_1 : (Cond.code yX2_countHeld cX2_countHeld 4 (some FieldType.int)) ∈ xA := xI4 (List.mem_of_getElem? (i := 1) rfl) rfl
theorem w4_2 : (Cond.methodLink RX6 268 yJ9_abs_0f7a4) ∈ xA := xI4 (List.mem_of_getElem? (i := 2) rfl) rfl
theorem w4_3 : (Cond.methodLink RL 294 yX6_meanPaid) ∈ xA := xI4 (List.mem_of_getElem? (i := 3) rfl) rfl
theorem w4_4 : (Cond.instanceMethod yX6_meanPaid) ∈ xA := xI4 (List.mem_of_getElem? (i := 4) rfl) rfl
theorem w4_5 : (Cond.selects RX6 yX6_meanPaid yX6_meanPaid) ∈ xA := xI4 (List.mem_of_getElem? (i := 5) rfl) rfl
theorem w4_6 : (Cond.code yX6_meanPaid cX6_meanPaid 2 (some FieldType.double)) ∈ xA := xI4 (List.mem_of_getElem? (i := 6) rfl) rfl
theorem w4_7 : (Cond.methodLink RX6 273 yX2_soldInAll) ∈ xA := xI4 (List.mem_of_getElem? (i := 7) rfl) rfl
theorem w4_8 : (Cond.instanceMethod yX2_soldInAll) ∈ xA := xI4 (List.mem_of_getElem? (i := 8) rfl) rfl
theorem w4_9 : (Cond.selects RX2 yX2_soldInAll yX2_soldInAll) ∈ xA := xI4 (List.mem_of_getElem? (i := 9) rfl) rfl
theorem w4_10 : (Cond.code yX2_soldInAll cX2_soldInAll 3 (some FieldType.int)) ∈ xA := xI4 (List.mem_of_getElem? (i := 10) rfl) rfl
theorem w4_11 : (Cond.methodLink RL 299 yX6_spoiledShare) ∈ xA := xI4 (List.mem_of_getElem? (i := 11) rfl) rfl
theorem w4_12 : (Cond.instanceMethod yX6_spoiledShare) ∈ xA := xI4 (List.mem_of_getElem? (i := 12) rfl) rfl
theorem w4_13 : (Cond.selects RX6 yX6_spoiledShare yX6_spoiledShare) ∈ xA := xI4 (List.mem_of_getElem? (i := 13) rfl) rfl
theorem w4_14 : (Cond.code yX6_spoiledShare cX6_spoiledShare 4 (some FieldType.float)) ∈ xA := xI4 (List.mem_of_getElem? (i := 14) rfl) rfl
theorem w4_15 : (Cond.methodLink RL 316 yX6_nextPayer) ∈ xA := xI4 (List.mem_of_getElem? (i := 15) rfl) rfl
theorem w4_16 : (Cond.instanceMethod yX6_nextPayer) ∈ xA := xI4 (List.mem_of_getElem? (i := 16) rfl) rfl
theorem w4_17 : (Cond.selects RX6 yX6_nextPayer yX6_nextPayer) ∈ xA := xI4 (List.mem_of_getElem? (i := 17) rfl) rfl
theorem w4_18 : (Cond.code yX6_nextPayer cX6_nextPayer 3 (some FieldType.int)) ∈ xA := xI4 (List.mem_of_getElem? (i := 18) rfl) rfl
theorem w4_19 : (Cond.methodLink RX6 276 yX2_pass) ∈ xA := xI4 (List.mem_of_getElem? (i := 19) rfl) rfl
theorem w4_20 : (Cond.methodLink RL 320 yX6_bestBellPosition) ∈ xA := xI4 (List.mem_of_getElem? (i := 20) rfl) rfl
theorem w4_21 : (Cond.instanceMethod yX6_bestBellPosition) ∈ xA := xI4 (List.mem_of_getElem? (i := 21) rfl) rfl
theorem w4_22 : (Cond.selects RX6 yX6_bestBellPosition yX6_bestBellPosition) ∈ xA := xI4 (List.mem_of_getElem? (i := 22) rfl) rfl
theorem w4_23 : (Cond.code yX6_bestBellPosition cX6_bestBellPosition 5 (some FieldType.int)) ∈ xA := xI4 (List.mem_of_getElem? (i := 23) rfl) rfl
theorem w4_24 : (Cond.methodLink RL 363 yX6_writeRope) ∈ xA := xI4 (List.mem_of_getElem? (i := 24) rfl) rfl
theorem w4_25 : (Cond.instanceMethod yX6_writeRope) ∈ xA := xI4 (List.mem_of_getElem? (i := 25) rfl) rfl
theorem w4_26 : (Cond.selects RX6 yX6_writeRope yX6_writeRope) ∈ xA := xI4 (List.mem_of_getElem? (i := 26) rfl) rfl
theorem w4_27 : (Cond.code yX6_writeRope cX6_writeRope 2 (some FieldType.int)) ∈ xA := xI4 (List.mem_of_getElem? (i := 27) rfl) rfl
theorem w4_28 : (Cond.methodLink RX6 331 yX6_drawOnRope) ∈ xA := xI4 (List.mem_of_getElem? (i := 28) rfl) rfl
theorem w4_30 : (Cond.instanceMethod yX6_drawOnRope) ∈ xA := xI4 (List.mem_of_getElem? (i := 30) rfl) rfl
theorem w4_31 : (Cond.code yX6_drawOnRope cX6_drawOnRope 3 none) ∈ xA := xI4 (List.mem_of_getElem? (i := 31) rfl) rfl
theorem w4_32 : (Cond.methodLink RL 367 yX6_outputByte) ∈ xA := xI4 (List.mem_of_getElem? (i := 32) rfl) rfl
theorem w4_33 : (Cond.instanceMethod yX6_outputByte) ∈ xA := xI4 (List.mem_of_getElem? (i := 33) rfl) rfl
theorem w4_34 : (Cond.selects RX6 yX6_outputByte yX6_outputByte) ∈ xA := xI4 (List.mem_of_getElem? (i := 34) rfl) rfl
theorem w4_35 : (Cond.code yX6_outputByte cX6_outputByte 2 (some FieldType.int)) ∈ xA := xI4 (List.mem_of_getElem? (i := 35) rfl) rfl
theorem w4_36 : (Cond.methodLink RL 180 yL_fogIn) ∈ xA := xI4 (List.mem_of_getElem? (i := 36) rfl) rfl
theorem w4_37 : (Cond.static yL_fogIn) ∈ xA := xI4 (List.mem_of_getElem? (i := 37) rfl) rfl
theorem w4_38 : (Cond.codeWith yL_fogIn cL_fogIn 4 (some FieldType.int) [(0, 9, 12, 13)]) ∈ xA := xI4 (List.mem_of_getElem? (i := 38) rfl) rfl
theorem w4_39 : (Cond.classLink RL 13 "java/lang/IllegalArgumentException") ∈ xA := xI4 (List.mem_of_getElem? (i := 39) rfl) rfl
theorem w4_40 : (Cond.methodLink RL 7 yX6_fogIn) ∈ xA := xI4 (List.mem_of_getElem? (i := 40) rfl) rfl
theorem w4_41 : (Cond.instanceMethod yX6_fogIn) ∈ xA := xI4 (List.mem_of_getElem? (i := 41) rfl) rfl
theorem w4_42 : (Cond.selects RX6 yX6_fogIn yX6_fogIn) ∈ xA := xI4 (List.mem_of_getElem? (i := 42) rfl) rfl
theorem w4_43 : (Cond.code yX6_fogIn cX6_fogIn 2 (some FieldType.int)) ∈ xA := xI4 (List.mem_of_getElem? (i := 43) rfl) rfl
theorem w4_44 : (Cond.constant RX6 122 (99999)) ∈ xA := xI4 (List.mem_of_getElem? (i := 44) rfl) rfl
theorem w4_45 : (Cond.methodLink RX6 123 yX6_checkRange) ∈ xA := xI4 (List.mem_of_getElem? (i := 45) rfl) rfl
theorem w4_46 : (Cond.static yX6_checkRange) ∈ xA := xI4 (List.mem_of_getElem? (i := 46) rfl) rfl
theorem w4_47 : (Cond.code yX6_checkRange cX6_checkRange 3 none) ∈ xA := xI4 (List.mem_of_getElem? (i := 47) rfl) rfl
theorem w4_48 : (Cond.classLink RX6 206 "java/lang/IllegalArgumentException") ∈ xA := xI4 (List.mem_of_getElem? (i := 48) rfl) rfl
theorem w4_49 : (Cond.instantiable "java/lang/IllegalArgumentException" 6) ∈ xA := xI4 (List.mem_of_getElem? (i := 49) rfl) rfl
theorem w4_57 : (Cond.selects "java/lang/IllegalArgumentException" (⟨"java/lang/Throwable", "fillInStackTrace", "(I)Ljava/lang/Throwable;"⟩) (⟨"java/lang/Throwable", "fillInStackTrace", "(I)Ljava/lang/Throwable;"⟩)) ∈ xA := xI4 (List.mem_of_getElem? (i := 57) rfl) rfl
theorem w4_58 : (Cond.selects "java/lang/IllegalArgumentException" (⟨"java/lang/Throwable", "fillInStackTrace", "()Ljava/lang/Throwable;"⟩) (⟨"java/lang/Throwable", "fillInStackTrace", "()Ljava/lang/Throwable;"⟩)) ∈ xA := xI4 (List.mem_of_getElem? (i := 58) rfl) rfl
theorem w4_59 : (Cond.lays "java/lang/IllegalArgumentException" "java/lang/Throwable" "cause" "Ljava/lang/Throwable;") ∈ xA := xI4 (List.mem_of_getElem? (i := 59) rfl) rfl
theorem w4_60 : (Cond.lays "java/lang/Throwable" "java/lang/Throwable" "cause" "Ljava/lang/Throwable;") ∈ xA := xI4 (List.mem_of_getElem? (i := 60) rfl) rfl
theorem w4_61 : (Cond.lays "java/lang/IllegalArgumentException" "java/lang/Throwable" "stackTrace" "[Ljava/lang/StackTraceElement;") ∈ xA := xI4 (List.mem_of_getElem? (i := 61) rfl) rfl
theorem w4_62 : (Cond.lays "java/lang/Throwable" "java/lang/Throwable" "stackTrace" "[Ljava/lang/StackTraceElement;") ∈ xA := xI4 (List.mem_of_getElem? (i := 62) rfl) rfl
theorem w4_63 : (Cond.lays "java/lang/IllegalArgumentException" "java/lang/Throwable" "suppressedExceptions" "Ljava/util/List;") ∈ xA := xI4 (List.mem_of_getElem? (i := 63) rfl) rfl
theorem w4_64 : (Cond.lays "java/lang/Throwable" "java/lang/Throwable" "suppressedExceptions" "Ljava/util/List;") ∈ xA := xI4 (List.mem_of_getElem? (i := 64) rfl) rfl
theorem w4_65 : (Cond.lays "java/lang/IllegalArgumentException" "java/lang/Throwable" "detailMessage" "Ljava/lang/String;") ∈ xA := xI4 (List.mem_of_getElem? (i := 65) rfl) rfl
theorem w4_66 : (Cond.lays "java/lang/Throwable" "java/lang/Throwable" "detailMessage" "Ljava/lang/String;") ∈ xA := xI4 (List.mem_of_getElem? (i := 66) rfl) rfl
theorem w4_67 : (Cond.lays "java/lang/IllegalArgumentException" "java/lang/Throwable" "backtrace" "Ljava/lang/Object;") ∈ xA := xI4 (List.mem_of_getElem? (i := 67) rfl) rfl
theorem w4_68 : (Cond.lays "java/lang/Throwable" "java/lang/Throwable" "backtrace" "Ljava/lang/Object;") ∈ xA := xI4 (List.mem_of_getElem? (i := 68) rfl) rfl
theorem w4_69 : (Cond.fieldLink "java/lang/Throwable" 198 "java/lang/Throwable" "backtrace" "Ljava/lang/Object;") ∈ xA := xI4 (List.mem_of_getElem? (i := 69) rfl) rfl
theorem w4_71 : (Cond.instanceMethod (⟨"java/lang/Throwable", "<init>", "()V"⟩)) ∈ xA := xI4 (List.mem_of_getElem? (i := 71) rfl) rfl
theorem w4_72 : (Cond.code (⟨"java/lang/Throwable", "<init>", "()V"⟩) prog_23_method_1_code 1 none) ∈ xA := xI4 (List.mem_of_getElem? (i := 72) rfl) rfl
theorem w4_73 : (Cond.methodLink "java/lang/Throwable" 1 (⟨"java/lang/Object", "<init>", "()V"⟩)) ∈ xA := xI4 (List.mem_of_getElem? (i := 73) rfl) rfl
theorem w4_74 : (Cond.fieldLink "java/lang/Throwable" 13 "java/lang/Throwable" "UNASSIGNED_STACK" "[Ljava/lang/StackTraceElement;") ∈ xA := xI4 (List.mem_of_getElem? (i := 74) rfl) rfl
theorem w4_76 : (Cond.fieldLink "java/lang/Throwable" 20 "java/lang/Throwable" "SUPPRESSED_SENTINEL" "Ljava/util/List;") ∈ xA := xI4 (List.mem_of_getElem? (i := 76) rfl) rfl
theorem w4_78 : (Cond.methodLink "java/lang/Throwable" 27 (⟨"java/lang/Throwable", "fillInStackTrace", "()Ljava/lang/Throwable;"⟩)) ∈ xA := xI4 (List.mem_of_getElem? (i := 78) rfl) rfl
theorem w4_79 : (Cond.instanceMethod (⟨"java/lang/Throwable", "fillInStackTrace", "()Ljava/lang/Throwable;"⟩)) ∈ xA := xI4 (List.mem_of_getElem? (i := 79) rfl) rfl
theorem w4_80 : (Cond.sameMethod "java/lang/Throwable" "java/lang/Throwable" "fillInStackTrace" "()Ljava/lang/Throwable;") ∈ xA := xI4 (List.mem_of_getElem? (i := 80) rfl) rfl
theorem w4_81 : (Cond.selects "java/lang/IllegalStateException" (⟨"java/lang/Throwable", "fillInStackTrace", "()Ljava/lang/Throwable;"⟩) (⟨"java/lang/Throwable", "fillInStackTrace", "()Ljava/lang/Throwable;"⟩)) ∈ xA := xI4 (List.mem_of_getElem? (i := 81) rfl) rfl
theorem w4_82 : (Cond.selects "java/lang/IndexOutOfBoundsException" (⟨"java/lang/Throwable", "fillInStackTrace", "()Ljava/lang/Throwable;"⟩) (⟨"java/lang/Throwable", "fillInStackTrace", "()Ljava/lang/Throwable;"⟩)) ∈ xA := xI4 (List.mem_of_getElem? (i := 82) rfl) rfl
theorem w4_83 : (Cond.selects "java/util/NoSuchElementException" (⟨"java/lang/Throwable", "fillInStackTrace", "()Ljava/lang/Throwable;"⟩) (⟨"java/lang/Throwable", "fillInStackTrace", "()Ljava/lang/Throwable;"⟩)) ∈ xA := xI4 (List.mem_of_getElem? (i := 83) rfl) rfl
theorem w4_85 : (Cond.methodLink "java/lang/Throwable" 202 (⟨"java/lang/Throwable", "fillInStackTrace", "(I)Ljava/lang/Throwable;"⟩)) ∈ xA := xI4 (List.mem_of_getElem? (i := 85) rfl) rfl
theorem w4_87 : (Cond.instanceMethod (⟨"java/lang/Throwable", "fillInStackTrace", "(I)Ljava/lang/Throwable;"⟩)) ∈ xA := xI4 (List.mem_of_getElem? (i := 87) rfl) rfl
theorem w4_88 : (Cond.instantiable "java/lang/Throwable" 6) ∈ xA := xI4 (List.mem_of_getElem? (i := 88) rfl) rfl
theorem w4_91 : (Cond.methodLink RX6 210 (⟨"java/lang/IllegalArgumentException", "<init>", "(Ljava/lang/String;)V"⟩)) ∈ xA := xI4 (List.mem_of_getElem? (i := 91) rfl) rfl
theorem w4_92 : (Cond.instanceMethod (⟨"java/lang/IllegalArgumentException", "<init>", "(Ljava/lang/String;)V"⟩)) ∈ xA := xI4 (List.mem_of_getElem? (i := 92) rfl) rfl
theorem w4_93 : (Cond.code (⟨"java/lang/IllegalArgumentException", "<init>", "(Ljava/lang/String;)V"⟩) prog_15_method_2_code 2 none) ∈ xA := xI4 (List.mem_of_getElem? (i := 93) rfl) rfl
theorem w4_94 : (Cond.methodLink "java/lang/IllegalArgumentException" 7 (⟨"java/lang/RuntimeException", "<init>", "(Ljava/lang/String;)V"⟩)) ∈ xA := xI4 (List.mem_of_getElem? (i := 94) rfl) rfl
theorem w4_95 : (Cond.instanceMethod (⟨"java/lang/RuntimeException", "<init>", "(Ljava/lang/String;)V"⟩)) ∈ xA := xI4 (List.mem_of_getElem? (i := 95) rfl) rfl
theorem w4_96 : (Cond.code (⟨"java/lang/RuntimeException", "<init>", "(Ljava/lang/String;)V"⟩) prog_19_method_2_code 2 none) ∈ xA := xI4 (List.mem_of_getElem? (i := 96) rfl) rfl
theorem w4_97 : (Cond.methodLink "java/lang/RuntimeException" 7 (⟨"java/lang/Exception", "<init>", "(Ljava/lang/String;)V"⟩)) ∈ xA := xI4 (List.mem_of_getElem? (i := 97) rfl) rfl
theorem w4_98 : (Cond.instanceMethod (⟨"java/lang/Exception", "<init>", "(Ljava/lang/String;)V"⟩)) ∈ xA := xI4 (List.mem_of_getElem? (i := 98) rfl) rfl
theorem w4_99 : (Cond.code (⟨"java/lang/Exception", "<init>", "(Ljava/lang/String;)V"⟩) prog_14_method_2_code 2 none) ∈ xA := xI4 (List.mem_of_getElem? (i := 99) rfl) rfl
theorem w4_100 : (Cond.methodLink "java/lang/Exception" 7 (⟨"java/lang/Throwable", "<init>", "(Ljava/lang/String;)V"⟩)) ∈ xA := xI4 (List.mem_of_getElem? (i := 100) rfl) rfl
theorem w4_101 : (Cond.instanceMethod (⟨"java/lang/Throwable", "<init>", "(Ljava/lang/String;)V"⟩)) ∈ xA := xI4 (List.mem_of_getElem? (i := 101) rfl) rfl
theorem w4_102 : (Cond.code (⟨"java/lang/Throwable", "<init>", "(Ljava/lang/String;)V"⟩) prog_23_method_2_code 2 none) ∈ xA := xI4 (List.mem_of_getElem? (i := 102) rfl) rfl
theorem w4_104 : (Cond.fieldLink "java/lang/Throwable" 31 "java/lang/Throwable" "detailMessage" "Ljava/lang/String;") ∈ xA := xI4 (List.mem_of_getElem? (i := 104) rfl) rfl
theorem w4_105 : (Cond.fieldLink "java/lang/Throwable" 7 "java/lang/Throwable" "cause" "Ljava/lang/Throwable;") ∈ xA := xI4 (List.mem_of_getElem? (i := 105) rfl) rfl
theorem w4_106 : (Cond.fieldLink "java/lang/Throwable" 17 "java/lang/Throwable" "stackTrace" "[Ljava/lang/StackTraceElement;") ∈ xA := xI4 (List.mem_of_getElem? (i := 106) rfl) rfl
theorem w4_107 : (Cond.fieldLink "java/lang/Throwable" 24 "java/lang/Throwable" "suppressedExceptions" "Ljava/util/List;") ∈ xA := xI4 (List.mem_of_getElem? (i := 107) rfl) rfl
theorem w4_112 : (Cond.lays "java/lang/IllegalArgumentException" "java/lang/Throwable" "depth" "I") ∈ xA := xI4 (List.mem_of_getElem? (i := 112) rfl) rfl
theorem w4_116 : (Cond.methodLink RX6 127 yX2_densityIn) ∈ xA := xI4 (List.mem_of_getElem? (i := 116) rfl) rfl
theorem w4_117 : (Cond.methodLink RL 218 yL_positionOf) ∈ xA := xI4 (List.mem_of_getElem? (i := 117) rfl) rfl
theorem w4_118 : (Cond.static yL_positionOf) ∈ xA := xI4 (List.mem_of_getElem? (i := 118) rfl) rfl
theorem w4_119 : (Cond.codeWith yL_positionOf cL_positionOf 4 (some FieldType.int) [(0, 9, 12, 18)]) ∈ xA := xI4 (List.mem_of_getElem? (i := 119) rfl) rfl
theorem w4_120 : (Cond.classLink RL 18 "java/lang/IndexOutOfBoundsException") ∈ xA := xI4 (List.mem_of_getElem? (i := 120) rfl) rfl
theorem w4_121 : (Cond.methodLink RL 15 yX6_positionOf) ∈ xA := xI4 (List.mem_of_getElem? (i := 121) rfl) rfl
theorem w4_122 : (Cond.instanceMethod yX6_positionOf) ∈ xA := xI4 (List.mem_of_getElem? (i := 122) rfl) rfl
theorem w4_123 : (Cond.selects RX6 yX6_positionOf yX6_positionOf) ∈ xA := xI4 (List.mem_of_getElem? (i := 123) rfl) rfl
theorem w4_124 : (Cond.code yX6_positionOf cX6_positionOf 2 (some FieldType.int)) ∈ xA := xI4 (List.mem_of_getElem? (i := 124) rfl) rfl
theorem w4_125 : (Cond.methodLink RX6 152 yX6_stallAt) ∈ xA := xI4 (List.mem_of_getElem? (i := 125) rfl) rfl
theorem w4_127 : (Cond.instanceMethod yX6_stallAt) ∈ xA := xI4 (List.mem_of_getElem? (i := 127) rfl) rfl
theorem w4_128 : (Cond.code yX6_stallAt cX6_stallAt 2 (some (FieldType.object "FogBellMarket$Stall"))) ∈ xA := xI4 (List.mem_of_getElem? (i := 128) rfl) rfl
theorem w4_129 : (Cond.methodLink RX6 173 yX6_checkStall) ∈ xA := xI4 (List.mem_of_getElem? (i := 129) rfl) rfl
theorem w4_131 : (Cond.instanceMethod yX6_checkStall) ∈ xA := xI4 (List.mem_of_getElem? (i := 131) rfl) rfl
theorem w4_132 : (Cond.code yX6_checkStall cX6_checkStall 2 none) ∈ xA := xI4 (List.mem_of_getElem? (i := 132) rfl) rfl
theorem w4_133 : (Cond.classLink RX6 200 "java/lang/IndexOutOfBoundsException") ∈ xA := xI4 (List.mem_of_getElem? (i := 133) rfl) rfl
theorem w4_134 : (Cond.instantiable "java/lang/IndexOutOfBoundsException" 6) ∈ xA := xI4 (List.mem_of_getElem? (i := 134) rfl) rfl
theorem w4_136 : (Cond.selects "java/lang/IndexOutOfBoundsException" (⟨"java/lang/Throwable", "fillInStackTrace", "(I)Ljava/lang/Throwable;"⟩) (⟨"java/lang/Throwable", "fillInStackTrace", "(I)Ljava/lang/Throwable;"⟩)) ∈ xA := xI4 (List.mem_of_getElem? (i := 136) rfl) rfl
theorem w4_137 : (Cond.lays "java/lang/IndexOutOfBoundsException" "java/lang/Throwable" "cause" "Ljava/lang/Throwable;") ∈ xA := xI4 (List.mem_of_getElem? (i := 137) rfl) rfl
theorem w4_138 : (Cond.lays "java/lang/IndexOutOfBoundsException" "java/lang/Throwable" "stackTrace" "[Ljava/lang/StackTraceElement;") ∈ xA := xI4 (List.mem_of_getElem? (i := 138) rfl) rfl
theorem w4_139 : (Cond.lays "java/lang/IndexOutOfBoundsException" "java/lang/Throwable" "suppressedExceptions" "Ljava/util/List;") ∈ xA := xI4 (List.mem_of_getElem? (i := 139) rfl) rfl
theorem w4_140 : (Cond.lays "java/lang/IndexOutOfBoundsException" "java/lang/Throwable" "detailMessage" "Ljava/lang/String;") ∈ xA := xI4 (List.mem_of_getElem? (i := 140) rfl) rfl
theorem w4_141 : (Cond.lays "java/lang/IndexOutOfBoundsException" "java/lang/Throwable" "backtrace" "Ljava/lang/Object;") ∈ xA := xI4 (List.mem_of_getElem? (i := 141) rfl) rfl
theorem w4_143 : (Cond.methodLink RX6 204 (⟨"java/lang/IndexOutOfBoundsException", "<init>", "(Ljava/lang/String;)V"⟩)) ∈ xA := xI4 (List.mem_of_getElem? (i := 143) rfl) rfl
theorem w4_144 : (Cond.instanceMethod (⟨"java/lang/IndexOutOfBoundsException", "<init>", "(Ljava/lang/String;)V"⟩)) ∈ xA := xI4 (List.mem_of_getElem? (i := 144) rfl) rfl
theorem w4_145 : (Cond.code (⟨"java/lang/IndexOutOfBoundsException", "<init>", "(Ljava/lang/String;)V"⟩) prog_17_method_2_code 2 none) ∈ xA := xI4 (List.mem_of_getElem? (i := 145) rfl) rfl
theorem w4_146 : (Cond.methodLink "java/lang/IndexOutOfBoundsException" 7 (⟨"java/lang/RuntimeException", "<init>", "(Ljava/lang/String;)V"⟩)) ∈ xA := xI4 (List.mem_of_getElem? (i := 146) rfl) rfl
theorem w4_147 : (Cond.lays "java/lang/IndexOutOfBoundsException" "java/lang/Throwable" "depth" "I") ∈ xA := xI4 (List.mem_of_getElem? (i := 147) rfl) rfl
theorem w4_149 : (Cond.methodLink RL 221 yL_lanternOf) ∈ xA := xI4 (List.mem_of_getElem? (i := 149) rfl) rfl
theorem w4_150 : (Cond.static yL_lanternOf) ∈ xA := xI4 (List.mem_of_getElem? (i := 150) rfl) rfl
theorem w4_151 : (Cond.codeWith yL_lanternOf cL_lanternOf 4 (some FieldType.int) [(0, 9, 12, 18)]) ∈ xA := xI4 (List.mem_of_getElem? (i := 151) rfl) rfl
theorem w4_152 : (Cond.methodLink RL 20 yX6_lanternOf) ∈ xA := xI4 (List.mem_of_getElem? (i := 152) rfl) rfl
theorem w4_153 : (Cond.instanceMethod yX6_lanternOf) ∈ xA := xI4 (List.mem_of_getElem? (i := 153) rfl) rfl
theorem w4_154 : (Cond.selects RX6 yX6_lanternOf yX6_lanternOf) ∈ xA := xI4 (List.mem_of_getElem? (i := 154) rfl) rfl
theorem w4_155 : (Cond.code yX6_lanternOf cX6_lanternOf 2 (some FieldType.int)) ∈ xA := xI4 (List.mem_of_getElem? (i := 155) rfl) rfl
theorem w4_156 : (Cond.methodLink RL 224 yL_textureOf) ∈ xA := xI4 (List.mem_of_getElem? (i := 156) rfl) rfl
theorem w4_157 : (Cond.static yL_textureOf) ∈ xA := xI4 (List.mem_of_getElem? (i := 157) rfl) rfl
theorem w4_158 : (Cond.codeWith yL_textureOf cL_textureOf 4 (some FieldType.int) [(0, 9, 12, 18)]) ∈ xA := xI4 (List.mem_of_getElem? (i := 158) rfl) rfl
theorem w4_159 : (Cond.methodLink RL 23 yX6_textureOf) ∈ xA := xI4 (List.mem_of_getElem? (i := 159) rfl) rfl
theorem w4_160 : (Cond.instanceMethod yX6_textureOf) ∈ xA := xI4 (List.mem_of_getElem? (i := 160) rfl) rfl
theorem w4_161 : (Cond.selects RX6 yX6_textureOf yX6_textureOf) ∈ xA := xI4 (List.mem_of_getElem? (i := 161) rfl) rfl
theorem w4_162 : (Cond.code yX6_textureOf cX6_textureOf 2 (some FieldType.int)) ∈ xA := xI4 (List.mem_of_getElem? (i := 162) rfl) rfl
theorem w4_163 : (Cond.methodLink RL 227 yL_priceOf) ∈ xA := xI4 (List.mem_of_getElem? (i := 163) rfl) rfl
theorem w4_164 : (Cond.static yL_priceOf) ∈ xA := xI4 (List.mem_of_getElem? (i := 164) rfl) rfl
theorem w4_165 : (Cond.codeWith yL_priceOf cL_priceOf 4 (some FieldType.int) [(0, 9, 12, 18)]) ∈ xA := xI4 (List.mem_of_getElem? (i := 165) rfl) rfl
theorem w4_166 : (Cond.methodLink RL 26 yX6_priceOf) ∈ xA := xI4 (List.mem_of_getElem? (i := 166) rfl) rfl
theorem w4_167 : (Cond.instanceMethod yX6_priceOf) ∈ xA := xI4 (List.mem_of_getElem? (i := 167) rfl) rfl
theorem w4_168 : (Cond.selects RX6 yX6_priceOf yX6_priceOf) ∈ xA := xI4 (List.mem_of_getElem? (i := 168) rfl) rfl
theorem w4_169 : (Cond.code yX6_priceOf cX6_priceOf 2 (some FieldType.int)) ∈ xA := xI4 (List.mem_of_getElem? (i := 169) rfl) rfl
theorem w4_170 : (Cond.methodLink RL 230 yL_stockOf) ∈ xA := xI4 (List.mem_of_getElem? (i := 170) rfl) rfl
theorem w4_171 : (Cond.static yL_stockOf) ∈ xA := xI4 (List.mem_of_getElem? (i := 171) rfl) rfl
theorem w4_172 : (Cond.codeWith yL_stockOf cL_stockOf 4 (some FieldType.int) [(0, 9, 12, 18)]) ∈ xA := xI4 (List.mem_of_getElem? (i := 172) rfl) rfl
theorem w4_173 : (Cond.methodLink RL 29 yX6_stockOf) ∈ xA := xI4 (List.mem_of_getElem? (i := 173) rfl) rfl
theorem w4_174 : (Cond.instanceMethod yX6_stockOf) ∈ xA := xI4 (List.mem_of_getElem? (i := 174) rfl) rfl
theorem w4_175 : (Cond.selects RX6 yX6_stockOf yX6_stockOf) ∈ xA := xI4 (List.mem_of_getElem? (i := 175) rfl) rfl
theorem w4_176 : (Cond.code yX6_stockOf cX6_stockOf 2 (some FieldType.int)) ∈ xA := xI4 (List.mem_of_getElem? (i := 176) rfl) rfl
theorem w4_177 : (Cond.methodLink RL 233 yL_heldOf) ∈ xA := xI4 (List.mem_of_getElem? (i := 177) rfl) rfl
theorem w4_178 : (Cond.static yL_heldOf) ∈ xA := xI4 (List.mem_of_getElem? (i := 178) rfl) rfl
theorem w4_179 : (Cond.codeWith yL_heldOf cL_heldOf 4 (some FieldType.int) [(0, 9, 12, 18)]) ∈ xA := xI4 (List.mem_of_getElem? (i := 179) rfl) rfl
theorem w4_180 : (Cond.methodLink RL 32 yX6_heldOf) ∈ xA := xI4 (List.mem_of_getElem? (i := 180) rfl) rfl
theorem w4_181 : (Cond.instanceMethod yX6_heldOf) ∈ xA := xI4 (List.mem_of_getElem? (i := 181) rfl) rfl
theorem w4_182 : (Cond.selects RX6 yX6_heldOf yX6_heldOf) ∈ xA := xI4 (List.mem_of_getElem? (i := 182) rfl) rfl
theorem w4_183 : (Cond.code yX6_heldOf cX6_heldOf 2 (some FieldType.int)) ∈ xA := xI4 (List.mem_of_getElem? (i := 183) rfl) rfl
theorem w4_184 : (Cond.methodLink RL 236 yL_soldOf) ∈ xA := xI4 (List.mem_of_getElem? (i := 184) rfl) rfl
theorem w4_185 : (Cond.static yL_soldOf) ∈ xA := xI4 (List.mem_of_getElem? (i := 185) rfl) rfl
theorem w4_186 : (Cond.codeWith yL_soldOf cL_soldOf 4 (some FieldType.int) [(0, 9, 12, 18)]) ∈ xA := xI4 (List.mem_of_getElem? (i := 186) rfl) rfl
theorem w4_187 : (Cond.methodLink RL 35 yX6_soldOf) ∈ xA := xI4 (List.mem_of_getElem? (i := 187) rfl) rfl
theorem w4_188 : (Cond.instanceMethod yX6_soldOf) ∈ xA := xI4 (List.mem_of_getElem? (i := 188) rfl) rfl
theorem w4_189 : (Cond.selects RX6 yX6_soldOf yX6_soldOf) ∈ xA := xI4 (List.mem_of_getElem? (i := 189) rfl) rfl
theorem w4_190 : (Cond.code yX6_soldOf cX6_soldOf 2 (some FieldType.int)) ∈ xA := xI4 (List.mem_of_getElem? (i := 190) rfl) rfl
theorem w4_191 : (Cond.methodLink RL 239 yL_lostOf) ∈ xA := xI4 (List.mem_of_getElem? (i := 191) rfl) rfl
theorem w4_192 : (Cond.static yL_lostOf) ∈ xA := xI4 (List.mem_of_getElem? (i := 192) rfl) rfl
theorem w4_193 : (Cond.codeWith yL_lostOf cL_lostOf 4 (some FieldType.int) [(0, 9, 12, 18)]) ∈ xA := xI4 (List.mem_of_getElem? (i := 193) rfl) rfl
theorem w4_194 : (Cond.methodLink RL 38 yX6_lostOf) ∈ xA := xI4 (List.mem_of_getElem? (i := 194) rfl) rfl
theorem w4_195 : (Cond.instanceMethod yX6_lostOf) ∈ xA := xI4 (List.mem_of_getElem? (i := 195) rfl) rfl
theorem w4_196 : (Cond.selects RX6 yX6_lostOf yX6_lostOf) ∈ xA := xI4 (List.mem_of_getElem? (i := 196) rfl) rfl
theorem w4_197 : (Cond.code yX6_lostOf cX6_lostOf 2 (some FieldType.int)) ∈ xA := xI4 (List.mem_of_getElem? (i := 197) rfl) rfl
theorem w4_198 : (Cond.methodLink RL 242 yL_earnings) ∈ xA := xI4 (List.mem_of_getElem? (i := 198) rfl) rfl
theorem w4_199 : (Cond.static yL_earnings) ∈ xA := xI4 (List.mem_of_getElem? (i := 199) rfl) rfl
theorem w4_200 : (Cond.codeWith yL_earnings cL_earnings 4 (some FieldType.int) [(0, 9, 12, 18)]) ∈ xA := xI4 (List.mem_of_getElem? (i := 200) rfl) rfl
theorem w4_201 : (Cond.methodLink RL 41 yX6_earnings) ∈ xA := xI4 (List.mem_of_getElem? (i := 201) rfl) rfl
theorem w4_202 : (Cond.instanceMethod yX6_earnings) ∈ xA := xI4 (List.mem_of_getElem? (i := 202) rfl) rfl
theorem w4_203 : (Cond.selects RX6 yX6_earnings yX6_earnings) ∈ xA := xI4 (List.mem_of_getElem? (i := 203) rfl) rfl
theorem w4_204 : (Cond.code yX6_earnings cX6_earnings 2 (some FieldType.int)) ∈ xA := xI4 (List.mem_of_getElem? (i := 204) rfl) rfl
theorem w4_205 : (Cond.methodLink RL 245 yL_reach) ∈ xA := xI4 (List.mem_of_getElem? (i := 205) rfl) rfl
theorem w4_206 : (Cond.static yL_reach) ∈ xA := xI4 (List.mem_of_getElem? (i := 206) rfl) rfl
theorem w4_207 : (Cond.codeWith yL_reach cL_reach 5 (some FieldType.int) [(0, 10, 13, 13)]) ∈ xA := xI4 (List.mem_of_getElem? (i := 207) rfl) rfl
theorem w4_208 : (Cond.methodLink RL 44 yX6_reach) ∈ xA := xI4 (List.mem_of_getElem? (i := 208) rfl) rfl
theorem w4_209 : (Cond.instanceMethod yX6_reach) ∈ xA := xI4 (List.mem_of_getElem? (i := 209) rfl) rfl
theorem w4_210 : (Cond.selects RX6 yX6_reach yX6_reach) ∈ xA := xI4 (List.mem_of_getElem? (i := 210) rfl) rfl
theorem w4_211 : (Cond.code yX6_reach cX6_reach 3 (some FieldType.int)) ∈ xA := xI4 (List.mem_of_getElem? (i := 211) rfl) rfl
theorem w4_212 : (Cond.methodLink RX6 188 yX4_paces) ∈ xA := xI4 (List.mem_of_getElem? (i := 212) rfl) rfl
theorem w4_213 : (Cond.methodLink RL 249 yL_seenFrom) ∈ xA := xI4 (List.mem_of_getElem? (i := 213) rfl) rfl
theorem w4_214 : (Cond.static yL_seenFrom) ∈ xA := xI4 (List.mem_of_getElem? (i := 214) rfl) rfl
theorem w4_215 : (Cond.codeWith yL_seenFrom cL_seenFrom 4 (some FieldType.int) [(0, 9, 12, 13)]) ∈ xA := xI4 (List.mem_of_getElem? (i := 215) rfl) rfl
theorem w4_216 : (Cond.methodLink RL 48 yX6_seenFrom) ∈ xA := xI4 (List.mem_of_getElem? (i := 216) rfl) rfl
theorem w4_217 : (Cond.instanceMethod yX6_seenFrom) ∈ xA := xI4 (List.mem_of_getElem? (i := 217) rfl) rfl
theorem w4_218 : (Cond.selects RX6 yX6_seenFrom yX6_seenFrom) ∈ xA := xI4 (List.mem_of_getElem? (i := 218) rfl) rfl
theorem w4_219 : (Cond.code yX6_seenFrom cX6_seenFrom 5 (some FieldType.int)) ∈ xA := xI4 (List.mem_of_getElem? (i := 219) rfl) rfl
theorem w4_220 : (Cond.methodLink RX6 196 yX4_isSeenFrom) ∈ xA := xI4 (List.mem_of_getElem? (i := 220) rfl) rfl
theorem w4_221 : (Cond.instanceMethod yX4_isSeenFrom) ∈ xA := xI4 (List.mem_of_getElem? (i := 221) rfl) rfl
theorem w4_222 : (Cond.selects RX4 yX4_isSeenFrom yX4_isSeenFrom) ∈ xA := xI4 (List.mem_of_getElem? (i := 222) rfl) rfl
theorem w4_223 : (Cond.code yX4_isSeenFrom cX4_isSeenFrom 3 (some FieldType.boolean)) ∈ xA := xI4 (List.mem_of_getElem? (i := 223) rfl) rfl
theorem w4_224 : (Cond.methodLink RX4 39 yJ9_abs_0f7a4) ∈ xA := xI4 (List.mem_of_getElem? (i := 224) rfl) rfl
theorem w4_225 : (Cond.methodLink RX4 45 yX4_paces) ∈ xA := xI4 (List.mem_of_getElem? (i := 225) rfl) rfl
theorem w4_226 : (Cond.methodLink RL 256 yL_placeOf) ∈ xA := xI4 (List.mem_of_getElem? (i := 226) rfl) rfl
theorem w4_227 : (Cond.static yL_placeOf) ∈ xA := xI4 (List.mem_of_getElem? (i := 227) rfl) rfl
theorem w4_228 : (Cond.codeWith yL_placeOf cL_placeOf 4 (some FieldType.int) [(0, 9, 12, 18)]) ∈ xA := xI4 (List.mem_of_getElem? (i := 228) rfl) rfl
theorem w4_229 : (Cond.methodLink RL 51 yX6_placeOf) ∈ xA := xI4 (List.mem_of_getElem? (i := 229) rfl) rfl
theorem w4_230 : (Cond.instanceMethod yX6_placeOf) ∈ xA := xI4 (List.mem_of_getElem? (i := 230) rfl) rfl
theorem w4_231 : (Cond.selects RX6 yX6_placeOf yX6_placeOf) ∈ xA := xI4 (List.mem_of_getElem? (i := 231) rfl) rfl
theorem w4_232 : (Cond.code yX6_placeOf cX6_placeOf 2 (some FieldType.int)) ∈ xA := xI4 (List.mem_of_getElem? (i := 232) rfl) rfl
theorem w4_233 : (Cond.methodLink RX6 214 yX6_buyerAt) ∈ xA := xI4 (List.mem_of_getElem? (i := 233) rfl) rfl
theorem w4_235 : (Cond.instanceMethod yX6_buyerAt) ∈ xA := xI4 (List.mem_of_getElem? (i := 235) rfl) rfl
theorem w4_236 : (Cond.code yX6_buyerAt cX6_buyerAt 2 (some (FieldType.object "FogBellMarket$Buyer"))) ∈ xA := xI4 (List.mem_of_getElem? (i := 236) rfl) rfl
theorem w4_237 : (Cond.methodLink RX6 255 yX6_checkBuyer) ∈ xA := xI4 (List.mem_of_getElem? (i := 237) rfl) rfl
theorem w4_239 : (Cond.instanceMethod yX6_checkBuyer) ∈ xA := xI4 (List.mem_of_getElem? (i := 239) rfl) rfl
theorem w5_0 : (Cond.code yX6_checkBuyer cX6_checkBuyer 2 none) ∈ xA := xI5 (List.mem_of_getElem? (i := 0) rfl) rfl
theorem w5_2 : (Cond.methodLink RL 259 yL_coinsOf) ∈ xA := xI5 (List.mem_of_getElem? (i := 2) rfl) rfl
theorem w5_3 : (Cond.static yL_coinsOf) ∈ xA := xI5 (List.mem_of_getElem? (i := 3) rfl) rfl
theorem w5_4 : (Cond.codeWith yL_coinsOf cL_coinsOf 4 (some FieldType.int) [(0, 9, 12, 18)]) ∈ xA := xI5 (List.mem_of_getElem? (i := 4) rfl) rfl
theorem w5_5 : (Cond.methodLink RL 54 yX6_coinsOf) ∈ xA := xI5 (List.mem_of_getElem? (i := 5) rfl) rfl
theorem w5_6 : (Cond.instanceMethod yX6_coinsOf) ∈ xA := xI5 (List.mem_of_getElem? (i := 6) rfl) rfl
theorem w5_7 : (Cond.selects RX6 yX6_coinsOf yX6_coinsOf) ∈ xA := xI5 (List.mem_of_getElem? (i := 7) rfl) rfl
theorem w5_8 : (Cond.code yX6_coinsOf cX6_coinsOf 2 (some FieldType.int)) ∈ xA := xI5 (List.mem_of_getElem? (i := 8) rfl) rfl
theorem w5_9 : (Cond.methodLink RL 262 yL_wantedTexture) ∈ xA := xI5 (List.mem_of_getElem? (i := 9) rfl) rfl
theorem w5_10 : (Cond.static yL_wantedTexture) ∈ xA := xI5 (List.mem_of_getElem? (i := 10) rfl) rfl
theorem w5_11 : (Cond.codeWith yL_wantedTexture cL_wantedTexture 4 (some FieldType.int) [(0, 9, 12, 18)]) ∈ xA := xI5 (List.mem_of_getElem? (i := 11) rfl) rfl
theorem w5_12 : (Cond.methodLink RL 57 yX6_wantedTexture) ∈ xA := xI5 (List.mem_of_getElem? (i := 12) rfl) rfl
theorem w5_13 : (Cond.instanceMethod yX6_wantedTexture) ∈ xA := xI5 (List.mem_of_getElem? (i := 13) rfl) rfl
theorem w5_14 : (Cond.selects RX6 yX6_wantedTexture yX6_wantedTexture) ∈ xA := xI5 (List.mem_of_getElem? (i := 14) rfl) rfl
theorem w5_15 : (Cond.code yX6_wantedTexture cX6_wantedTexture 2 (some FieldType.int)) ∈ xA := xI5 (List.mem_of_getElem? (i := 15) rfl) rfl
theorem w5_16 : (Cond.methodLink RL 265 yL_speedOf) ∈ xA := xI5 (List.mem_of_getElem? (i := 16) rfl) rfl
theorem w5_17 : (Cond.static yL_speedOf) ∈ xA := xI5 (List.mem_of_getElem? (i := 17) rfl) rfl
theorem w5_18 : (Cond.codeWith yL_speedOf cL_speedOf 4 (some FieldType.int) [(0, 9, 12, 18)]) ∈ xA := xI5 (List.mem_of_getElem? (i := 18) rfl) rfl
theorem w5_19 : (Cond.methodLink RL 60 yX6_speedOf) ∈ xA := xI5 (List.mem_of_getElem? (i := 19) rfl) rfl
theorem w5_20 : (Cond.instanceMethod yX6_speedOf) ∈ xA := xI5 (List.mem_of_getElem? (i := 20) rfl) rfl
theorem w5_21 : (Cond.selects RX6 yX6_speedOf yX6_speedOf) ∈ xA := xI5 (List.mem_of_getElem? (i := 21) rfl) rfl
theorem w5_22 : (Cond.code yX6_speedOf cX6_speedOf 2 (some FieldType.int)) ∈ xA := xI5 (List.mem_of_getElem? (i := 22) rfl) rfl
theorem w5_23 : (Cond.methodLink RL 268 yL_heldFrom) ∈ xA := xI5 (List.mem_of_getElem? (i := 23) rfl) rfl
theorem w5_24 : (Cond.static yL_heldFrom) ∈ xA := xI5 (List.mem_of_getElem? (i := 24) rfl) rfl
theorem w5_25 : (Cond.codeWith yL_heldFrom cL_heldFrom 4 (some FieldType.int) [(0, 9, 12, 18)]) ∈ xA := xI5 (List.mem_of_getElem? (i := 25) rfl) rfl
theorem w5_26 : (Cond.methodLink RL 63 yX6_heldFrom) ∈ xA := xI5 (List.mem_of_getElem? (i := 26) rfl) rfl
theorem w5_27 : (Cond.instanceMethod yX6_heldFrom) ∈ xA := xI5 (List.mem_of_getElem? (i := 27) rfl) rfl
theorem w5_28 : (Cond.selects RX6 yX6_heldFrom yX6_heldFrom) ∈ xA := xI5 (List.mem_of_getElem? (i := 28) rfl) rfl
theorem w5_29 : (Cond.code yX6_heldFrom cX6_heldFrom 2 (some FieldType.int)) ∈ xA := xI5 (List.mem_of_getElem? (i := 29) rfl) rfl
theorem w5_30 : (Cond.methodLink RL 271 yL_debtOf) ∈ xA := xI5 (List.mem_of_getElem? (i := 30) rfl) rfl
theorem w5_31 : (Cond.static yL_debtOf) ∈ xA := xI5 (List.mem_of_getElem? (i := 31) rfl) rfl
theorem w5_32 : (Cond.codeWith yL_debtOf cL_debtOf 4 (some FieldType.int) [(0, 9, 12, 18)]) ∈ xA := xI5 (List.mem_of_getElem? (i := 32) rfl) rfl
theorem w5_33 : (Cond.methodLink RL 66 yX6_debtOf) ∈ xA := xI5 (List.mem_of_getElem? (i := 33) rfl) rfl
theorem w5_34 : (Cond.instanceMethod yX6_debtOf) ∈ xA := xI5 (List.mem_of_getElem? (i := 34) rfl) rfl
theorem w5_35 : (Cond.selects RX6 yX6_debtOf yX6_debtOf) ∈ xA := xI5 (List.mem_of_getElem? (i := 35) rfl) rfl
theorem w5_36 : (Cond.code yX6_debtOf cX6_debtOf 2 (some FieldType.int)) ∈ xA := xI5 (List.mem_of_getElem? (i := 36) rfl) rfl
theorem w5_37 : (Cond.methodLink RL 274 yL_avoidedBy) ∈ xA := xI5 (List.mem_of_getElem? (i := 37) rfl) rfl
theorem w5_38 : (Cond.static yL_avoidedBy) ∈ xA := xI5 (List.mem_of_getElem? (i := 38) rfl) rfl
theorem w5_39 : (Cond.codeWith yL_avoidedBy cL_avoidedBy 4 (some FieldType.int) [(0, 9, 12, 18)]) ∈ xA := xI5 (List.mem_of_getElem? (i := 39) rfl) rfl
theorem w5_40 : (Cond.methodLink RL 69 yX6_avoidedBy) ∈ xA := xI5 (List.mem_of_getElem? (i := 40) rfl) rfl
theorem w5_41 : (Cond.instanceMethod yX6_avoidedBy) ∈ xA := xI5 (List.mem_of_getElem? (i := 41) rfl) rfl
theorem w5_42 : (Cond.selects RX6 yX6_avoidedBy yX6_avoidedBy) ∈ xA := xI5 (List.mem_of_getElem? (i := 42) rfl) rfl
theorem w5_43 : (Cond.code yX6_avoidedBy cX6_avoidedBy 2 (some FieldType.int)) ∈ xA := xI5 (List.mem_of_getElem? (i := 43) rfl) rfl
theorem w5_44 : (Cond.methodLink RL 277 yL_boughtBy) ∈ xA := xI5 (List.mem_of_getElem? (i := 44) rfl) rfl
theorem w5_45 : (Cond.static yL_boughtBy) ∈ xA := xI5 (List.mem_of_getElem? (i := 45) rfl) rfl
theorem w5_46 : (Cond.codeWith yL_boughtBy cL_boughtBy 4 (some FieldType.int) [(0, 9, 12, 18)]) ∈ xA := xI5 (List.mem_of_getElem? (i := 46) rfl) rfl
theorem w5_47 : (Cond.methodLink RL 72 yX6_boughtBy) ∈ xA := xI5 (List.mem_of_getElem? (i := 47) rfl) rfl
theorem w5_48 : (Cond.instanceMethod yX6_boughtBy) ∈ xA := xI5 (List.mem_of_getElem? (i := 48) rfl) rfl
theorem w5_49 : (Cond.selects RX6 yX6_boughtBy yX6_boughtBy) ∈ xA := xI5 (List.mem_of_getElem? (i := 49) rfl) rfl
theorem w5_50 : (Cond.code yX6_boughtBy cX6_boughtBy 2 (some FieldType.int)) ∈ xA := xI5 (List.mem_of_getElem? (i := 50) rfl) rfl
theorem w5_51 : (Cond.methodLink RL 280 yL_targetOf) ∈ xA := xI5 (List.mem_of_getElem? (i := 51) rfl) rfl
theorem w5_52 : (Cond.static yL_targetOf) ∈ xA := xI5 (List.mem_of_getElem? (i := 52) rfl) rfl
theorem w5_53 : (Cond.codeWith yL_targetOf cL_targetOf 4 (some FieldType.int) [(0, 9, 12, 18)]) ∈ xA := xI5 (List.mem_of_getElem? (i := 53) rfl) rfl
theorem w5_54 : (Cond.methodLink RL 75 yX6_targetOf) ∈ xA := xI5 (List.mem_of_getElem? (i := 54) rfl) rfl
theorem w5_55 : (Cond.instanceMethod yX6_targetOf) ∈ xA := xI5 (List.mem_of_getElem? (i := 55) rfl) rfl
theorem w5_56 : (Cond.selects RX6 yX6_targetOf yX6_targetOf) ∈ xA := xI5 (List.mem_of_getElem? (i := 56) rfl) rfl
theorem w5_57 : (Cond.code yX6_targetOf cX6_targetOf 3 (some FieldType.int)) ∈ xA := xI5 (List.mem_of_getElem? (i := 57) rfl) rfl
theorem w5_58 : (Cond.methodLink RX6 242 yX1_holds) ∈ xA := xI5 (List.mem_of_getElem? (i := 58) rfl) rfl
theorem w5_59 : (Cond.methodLink RX6 245 yX2_findTarget) ∈ xA := xI5 (List.mem_of_getElem? (i := 59) rfl) rfl
theorem w5_60 : (Cond.methodLink RL 283 yL_touch) ∈ xA := xI5 (List.mem_of_getElem? (i := 60) rfl) rfl
theorem w5_61 : (Cond.static yL_touch) ∈ xA := xI5 (List.mem_of_getElem? (i := 61) rfl) rfl
theorem w5_62 : (Cond.codeWith yL_touch cL_touch 5 (some FieldType.int) [(0, 10, 13, 18)]) ∈ xA := xI5 (List.mem_of_getElem? (i := 62) rfl) rfl
theorem w5_63 : (Cond.methodLink RL 78 yX6_touch) ∈ xA := xI5 (List.mem_of_getElem? (i := 63) rfl) rfl
theorem w5_64 : (Cond.instanceMethod yX6_touch) ∈ xA := xI5 (List.mem_of_getElem? (i := 64) rfl) rfl
theorem w5_65 : (Cond.selects RX6 yX6_touch yX6_touch) ∈ xA := xI5 (List.mem_of_getElem? (i := 65) rfl) rfl
theorem w5_66 : (Cond.code yX6_touch cX6_touch 3 (some FieldType.int)) ∈ xA := xI5 (List.mem_of_getElem? (i := 66) rfl) rfl
theorem w5_67 : (Cond.methodLink RX6 249 yX1_feel) ∈ xA := xI5 (List.mem_of_getElem? (i := 67) rfl) rfl
theorem w5_68 : (Cond.methodLink RL 304 yL_minutesToPay) ∈ xA := xI5 (List.mem_of_getElem? (i := 68) rfl) rfl
theorem w5_69 : (Cond.static yL_minutesToPay) ∈ xA := xI5 (List.mem_of_getElem? (i := 69) rfl) rfl
theorem w5_70 : (Cond.codeWith yL_minutesToPay cL_minutesToPay 4 (some FieldType.int) [(0, 9, 12, 18)]) ∈ xA := xI5 (List.mem_of_getElem? (i := 70) rfl) rfl
theorem w5_71 : (Cond.methodLink RL 81 yX6_minutesToPay) ∈ xA := xI5 (List.mem_of_getElem? (i := 71) rfl) rfl
theorem w5_72 : (Cond.instanceMethod yX6_minutesToPay) ∈ xA := xI5 (List.mem_of_getElem? (i := 72) rfl) rfl
theorem w5_73 : (Cond.selects RX6 yX6_minutesToPay yX6_minutesToPay) ∈ xA := xI5 (List.mem_of_getElem? (i := 73) rfl) rfl
theorem w5_74 : (Cond.code yX6_minutesToPay cX6_minutesToPay 4 (some FieldType.int)) ∈ xA := xI5 (List.mem_of_getElem? (i := 74) rfl) rfl
theorem w5_75 : (Cond.methodLink RL 307 yL_earningsAfter) ∈ xA := xI5 (List.mem_of_getElem? (i := 75) rfl) rfl
theorem w5_76 : (Cond.static yL_earningsAfter) ∈ xA := xI5 (List.mem_of_getElem? (i := 76) rfl) rfl
theorem w5_77 : (Cond.codeWith yL_earningsAfter cL_earningsAfter 5 (some FieldType.int) [(0, 10, 13, 18), (0, 10, 17, 13)]) ∈ xA := xI5 (List.mem_of_getElem? (i := 77) rfl) rfl
theorem w5_78 : (Cond.methodLink RL 84 yX6_earningsAfter) ∈ xA := xI5 (List.mem_of_getElem? (i := 78) rfl) rfl
theorem w5_79 : (Cond.instanceMethod yX6_earningsAfter) ∈ xA := xI5 (List.mem_of_getElem? (i := 79) rfl) rfl
theorem w5_80 : (Cond.selects RX6 yX6_earningsAfter yX6_earningsAfter) ∈ xA := xI5 (List.mem_of_getElem? (i := 80) rfl) rfl
theorem w5_81 : (Cond.code yX6_earningsAfter cX6_earningsAfter 3 (some FieldType.int)) ∈ xA := xI5 (List.mem_of_getElem? (i := 81) rfl) rfl
theorem w5_82 : (Cond.methodLink RL 310 yL_bestPrice) ∈ xA := xI5 (List.mem_of_getElem? (i := 82) rfl) rfl
theorem w5_83 : (Cond.static yL_bestPrice) ∈ xA := xI5 (List.mem_of_getElem? (i := 83) rfl) rfl
theorem w5_84 : (Cond.codeWith yL_bestPrice cL_bestPrice 4 (some FieldType.int) [(0, 9, 12, 18)]) ∈ xA := xI5 (List.mem_of_getElem? (i := 84) rfl) rfl
theorem w5_85 : (Cond.methodLink RL 87 yX6_bestPrice) ∈ xA := xI5 (List.mem_of_getElem? (i := 85) rfl) rfl
theorem w5_86 : (Cond.instanceMethod yX6_bestPrice) ∈ xA := xI5 (List.mem_of_getElem? (i := 86) rfl) rfl
theorem w5_87 : (Cond.selects RX6 yX6_bestPrice yX6_bestPrice) ∈ xA := xI5 (List.mem_of_getElem? (i := 87) rfl) rfl
theorem w5_88 : (Cond.code yX6_bestPrice cX6_bestPrice 5 (some FieldType.int)) ∈ xA := xI5 (List.mem_of_getElem? (i := 88) rfl) rfl
theorem w5_89 : (Cond.methodLink RL 313 yL_bestLantern) ∈ xA := xI5 (List.mem_of_getElem? (i := 89) rfl) rfl
theorem w5_90 : (Cond.static yL_bestLantern) ∈ xA := xI5 (List.mem_of_getElem? (i := 90) rfl) rfl
theorem w5_91 : (Cond.codeWith yL_bestLantern cL_bestLantern 4 (some FieldType.int) [(0, 9, 12, 18)]) ∈ xA := xI5 (List.mem_of_getElem? (i := 91) rfl) rfl
theorem w5_92 : (Cond.methodLink RL 90 yX6_bestLantern) ∈ xA := xI5 (List.mem_of_getElem? (i := 92) rfl) rfl
theorem w5_93 : (Cond.instanceMethod yX6_bestLantern) ∈ xA := xI5 (List.mem_of_getElem? (i := 93) rfl) rfl
theorem w5_94 : (Cond.selects RX6 yX6_bestLantern yX6_bestLantern) ∈ xA := xI5 (List.mem_of_getElem? (i := 94) rfl) rfl
theorem w5_95 : (Cond.code yX6_bestLantern cX6_bestLantern 5 (some FieldType.int)) ∈ xA := xI5 (List.mem_of_getElem? (i := 95) rfl) rfl
theorem w5_96 : (Cond.methodLink RL 324 yL_addStall) ∈ xA := xI5 (List.mem_of_getElem? (i := 96) rfl) rfl
theorem w5_97 : (Cond.static yL_addStall) ∈ xA := xI5 (List.mem_of_getElem? (i := 97) rfl) rfl
theorem w5_98 : (Cond.codeWith yL_addStall cL_addStall 8 (some FieldType.int) [(0, 16, 19, 13), (0, 16, 23, 97)]) ∈ xA := xI5 (List.mem_of_getElem? (i := 98) rfl) rfl
theorem w5_99 : (Cond.classLink RL 97 "java/lang/IllegalStateException") ∈ xA := xI5 (List.mem_of_getElem? (i := 99) rfl) rfl
theorem w5_100 : (Cond.methodLink RL 93 yX6_addStall) ∈ xA := xI5 (List.mem_of_getElem? (i := 100) rfl) rfl
theorem w5_101 : (Cond.instanceMethod yX6_addStall) ∈ xA := xI5 (List.mem_of_getElem? (i := 101) rfl) rfl
theorem w5_102 : (Cond.selects RX6 yX6_addStall yX6_addStall) ∈ xA := xI5 (List.mem_of_getElem? (i := 102) rfl) rfl
theorem w5_103 : (Cond.code yX6_addStall cX6_addStall 6 (some FieldType.int)) ∈ xA := xI5 (List.mem_of_getElem? (i := 103) rfl) rfl
theorem w5_104 : (Cond.classLink RX6 279 "java/lang/IllegalStateException") ∈ xA := xI5 (List.mem_of_getElem? (i := 104) rfl) rfl
theorem w5_105 : (Cond.instantiable "java/lang/IllegalStateException" 6) ∈ xA := xI5 (List.mem_of_getElem? (i := 105) rfl) rfl
theorem w5_107 : (Cond.selects "java/lang/IllegalStateException" (⟨"java/lang/Throwable", "fillInStackTrace", "(I)Ljava/lang/Throwable;"⟩) (⟨"java/lang/Throwable", "fillInStackTrace", "(I)Ljava/lang/Throwable;"⟩)) ∈ xA := xI5 (List.mem_of_getElem? (i := 107) rfl) rfl
theorem w5_108 : (Cond.lays "java/lang/IllegalStateException" "java/lang/Throwable" "cause" "Ljava/lang/Throwable;") ∈ xA := xI5 (List.mem_of_getElem? (i := 108) rfl) rfl
theorem w5_109 : (Cond.lays "java/lang/IllegalStateException" "java/lang/Throwable" "stackTrace" "[Ljava/lang/StackTraceElement;") ∈ xA := xI5 (List.mem_of_getElem? (i := 109) rfl) rfl
theorem w5_110 : (Cond.lays "java/lang/IllegalStateException" "java/lang/Throwable" "suppressedExceptions" "Ljava/util/List;") ∈ xA := xI5 (List.mem_of_getElem? (i := 110) rfl) rfl
theorem w5_111 : (Cond.lays "java/lang/IllegalStateException" "java/lang/Throwable" "detailMessage" "Ljava/lang/String;") ∈ xA := xI5 (List.mem_of_getElem? (i := 111) rfl) rfl
theorem w5_112 : (Cond.lays "java/lang/IllegalStateException" "java/lang/Throwable" "backtrace" "Ljava/lang/Object;") ∈ xA := xI5 (List.mem_of_getElem? (i := 112) rfl) rfl
theorem w5_114 : (Cond.methodLink RX6 283 (⟨"java/lang/IllegalStateException", "<init>", "(Ljava/lang/String;)V"⟩)) ∈ xA := xI5 (List.mem_of_getElem? (i := 114) rfl) rfl
theorem w5_115 : (Cond.instanceMethod (⟨"java/lang/IllegalStateException", "<init>", "(Ljava/lang/String;)V"⟩)) ∈ xA := xI5 (List.mem_of_getElem? (i := 115) rfl) rfl
theorem w5_116 : (Cond.code (⟨"java/lang/IllegalStateException", "<init>", "(Ljava/lang/String;)V"⟩) prog_16_method_2_code 2 none) ∈ xA := xI5 (List.mem_of_getElem? (i := 116) rfl) rfl
theorem w5_117 : (Cond.methodLink "java/lang/IllegalStateException" 7 (⟨"java/lang/RuntimeException", "<init>", "(Ljava/lang/String;)V"⟩)) ∈ xA := xI5 (List.mem_of_getElem? (i := 117) rfl) rfl
theorem w5_118 : (Cond.lays "java/lang/IllegalStateException" "java/lang/Throwable" "depth" "I") ∈ xA := xI5 (List.mem_of_getElem? (i := 118) rfl) rfl
theorem w5_120 : (Cond.methodLink RX6 284 yX2_placeStall) ∈ xA := xI5 (List.mem_of_getElem? (i := 120) rfl) rfl
theorem w5_121 : (Cond.methodLink RL 328 yL_addBuyer) ∈ xA := xI5 (List.mem_of_getElem? (i := 121) rfl) rfl
theorem w5_122 : (Cond.static yL_addBuyer) ∈ xA := xI5 (List.mem_of_getElem? (i := 122) rfl) rfl
theorem w5_123 : (Cond.codeWith yL_addBuyer cL_addBuyer 7 (some FieldType.int) [(0, 14, 17, 13), (0, 14, 21, 97)]) ∈ xA := xI5 (List.mem_of_getElem? (i := 123) rfl) rfl
theorem w5_124 : (Cond.methodLink RL 99 yX6_addBuyer) ∈ xA := xI5 (List.mem_of_getElem? (i := 124) rfl) rfl
theorem w5_125 : (Cond.instanceMethod yX6_addBuyer) ∈ xA := xI5 (List.mem_of_getElem? (i := 125) rfl) rfl
theorem w5_126 : (Cond.selects RX6 yX6_addBuyer yX6_addBuyer) ∈ xA := xI5 (List.mem_of_getElem? (i := 126) rfl) rfl
theorem w5_127 : (Cond.code yX6_addBuyer cX6_addBuyer 5 (some FieldType.int)) ∈ xA := xI5 (List.mem_of_getElem? (i := 127) rfl) rfl
theorem w5_129 : (Cond.methodLink RX6 290 yX2_placeBuyer) ∈ xA := xI5 (List.mem_of_getElem? (i := 129) rfl) rfl
theorem w5_130 : (Cond.methodLink RL 332 yL_setPrice) ∈ xA := xI5 (List.mem_of_getElem? (i := 130) rfl) rfl
theorem w5_131 : (Cond.static yL_setPrice) ∈ xA := xI5 (List.mem_of_getElem? (i := 131) rfl) rfl
theorem w5_132 : (Cond.codeWith yL_setPrice cL_setPrice 5 (some FieldType.int) [(0, 10, 13, 18), (0, 10, 17, 13)]) ∈ xA := xI5 (List.mem_of_getElem? (i := 132) rfl) rfl
theorem w5_133 : (Cond.methodLink RL 103 yX6_setPrice) ∈ xA := xI5 (List.mem_of_getElem? (i := 133) rfl) rfl
theorem w5_134 : (Cond.instanceMethod yX6_setPrice) ∈ xA := xI5 (List.mem_of_getElem? (i := 134) rfl) rfl
theorem w5_135 : (Cond.selects RX6 yX6_setPrice yX6_setPrice) ∈ xA := xI5 (List.mem_of_getElem? (i := 135) rfl) rfl
theorem w5_136 : (Cond.code yX6_setPrice cX6_setPrice 5 (some FieldType.int)) ∈ xA := xI5 (List.mem_of_getElem? (i := 136) rfl) rfl
theorem w5_137 : (Cond.methodLink RL 335 yL_addStock) ∈ xA := xI5 (List.mem_of_getElem? (i := 137) rfl) rfl
theorem w5_138 : (Cond.static yL_addStock) ∈ xA := xI5 (List.mem_of_getElem? (i := 138) rfl) rfl
theorem w5_139 : (Cond.codeWith yL_addStock cL_addStock 5 (some FieldType.int) [(0, 10, 13, 18), (0, 10, 17, 13), (0, 10, 21, 97)]) ∈ xA := xI5 (List.mem_of_getElem? (i := 139) rfl) rfl
theorem w5_140 : (Cond.methodLink RL 106 yX6_addStock) ∈ xA := xI5 (List.mem_of_getElem? (i := 140) rfl) rfl
theorem w5_141 : (Cond.instanceMethod yX6_addStock) ∈ xA := xI5 (List.mem_of_getElem? (i := 141) rfl) rfl
theorem w5_142 : (Cond.selects RX6 yX6_addStock yX6_addStock) ∈ xA := xI5 (List.mem_of_getElem? (i := 142) rfl) rfl
theorem w5_143 : (Cond.code yX6_addStock cX6_addStock 4 (some FieldType.int)) ∈ xA := xI5 (List.mem_of_getElem? (i := 143) rfl) rfl
theorem w5_144 : (Cond.methodLink RX6 294 yX4_hasRoomFor) ∈ xA := xI5 (List.mem_of_getElem? (i := 144) rfl) rfl
theorem w5_146 : (Cond.methodLink RX6 300 yX4_receive) ∈ xA := xI5 (List.mem_of_getElem? (i := 146) rfl) rfl
theorem w5_147 : (Cond.methodLink RL 338 yL_setLantern) ∈ xA := xI5 (List.mem_of_getElem? (i := 147) rfl) rfl
theorem w5_148 : (Cond.static yL_setLantern) ∈ xA := xI5 (List.mem_of_getElem? (i := 148) rfl) rfl
theorem w5_149 : (Cond.codeWith yL_setLantern cL_setLantern 5 (some FieldType.int) [(0, 10, 13, 18), (0, 10, 17, 13)]) ∈ xA := xI5 (List.mem_of_getElem? (i := 149) rfl) rfl
theorem w5_150 : (Cond.methodLink RL 109 yX6_setLantern) ∈ xA := xI5 (List.mem_of_getElem? (i := 150) rfl) rfl
theorem w5_151 : (Cond.instanceMethod yX6_setLantern) ∈ xA := xI5 (List.mem_of_getElem? (i := 151) rfl) rfl
theorem w5_152 : (Cond.selects RX6 yX6_setLantern yX6_setLantern) ∈ xA := xI5 (List.mem_of_getElem? (i := 152) rfl) rfl
theorem w5_153 : (Cond.code yX6_setLantern cX6_setLantern 5 (some FieldType.int)) ∈ xA := xI5 (List.mem_of_getElem? (i := 153) rfl) rfl
theorem w5_154 : (Cond.methodLink RL 341 yL_moveStall) ∈ xA := xI5 (List.mem_of_getElem? (i := 154) rfl) rfl
theorem w5_155 : (Cond.static yL_moveStall) ∈ xA := xI5 (List.mem_of_getElem? (i := 155) rfl) rfl
theorem w5_156 : (Cond.codeWith yL_moveStall cL_moveStall 5 (some FieldType.int) [(0, 10, 13, 18), (0, 10, 17, 13)]) ∈ xA := xI5 (List.mem_of_getElem? (i := 156) rfl) rfl
theorem w5_157 : (Cond.methodLink RL 112 yX6_moveStall) ∈ xA := xI5 (List.mem_of_getElem? (i := 157) rfl) rfl
theorem w5_158 : (Cond.instanceMethod yX6_moveStall) ∈ xA := xI5 (List.mem_of_getElem? (i := 158) rfl) rfl
theorem w5_159 : (Cond.selects RX6 yX6_moveStall yX6_moveStall) ∈ xA := xI5 (List.mem_of_getElem? (i := 159) rfl) rfl
theorem w5_160 : (Cond.code yX6_moveStall cX6_moveStall 5 (some FieldType.int)) ∈ xA := xI5 (List.mem_of_getElem? (i := 160) rfl) rfl
theorem w5_161 : (Cond.methodLink RL 344 yL_setFog) ∈ xA := xI5 (List.mem_of_getElem? (i := 161) rfl) rfl
theorem w5_162 : (Cond.static yL_setFog) ∈ xA := xI5 (List.mem_of_getElem? (i := 162) rfl) rfl
theorem w5_163 : (Cond.codeWith yL_setFog cL_setFog 5 (some FieldType.int) [(0, 10, 13, 18), (0, 10, 17, 13)]) ∈ xA := xI5 (List.mem_of_getElem? (i := 163) rfl) rfl
theorem w5_164 : (Cond.methodLink RL 115 yX6_setFog) ∈ xA := xI5 (List.mem_of_getElem? (i := 164) rfl) rfl
theorem w5_165 : (Cond.instanceMethod yX6_setFog) ∈ xA := xI5 (List.mem_of_getElem? (i := 165) rfl) rfl
theorem w5_166 : (Cond.selects RX6 yX6_setFog yX6_setFog) ∈ xA := xI5 (List.mem_of_getElem? (i := 166) rfl) rfl
theorem w5_167 : (Cond.code yX6_setFog cX6_setFog 4 (some FieldType.int)) ∈ xA := xI5 (List.mem_of_getElem? (i := 167) rfl) rfl
theorem w5_169 : (Cond.methodLink RL 347 yL_putBack) ∈ xA := xI5 (List.mem_of_getElem? (i := 169) rfl) rfl
theorem w5_170 : (Cond.static yL_putBack) ∈ xA := xI5 (List.mem_of_getElem? (i := 170) rfl) rfl
theorem w5_171 : (Cond.codeWith yL_putBack cL_putBack 4 (some FieldType.int) [(0, 9, 12, 18), (0, 9, 15, 97)]) ∈ xA := xI5 (List.mem_of_getElem? (i := 171) rfl) rfl
theorem w5_172 : (Cond.methodLink RL 118 yX6_putBack) ∈ xA := xI5 (List.mem_of_getElem? (i := 172) rfl) rfl
theorem w5_173 : (Cond.instanceMethod yX6_putBack) ∈ xA := xI5 (List.mem_of_getElem? (i := 173) rfl) rfl
theorem w5_174 : (Cond.selects RX6 yX6_putBack yX6_putBack) ∈ xA := xI5 (List.mem_of_getElem? (i := 174) rfl) rfl
theorem w5_175 : (Cond.code yX6_putBack cX6_putBack 4 (some FieldType.int)) ∈ xA := xI5 (List.mem_of_getElem? (i := 175) rfl) rfl
theorem w5_177 : (Cond.methodLink RX6 314 yX2_returnAndAvoid) ∈ xA := xI5 (List.mem_of_getElem? (i := 177) rfl) rfl
theorem w5_178 : (Cond.methodLink RL 350 yL_passMinutes) ∈ xA := xI5 (List.mem_of_getElem? (i := 178) rfl) rfl
theorem w5_179 : (Cond.static yL_passMinutes) ∈ xA := xI5 (List.mem_of_getElem? (i := 179) rfl) rfl
theorem w5_180 : (Cond.codeWith yL_passMinutes cL_passMinutes 4 (some FieldType.int) [(0, 9, 12, 13)]) ∈ xA := xI5 (List.mem_of_getElem? (i := 180) rfl) rfl
theorem w5_181 : (Cond.methodLink RL 121 yX6_passMinutes) ∈ xA := xI5 (List.mem_of_getElem? (i := 181) rfl) rfl
theorem w5_182 : (Cond.instanceMethod yX6_passMinutes) ∈ xA := xI5 (List.mem_of_getElem? (i := 182) rfl) rfl
theorem w5_183 : (Cond.selects RX6 yX6_passMinutes yX6_passMinutes) ∈ xA := xI5 (List.mem_of_getElem? (i := 183) rfl) rfl
theorem w5_184 : (Cond.code yX6_passMinutes cX6_passMinutes 3 (some FieldType.int)) ∈ xA := xI5 (List.mem_of_getElem? (i := 184) rfl) rfl
theorem w5_185 : (Cond.methodLink RL 353 yL_undo) ∈ xA := xI5 (List.mem_of_getElem? (i := 185) rfl) rfl
theorem w5_186 : (Cond.static yL_undo) ∈ xA := xI5 (List.mem_of_getElem? (i := 186) rfl) rfl
theorem w5_187 : (Cond.codeWith yL_undo cL_undo 3 (some FieldType.int) [(0, 8, 11, 97)]) ∈ xA := xI5 (List.mem_of_getElem? (i := 187) rfl) rfl
theorem w5_188 : (Cond.methodLink RL 124 yX6_undo) ∈ xA := xI5 (List.mem_of_getElem? (i := 188) rfl) rfl
theorem w5_189 : (Cond.instanceMethod yX6_undo) ∈ xA := xI5 (List.mem_of_getElem? (i := 189) rfl) rfl
theorem w5_190 : (Cond.selects RX6 yX6_undo yX6_undo) ∈ xA := xI5 (List.mem_of_getElem? (i := 190) rfl) rfl
theorem w5_191 : (Cond.code yX6_undo cX6_undo 1 (some FieldType.int)) ∈ xA := xI5 (List.mem_of_getElem? (i := 191) rfl) rfl
theorem w5_193 : (Cond.methodLink RL 357 yL_save) ∈ xA := xI5 (List.mem_of_getElem? (i := 193) rfl) rfl
theorem w5_194 : (Cond.static yL_save) ∈ xA := xI5 (List.mem_of_getElem? (i := 194) rfl) rfl
theorem w5_195 : (Cond.codeWith yL_save cL_save 4 (some FieldType.int) [(0, 9, 12, 13)]) ∈ xA := xI5 (List.mem_of_getElem? (i := 195) rfl) rfl
theorem w5_196 : (Cond.methodLink RL 128 yX6_save) ∈ xA := xI5 (List.mem_of_getElem? (i := 196) rfl) rfl
theorem w5_197 : (Cond.instanceMethod yX6_save) ∈ xA := xI5 (List.mem_of_getElem? (i := 197) rfl) rfl
theorem w5_198 : (Cond.selects RX6 yX6_save yX6_save) ∈ xA := xI5 (List.mem_of_getElem? (i := 198) rfl) rfl
theorem w5_199 : (Cond.code yX6_save cX6_save 2 (some FieldType.int)) ∈ xA := xI5 (List.mem_of_getElem? (i := 199) rfl) rfl
theorem w5_200 : (Cond.methodLink RL 360 yL_restore) ∈ xA := xI5 (List.mem_of_getElem? (i := 200) rfl) rfl
theorem w5_201 : (Cond.static yL_restore) ∈ xA := xI5 (List.mem_of_getElem? (i := 201) rfl) rfl
theorem w5_202 : (Cond.codeWith yL_restore cL_restore 4 (some FieldType.int) [(0, 9, 12, 13), (0, 9, 15, 134)]) ∈ xA := xI5 (List.mem_of_getElem? (i := 202) rfl) rfl
theorem w5_203 : (Cond.classLink RL 134 "java/util/NoSuchElementException") ∈ xA := xI5 (List.mem_of_getElem? (i := 203) rfl) rfl
theorem w5_204 : (Cond.methodLink RL 131 yX6_restore) ∈ xA := xI5 (List.mem_of_getElem? (i := 204) rfl) rfl
theorem w5_205 : (Cond.instanceMethod yX6_restore) ∈ xA := xI5 (List.mem_of_getElem? (i := 205) rfl) rfl
theorem w5_206 : (Cond.selects RX6 yX6_restore yX6_restore) ∈ xA := xI5 (List.mem_of_getElem? (i := 206) rfl) rfl
theorem w5_207 : (Cond.code yX6_restore cX6_restore 2 (some FieldType.int)) ∈ xA := xI5 (List.mem_of_getElem? (i := 207) rfl) rfl
theorem w5_208 : (Cond.classLink RX6 326 "java/util/NoSuchElementException") ∈ xA := xI5 (List.mem_of_getElem? (i := 208) rfl) rfl
theorem w5_209 : (Cond.instantiable "java/util/NoSuchElementException" 6) ∈ xA := xI5 (List.mem_of_getElem? (i := 209) rfl) rfl
theorem w5_211 : (Cond.selects "java/util/NoSuchElementException" (⟨"java/lang/Throwable", "fillInStackTrace", "(I)Ljava/lang/Throwable;"⟩) (⟨"java/lang/Throwable", "fillInStackTrace", "(I)Ljava/lang/Throwable;"⟩)) ∈ xA := xI5 (List.mem_of_getElem? (i := 211) rfl) rfl
theorem w5_212 : (Cond.lays "java/util/NoSuchElementException" "java/lang/Throwable" "cause" "Ljava/lang/Throwable;") ∈ xA := xI5 (List.mem_of_getElem? (i := 212) rfl) rfl
theorem w5_213 : (Cond.lays "java/util/NoSuchElementException" "java/lang/Throwable" "stackTrace" "[Ljava/lang/StackTraceElement;") ∈ xA := xI5 (List.mem_of_getElem? (i := 213) rfl) rfl
theorem w5_214 : (Cond.lays "java/util/NoSuchElementException" "java/lang/Throwable" "suppressedExceptions" "Ljava/util/List;") ∈ xA := xI5 (List.mem_of_getElem? (i := 214) rfl) rfl
theorem w5_215 : (Cond.lays "java/util/NoSuchElementException" "java/lang/Throwable" "detailMessage" "Ljava/lang/String;") ∈ xA := xI5 (List.mem_of_getElem? (i := 215) rfl) rfl
theorem w5_216 : (Cond.lays "java/util/NoSuchElementException" "java/lang/Throwable" "backtrace" "Ljava/lang/Object;") ∈ xA := xI5 (List.mem_of_getElem? (i := 216) rfl) rfl
theorem w5_218 : (Cond.methodLink RX6 330 (⟨"java/util/NoSuchElementException", "<init>", "(Ljava/lang/String;)V"⟩)) ∈ xA := xI5 (List.mem_of_getElem? (i := 218) rfl) rfl
theorem w5_219 : (Cond.instanceMethod (⟨"java/util/NoSuchElementException", "<init>", "(Ljava/lang/String;)V"⟩)) ∈ xA := xI5 (List.mem_of_getElem? (i := 219) rfl) rfl
theorem w5_220 : (Cond.code (⟨"java/util/NoSuchElementException", "<init>", "(Ljava/lang/String;)V"⟩) prog_26_method_4_code 2 none) ∈ xA := xI5 (List.mem_of_getElem? (i := 220) rfl) rfl
theorem w5_221 : (Cond.methodLink "java/util/NoSuchElementException" 13 (⟨"java/lang/RuntimeException", "<init>", "(Ljava/lang/String;)V"⟩)) ∈ xA := xI5 (List.mem_of_getElem? (i := 221) rfl) rfl
theorem w5_222 : (Cond.lays "java/util/NoSuchElementException" "java/lang/Throwable" "depth" "I") ∈ xA := xI5 (List.mem_of_getElem? (i := 222) rfl) rfl
theorem w5_224 : (Cond.classLink RL 137 "FogBellMarketModel") ∈ xA := xI5 (List.mem_of_getElem? (i := 224) rfl) rfl
theorem w5_225 : (Cond.instantiable RX7 20) ∈ xA := xI5 (List.mem_of_getElem? (i := 225) rfl) rfl
theorem w5_226 : (Cond.methodLink RL 139 yX7_init) ∈ xA := xI5 (List.mem_of_getElem? (i := 226) rfl) rfl
theorem w5_227 : (Cond.instanceMethod yX7_init) ∈ xA := xI5 (List.mem_of_getElem? (i := 227) rfl) rfl
theorem w5_228 : (Cond.code yX7_init cX7_init 3 none) ∈ xA := xI5 (List.mem_of_getElem? (i := 228) rfl) rfl
theorem w5_229 : (Cond.methodLink RX7 1 (⟨"java/lang/Object", "<init>", "()V"⟩)) ∈ xA := xI5 (List.mem_of_getElem? (i := 229) rfl) rfl
theorem w5_231 : (Cond.methodLink RX7 44 yJ0_length_8abf5) ∈ xA := xI5 (List.mem_of_getElem? (i := 231) rfl) rfl
theorem w5_232 : (Cond.methodLink RX7 50 yJ0_charAt_5068e) ∈ xA := xI5 (List.mem_of_getElem? (i := 232) rfl) rfl
theorem w5_233 : (Cond.methodLink RX7 57 yX7_loadSetup) ∈ xA := xI5 (List.mem_of_getElem? (i := 233) rfl) rfl
theorem w5_234 : (Cond.instanceMethod yX7_loadSetup) ∈ xA := xI5 (List.mem_of_getElem? (i := 234) rfl) rfl
theorem w5_235 : (Cond.selects RX7 yX7_loadSetup yX7_loadSetup) ∈ xA := xI5 (List.mem_of_getElem? (i := 235) rfl) rfl
theorem w5_236 : (Cond.code yX7_loadSetup cX7_loadSetup 2 (some FieldType.int)) ∈ xA := xI5 (List.mem_of_getElem? (i := 236) rfl) rfl
theorem w5_237 : (Cond.methodLink RX7 283 yX7_startTrial) ∈ xA := xI5 (List.mem_of_getElem? (i := 237) rfl) rfl
theorem w5_239 : (Cond.instanceMethod yX7_startTrial) ∈ xA := xI5 (List.mem_of_getElem? (i := 239) rfl) rfl
theorem w6_0 : (Cond.code yX7_startTrial cX7_startTrial 2 none) ∈ xA := xI6 (List.mem_of_getElem? (i := 0) rfl) rfl
theorem w6_1 : (Cond.methodLink RX7 286 yX7_startText) ∈ xA := xI6 (List.mem_of_getElem? (i := 1) rfl) rfl
theorem w6_3 : (Cond.instanceMethod yX7_startText) ∈ xA := xI6 (List.mem_of_getElem? (i := 3) rfl) rfl
theorem w6_4 : (Cond.code yX7_startText cX7_startText 1 none) ∈ xA := xI6 (List.mem_of_getElem? (i := 4) rfl) rfl
theorem w6_5 : (Cond.methodLink RX7 180 yX7_next) ∈ xA := xI6 (List.mem_of_getElem? (i := 5) rfl) rfl
theorem w6_7 : (Cond.instanceMethod yX7_next) ∈ xA := xI6 (List.mem_of_getElem? (i := 7) rfl) rfl
theorem w6_8 : (Cond.code yX7_next cX7_next 2 none) ∈ xA := xI6 (List.mem_of_getElem? (i := 8) rfl) rfl
theorem w6_9 : (Cond.methodLink RX7 159 yX7_isSmall) ∈ xA := xI6 (List.mem_of_getElem? (i := 9) rfl) rfl
theorem w6_10 : (Cond.static yX7_isSmall) ∈ xA := xI6 (List.mem_of_getElem? (i := 10) rfl) rfl
theorem w6_11 : (Cond.code yX7_isSmall cX7_isSmall 1 (some FieldType.boolean)) ∈ xA := xI6 (List.mem_of_getElem? (i := 11) rfl) rfl
theorem w6_12 : (Cond.methodLink RX7 147 yX7_inRange) ∈ xA := xI6 (List.mem_of_getElem? (i := 12) rfl) rfl
theorem w6_13 : (Cond.static yX7_inRange) ∈ xA := xI6 (List.mem_of_getElem? (i := 13) rfl) rfl
theorem w6_14 : (Cond.code yX7_inRange cX7_inRange 3 (some FieldType.boolean)) ∈ xA := xI6 (List.mem_of_getElem? (i := 14) rfl) rfl
theorem w6_15 : (Cond.methodLink RX7 163 yX7_isDigit) ∈ xA := xI6 (List.mem_of_getElem? (i := 15) rfl) rfl
theorem w6_16 : (Cond.static yX7_isDigit) ∈ xA := xI6 (List.mem_of_getElem? (i := 16) rfl) rfl
theorem w6_17 : (Cond.code yX7_isDigit cX7_isDigit 1 (some FieldType.boolean)) ∈ xA := xI6 (List.mem_of_getElem? (i := 17) rfl) rfl
theorem w6_18 : (Cond.constant RX7 169 (99999)) ∈ xA := xI6 (List.mem_of_getElem? (i := 18) rfl) rfl
theorem w6_19 : (Cond.methodLink RX7 289 yX7_setupText) ∈ xA := xI6 (List.mem_of_getElem? (i := 19) rfl) rfl
theorem w6_21 : (Cond.instanceMethod yX7_setupText) ∈ xA := xI6 (List.mem_of_getElem? (i := 21) rfl) rfl
theorem w6_22 : (Cond.code yX7_setupText cX7_setupText 1 (some FieldType.boolean)) ∈ xA := xI6 (List.mem_of_getElem? (i := 22) rfl) rfl
theorem w6_24 : (Cond.methodLink RX7 209 yX7_expects) ∈ xA := xI6 (List.mem_of_getElem? (i := 24) rfl) rfl
theorem w6_26 : (Cond.instanceMethod yX7_expects) ∈ xA := xI6 (List.mem_of_getElem? (i := 26) rfl) rfl
theorem w6_27 : (Cond.code yX7_expects cX7_expects 2 (some FieldType.boolean)) ∈ xA := xI6 (List.mem_of_getElem? (i := 27) rfl) rfl
theorem w6_28 : (Cond.methodLink RX7 173 yX7_isWord) ∈ xA := xI6 (List.mem_of_getElem? (i := 28) rfl) rfl
theorem w6_30 : (Cond.instanceMethod yX7_isWord) ∈ xA := xI6 (List.mem_of_getElem? (i := 30) rfl) rfl
theorem w6_31 : (Cond.code yX7_isWord cX7_isWord 4 (some FieldType.boolean)) ∈ xA := xI6 (List.mem_of_getElem? (i := 31) rfl) rfl
theorem w6_32 : (Cond.methodLink RX7 143 yX7_flag) ∈ xA := xI6 (List.mem_of_getElem? (i := 32) rfl) rfl
theorem w6_33 : (Cond.static yX7_flag) ∈ xA := xI6 (List.mem_of_getElem? (i := 33) rfl) rfl
theorem w6_34 : (Cond.code yX7_flag cX7_flag 1 (some FieldType.int)) ∈ xA := xI6 (List.mem_of_getElem? (i := 34) rfl) rfl
theorem w6_35 : (Cond.methodLink RX7 177 yX7_wrong) ∈ xA := xI6 (List.mem_of_getElem? (i := 35) rfl) rfl
theorem w6_37 : (Cond.instanceMethod yX7_wrong) ∈ xA := xI6 (List.mem_of_getElem? (i := 37) rfl) rfl
theorem w6_38 : (Cond.code yX7_wrong cX7_wrong 2 (some FieldType.boolean)) ∈ xA := xI6 (List.mem_of_getElem? (i := 38) rfl) rfl
theorem w6_39 : (Cond.methodLink RX7 212 yX7_into) ∈ xA := xI6 (List.mem_of_getElem? (i := 39) rfl) rfl
theorem w6_41 : (Cond.instanceMethod yX7_into) ∈ xA := xI6 (List.mem_of_getElem? (i := 41) rfl) rfl
theorem w6_42 : (Cond.code yX7_into cX7_into 4 (some FieldType.boolean)) ∈ xA := xI6 (List.mem_of_getElem? (i := 42) rfl) rfl
theorem w6_43 : (Cond.methodLink RX7 187 yX7_numberIn) ∈ xA := xI6 (List.mem_of_getElem? (i := 43) rfl) rfl
theorem w6_45 : (Cond.instanceMethod yX7_numberIn) ∈ xA := xI6 (List.mem_of_getElem? (i := 45) rfl) rfl
theorem w6_46 : (Cond.code yX7_numberIn cX7_numberIn 3 (some FieldType.boolean)) ∈ xA := xI6 (List.mem_of_getElem? (i := 46) rfl) rfl
theorem w6_47 : (Cond.methodLink RX7 215 yX7_semicolon) ∈ xA := xI6 (List.mem_of_getElem? (i := 47) rfl) rfl
theorem w6_49 : (Cond.instanceMethod yX7_semicolon) ∈ xA := xI6 (List.mem_of_getElem? (i := 49) rfl) rfl
theorem w6_50 : (Cond.code yX7_semicolon cX7_semicolon 1 (some FieldType.boolean)) ∈ xA := xI6 (List.mem_of_getElem? (i := 50) rfl) rfl
theorem w6_51 : (Cond.methodLink RX7 183 yX7_isEnd) ∈ xA := xI6 (List.mem_of_getElem? (i := 51) rfl) rfl
theorem w6_53 : (Cond.instanceMethod yX7_isEnd) ∈ xA := xI6 (List.mem_of_getElem? (i := 53) rfl) rfl
theorem w6_54 : (Cond.code yX7_isEnd cX7_isEnd 1 (some FieldType.boolean)) ∈ xA := xI6 (List.mem_of_getElem? (i := 54) rfl) rfl
theorem w6_56 : (Cond.methodLink RX7 220 yX7_commandsText) ∈ xA := xI6 (List.mem_of_getElem? (i := 56) rfl) rfl
theorem w6_58 : (Cond.instanceMethod yX7_commandsText) ∈ xA := xI6 (List.mem_of_getElem? (i := 58) rfl) rfl
theorem w6_59 : (Cond.code yX7_commandsText cX7_commandsText 5 (some FieldType.int)) ∈ xA := xI6 (List.mem_of_getElem? (i := 59) rfl) rfl
theorem w6_60 : (Cond.methodLink RX7 239 yX7_commandHere) ∈ xA := xI6 (List.mem_of_getElem? (i := 60) rfl) rfl
theorem w6_62 : (Cond.instanceMethod yX7_commandHere) ∈ xA := xI6 (List.mem_of_getElem? (i := 62) rfl) rfl
theorem w6_63 : (Cond.code yX7_commandHere cX7_commandHere 4 (some FieldType.int)) ∈ xA := xI6 (List.mem_of_getElem? (i := 63) rfl) rfl
theorem w6_72 : (Cond.methodLink RX7 242 yX7_commandText) ∈ xA := xI6 (List.mem_of_getElem? (i := 72) rfl) rfl
theorem w6_74 : (Cond.instanceMethod yX7_commandText) ∈ xA := xI6 (List.mem_of_getElem? (i := 74) rfl) rfl
theorem w6_75 : (Cond.code yX7_commandText cX7_commandText 3 (some FieldType.boolean)) ∈ xA := xI6 (List.mem_of_getElem? (i := 75) rfl) rfl
theorem w6_76 : (Cond.methodLink RX7 257 yX7_argumentsText) ∈ xA := xI6 (List.mem_of_getElem? (i := 76) rfl) rfl
theorem w6_78 : (Cond.instanceMethod yX7_argumentsText) ∈ xA := xI6 (List.mem_of_getElem? (i := 78) rfl) rfl
theorem w6_79 : (Cond.code yX7_argumentsText cX7_argumentsText 2 (some FieldType.boolean)) ∈ xA := xI6 (List.mem_of_getElem? (i := 79) rfl) rfl
theorem w6_80 : (Cond.methodLink RX7 245 yX7_lanternInto) ∈ xA := xI6 (List.mem_of_getElem? (i := 80) rfl) rfl
theorem w6_82 : (Cond.instanceMethod yX7_lanternInto) ∈ xA := xI6 (List.mem_of_getElem? (i := 82) rfl) rfl
theorem w6_83 : (Cond.code yX7_lanternInto cX7_lanternInto 2 (some FieldType.boolean)) ∈ xA := xI6 (List.mem_of_getElem? (i := 83) rfl) rfl
theorem w6_88 : (Cond.methodLink RX7 198 yX7_wordRead) ∈ xA := xI6 (List.mem_of_getElem? (i := 88) rfl) rfl
theorem w6_90 : (Cond.instanceMethod yX7_wordRead) ∈ xA := xI6 (List.mem_of_getElem? (i := 90) rfl) rfl
theorem w6_91 : (Cond.code yX7_wordRead cX7_wordRead 2 (some FieldType.boolean)) ∈ xA := xI6 (List.mem_of_getElem? (i := 91) rfl) rfl
theorem w6_92 : (Cond.methodLink RX7 248 yX7_textureInto) ∈ xA := xI6 (List.mem_of_getElem? (i := 92) rfl) rfl
theorem w6_94 : (Cond.instanceMethod yX7_textureInto) ∈ xA := xI6 (List.mem_of_getElem? (i := 94) rfl) rfl
theorem w6_95 : (Cond.code yX7_textureInto cX7_textureInto 2 (some FieldType.boolean)) ∈ xA := xI6 (List.mem_of_getElem? (i := 95) rfl) rfl
theorem w6_99 : (Cond.methodLink RX7 251 yX7_holderInto) ∈ xA := xI6 (List.mem_of_getElem? (i := 99) rfl) rfl
theorem w6_101 : (Cond.instanceMethod yX7_holderInto) ∈ xA := xI6 (List.mem_of_getElem? (i := 101) rfl) rfl
theorem w6_102 : (Cond.code yX7_holderInto cX7_holderInto 1 (some FieldType.boolean)) ∈ xA := xI6 (List.mem_of_getElem? (i := 102) rfl) rfl
theorem w6_103 : (Cond.methodLink RX7 73 yX7_by) ∈ xA := xI6 (List.mem_of_getElem? (i := 103) rfl) rfl
theorem w6_105 : (Cond.instanceMethod yX7_by) ∈ xA := xI6 (List.mem_of_getElem? (i := 105) rfl) rfl
theorem w6_106 : (Cond.code yX7_by cX7_by 3 (some FieldType.int)) ∈ xA := xI6 (List.mem_of_getElem? (i := 106) rfl) rfl
theorem w6_107 : (Cond.methodLink RX7 254 yX7_stockInto) ∈ xA := xI6 (List.mem_of_getElem? (i := 107) rfl) rfl
theorem w6_109 : (Cond.instanceMethod yX7_stockInto) ∈ xA := xI6 (List.mem_of_getElem? (i := 109) rfl) rfl
theorem w6_110 : (Cond.code yX7_stockInto cX7_stockInto 1 (some FieldType.boolean)) ∈ xA := xI6 (List.mem_of_getElem? (i := 110) rfl) rfl
theorem w6_111 : (Cond.methodLink RX7 63 yX7_st) ∈ xA := xI6 (List.mem_of_getElem? (i := 111) rfl) rfl
theorem w6_113 : (Cond.instanceMethod yX7_st) ∈ xA := xI6 (List.mem_of_getElem? (i := 113) rfl) rfl
theorem w6_114 : (Cond.code yX7_st cX7_st 3 (some FieldType.int)) ∈ xA := xI6 (List.mem_of_getElem? (i := 114) rfl) rfl
theorem w6_115 : (Cond.methodLink RX7 260 yX7_does) ∈ xA := xI6 (List.mem_of_getElem? (i := 115) rfl) rfl
theorem w6_117 : (Cond.instanceMethod yX7_does) ∈ xA := xI6 (List.mem_of_getElem? (i := 117) rfl) rfl
theorem w6_118 : (Cond.code yX7_does cX7_does 2 (some FieldType.int)) ∈ xA := xI6 (List.mem_of_getElem? (i := 118) rfl) rfl
theorem w6_119 : (Cond.methodLink RX7 263 yX7_doStall) ∈ xA := xI6 (List.mem_of_getElem? (i := 119) rfl) rfl
theorem w6_121 : (Cond.instanceMethod yX7_doStall) ∈ xA := xI6 (List.mem_of_getElem? (i := 121) rfl) rfl
theorem w6_122 : (Cond.code yX7_doStall cX7_doStall 8 (some FieldType.int)) ∈ xA := xI6 (List.mem_of_getElem? (i := 122) rfl) rfl
theorem w6_123 : (Cond.methodLink RX7 84 yX7_more) ∈ xA := xI6 (List.mem_of_getElem? (i := 123) rfl) rfl
theorem w6_125 : (Cond.instanceMethod yX7_more) ∈ xA := xI6 (List.mem_of_getElem? (i := 125) rfl) rfl
theorem w6_126 : (Cond.code yX7_more cX7_more 4 none) ∈ xA := xI6 (List.mem_of_getElem? (i := 126) rfl) rfl
theorem w6_127 : (Cond.methodLink RX7 267 yX7_doBuyer) ∈ xA := xI6 (List.mem_of_getElem? (i := 127) rfl) rfl
theorem w6_129 : (Cond.instanceMethod yX7_doBuyer) ∈ xA := xI6 (List.mem_of_getElem? (i := 129) rfl) rfl
theorem w6_130 : (Cond.code yX7_doBuyer cX7_doBuyer 7 (some FieldType.int)) ∈ xA := xI6 (List.mem_of_getElem? (i := 130) rfl) rfl
theorem w6_131 : (Cond.methodLink RX7 88 yX7_put) ∈ xA := xI6 (List.mem_of_getElem? (i := 131) rfl) rfl
theorem w6_133 : (Cond.instanceMethod yX7_put) ∈ xA := xI6 (List.mem_of_getElem? (i := 133) rfl) rfl
theorem w6_134 : (Cond.code yX7_put cX7_put 4 none) ∈ xA := xI6 (List.mem_of_getElem? (i := 134) rfl) rfl
theorem w6_135 : (Cond.methodLink RX7 271 yX7_passAll) ∈ xA := xI6 (List.mem_of_getElem? (i := 135) rfl) rfl
theorem w6_137 : (Cond.instanceMethod yX7_passAll) ∈ xA := xI6 (List.mem_of_getElem? (i := 137) rfl) rfl
theorem w6_138 : (Cond.code yX7_passAll cX7_passAll 4 (some FieldType.int)) ∈ xA := xI6 (List.mem_of_getElem? (i := 138) rfl) rfl
theorem w6_139 : (Cond.methodLink RX7 136 yX7_passMinute) ∈ xA := xI6 (List.mem_of_getElem? (i := 139) rfl) rfl
theorem w6_141 : (Cond.instanceMethod yX7_passMinute) ∈ xA := xI6 (List.mem_of_getElem? (i := 141) rfl) rfl
theorem w6_142 : (Cond.code yX7_passMinute cX7_passMinute 4 (some FieldType.int)) ∈ xA := xI6 (List.mem_of_getElem? (i := 142) rfl) rfl
theorem w6_143 : (Cond.methodLink RX7 124 yX7_fogAt) ∈ xA := xI6 (List.mem_of_getElem? (i := 143) rfl) rfl
theorem w6_145 : (Cond.instanceMethod yX7_fogAt) ∈ xA := xI6 (List.mem_of_getElem? (i := 145) rfl) rfl
theorem w6_146 : (Cond.code yX7_fogAt cX7_fogAt 2 (some FieldType.int)) ∈ xA := xI6 (List.mem_of_getElem? (i := 146) rfl) rfl
theorem w6_147 : (Cond.methodLink RX7 127 yX7_stepBell) ∈ xA := xI6 (List.mem_of_getElem? (i := 147) rfl) rfl
theorem w6_149 : (Cond.instanceMethod yX7_stepBell) ∈ xA := xI6 (List.mem_of_getElem? (i := 149) rfl) rfl
theorem w6_150 : (Cond.code yX7_stepBell cX7_stepBell 2 none) ∈ xA := xI6 (List.mem_of_getElem? (i := 150) rfl) rfl
theorem w6_151 : (Cond.methodLink RX7 95 yX7_endBell) ∈ xA := xI6 (List.mem_of_getElem? (i := 151) rfl) rfl
theorem w6_153 : (Cond.instanceMethod yX7_endBell) ∈ xA := xI6 (List.mem_of_getElem? (i := 153) rfl) rfl
theorem w6_154 : (Cond.code yX7_endBell cX7_endBell 2 none) ∈ xA := xI6 (List.mem_of_getElem? (i := 154) rfl) rfl
theorem w6_155 : (Cond.methodLink RX7 98 yX7_giveBack) ∈ xA := xI6 (List.mem_of_getElem? (i := 155) rfl) rfl
theorem w6_157 : (Cond.instanceMethod yX7_giveBack) ∈ xA := xI6 (List.mem_of_getElem? (i := 157) rfl) rfl
theorem w6_158 : (Cond.code yX7_giveBack cX7_giveBack 2 none) ∈ xA := xI6 (List.mem_of_getElem? (i := 158) rfl) rfl
theorem w6_159 : (Cond.methodLink RX7 130 yX7_act) ∈ xA := xI6 (List.mem_of_getElem? (i := 159) rfl) rfl
theorem w6_161 : (Cond.instanceMethod yX7_act) ∈ xA := xI6 (List.mem_of_getElem? (i := 161) rfl) rfl
theorem w6_162 : (Cond.code yX7_act cX7_act 4 (some FieldType.int)) ∈ xA := xI6 (List.mem_of_getElem? (i := 162) rfl) rfl
theorem w6_163 : (Cond.methodLink RX7 107 yX7_walk) ∈ xA := xI6 (List.mem_of_getElem? (i := 163) rfl) rfl
theorem w6_165 : (Cond.instanceMethod yX7_walk) ∈ xA := xI6 (List.mem_of_getElem? (i := 165) rfl) rfl
theorem w6_166 : (Cond.code yX7_walk cX7_walk 5 none) ∈ xA := xI6 (List.mem_of_getElem? (i := 166) rfl) rfl
theorem w6_167 : (Cond.methodLink RX7 67 yX7_apart) ∈ xA := xI6 (List.mem_of_getElem? (i := 167) rfl) rfl
theorem w6_168 : (Cond.static yX7_apart) ∈ xA := xI6 (List.mem_of_getElem? (i := 168) rfl) rfl
theorem w6_169 : (Cond.code yX7_apart cX7_apart 2 (some FieldType.int)) ∈ xA := xI6 (List.mem_of_getElem? (i := 169) rfl) rfl
theorem w6_170 : (Cond.methodLink RX7 102 yJ9_min_7cf53) ∈ xA := xI6 (List.mem_of_getElem? (i := 170) rfl) rfl
theorem w6_171 : (Cond.methodLink RX7 111 yX7_pay) ∈ xA := xI6 (List.mem_of_getElem? (i := 171) rfl) rfl
theorem w6_173 : (Cond.instanceMethod yX7_pay) ∈ xA := xI6 (List.mem_of_getElem? (i := 173) rfl) rfl
theorem w6_174 : (Cond.code yX7_pay cX7_pay 4 (some FieldType.int)) ∈ xA := xI6 (List.mem_of_getElem? (i := 174) rfl) rfl
theorem w6_175 : (Cond.methodLink RX7 115 yX7_target) ∈ xA := xI6 (List.mem_of_getElem? (i := 175) rfl) rfl
theorem w6_177 : (Cond.instanceMethod yX7_target) ∈ xA := xI6 (List.mem_of_getElem? (i := 177) rfl) rfl
theorem w6_178 : (Cond.code yX7_target cX7_target 8 (some FieldType.int)) ∈ xA := xI6 (List.mem_of_getElem? (i := 178) rfl) rfl
theorem w6_179 : (Cond.methodLink RX7 76 yX7_has) ∈ xA := xI6 (List.mem_of_getElem? (i := 179) rfl) rfl
theorem w6_180 : (Cond.static yX7_has) ∈ xA := xI6 (List.mem_of_getElem? (i := 180) rfl) rfl
theorem w6_181 : (Cond.code yX7_has cX7_has 2 (some FieldType.boolean)) ∈ xA := xI6 (List.mem_of_getElem? (i := 181) rfl) rfl
theorem w6_182 : (Cond.methodLink RX7 80 yX7_isSeen) ∈ xA := xI6 (List.mem_of_getElem? (i := 182) rfl) rfl
theorem w6_184 : (Cond.instanceMethod yX7_isSeen) ∈ xA := xI6 (List.mem_of_getElem? (i := 184) rfl) rfl
theorem w6_185 : (Cond.code yX7_isSeen cX7_isSeen 4 (some FieldType.boolean)) ∈ xA := xI6 (List.mem_of_getElem? (i := 185) rfl) rfl
theorem w6_186 : (Cond.methodLink RX7 70 yX7_reachOf) ∈ xA := xI6 (List.mem_of_getElem? (i := 186) rfl) rfl
theorem w6_187 : (Cond.static yX7_reachOf) ∈ xA := xI6 (List.mem_of_getElem? (i := 187) rfl) rfl
theorem w6_188 : (Cond.code yX7_reachOf cX7_reachOf 2 (some FieldType.int)) ∈ xA := xI6 (List.mem_of_getElem? (i := 188) rfl) rfl
theorem w6_189 : (Cond.methodLink RX7 118 yX7_takes) ∈ xA := xI6 (List.mem_of_getElem? (i := 189) rfl) rfl
theorem w6_191 : (Cond.instanceMethod yX7_takes) ∈ xA := xI6 (List.mem_of_getElem? (i := 191) rfl) rfl
theorem w6_192 : (Cond.code yX7_takes cX7_takes 3 none) ∈ xA := xI6 (List.mem_of_getElem? (i := 192) rfl) rfl
theorem w6_193 : (Cond.methodLink RX7 121 yX7_feel) ∈ xA := xI6 (List.mem_of_getElem? (i := 193) rfl) rfl
theorem w6_195 : (Cond.instanceMethod yX7_feel) ∈ xA := xI6 (List.mem_of_getElem? (i := 195) rfl) rfl
theorem w6_196 : (Cond.code yX7_feel cX7_feel 3 (some FieldType.int)) ∈ xA := xI6 (List.mem_of_getElem? (i := 196) rfl) rfl
theorem w6_197 : (Cond.methodLink RX7 133 yX7_guardOf) ∈ xA := xI6 (List.mem_of_getElem? (i := 197) rfl) rfl
theorem w6_198 : (Cond.static yX7_guardOf) ∈ xA := xI6 (List.mem_of_getElem? (i := 198) rfl) rfl
theorem w6_199 : (Cond.code yX7_guardOf cX7_guardOf 1 (some FieldType.int)) ∈ xA := xI6 (List.mem_of_getElem? (i := 199) rfl) rfl
theorem w6_200 : (Cond.methodLink RX7 274 yX7_lays) ∈ xA := xI6 (List.mem_of_getElem? (i := 200) rfl) rfl
theorem w6_202 : (Cond.instanceMethod yX7_lays) ∈ xA := xI6 (List.mem_of_getElem? (i := 202) rfl) rfl
theorem w6_203 : (Cond.code yX7_lays cX7_lays 4 (some FieldType.int)) ∈ xA := xI6 (List.mem_of_getElem? (i := 203) rfl) rfl
theorem w6_204 : (Cond.methodLink RX7 277 yX7_doBack) ∈ xA := xI6 (List.mem_of_getElem? (i := 204) rfl) rfl
theorem w6_206 : (Cond.instanceMethod yX7_doBack) ∈ xA := xI6 (List.mem_of_getElem? (i := 206) rfl) rfl
theorem w6_207 : (Cond.code yX7_doBack cX7_doBack 3 (some FieldType.int)) ∈ xA := xI6 (List.mem_of_getElem? (i := 207) rfl) rfl
theorem w6_208 : (Cond.methodLink RX7 280 yX7_doStock) ∈ xA := xI6 (List.mem_of_getElem? (i := 208) rfl) rfl
theorem w6_210 : (Cond.instanceMethod yX7_doStock) ∈ xA := xI6 (List.mem_of_getElem? (i := 210) rfl) rfl
theorem w6_211 : (Cond.code yX7_doStock cX7_doStock 3 (some FieldType.int)) ∈ xA := xI6 (List.mem_of_getElem? (i := 211) rfl) rfl
theorem w6_212 : (Cond.methodLink RX7 292 yX7_leaveTrial) ∈ xA := xI6 (List.mem_of_getElem? (i := 212) rfl) rfl
theorem w6_214 : (Cond.instanceMethod yX7_leaveTrial) ∈ xA := xI6 (List.mem_of_getElem? (i := 214) rfl) rfl
theorem w6_215 : (Cond.code yX7_leaveTrial cX7_leaveTrial 3 (some FieldType.int)) ∈ xA := xI6 (List.mem_of_getElem? (i := 215) rfl) rfl
theorem w6_216 : (Cond.fieldLink RX7 7 "FogBellMarketModel" "buffer" "[I") ∈ xA := xI6 (List.mem_of_getElem? (i := 216) rfl) rfl
theorem w6_217 : (Cond.fieldLink RX7 54 "FogBellMarketModel" "bytes" "I") ∈ xA := xI6 (List.mem_of_getElem? (i := 217) rfl) rfl
theorem w6_218 : (Cond.fieldLink RX7 170 "FogBellMarketModel" "errorCode" "I") ∈ xA := xI6 (List.mem_of_getElem? (i := 218) rfl) rfl
theorem w6_219 : (Cond.fieldLink RX7 13 "FogBellMarketModel" "errorPosition" "I") ∈ xA := xI6 (List.mem_of_getElem? (i := 219) rfl) rfl
theorem w6_220 : (Cond.fieldLink RX7 60 "FogBellMarketModel" "thrown" "I") ∈ xA := xI6 (List.mem_of_getElem? (i := 220) rfl) rfl
theorem w6_221 : (Cond.fieldLink RX7 17 "FogBellMarketModel" "now" "[I") ∈ xA := xI6 (List.mem_of_getElem? (i := 221) rfl) rfl
theorem w6_222 : (Cond.fieldLink RX7 20 "FogBellMarketModel" "aside" "[I") ∈ xA := xI6 (List.mem_of_getElem? (i := 222) rfl) rfl
theorem w6_223 : (Cond.fieldLink RX7 23 "FogBellMarketModel" "trial" "[I") ∈ xA := xI6 (List.mem_of_getElem? (i := 223) rfl) rfl
theorem w6_224 : (Cond.fieldLink RX7 26 "FogBellMarketModel" "history" "[I") ∈ xA := xI6 (List.mem_of_getElem? (i := 224) rfl) rfl
theorem w6_225 : (Cond.fieldLink RX7 295 "FogBellMarketModel" "historySize" "I") ∈ xA := xI6 (List.mem_of_getElem? (i := 225) rfl) rfl
theorem w6_226 : (Cond.fieldLink RX7 29 "FogBellMarketModel" "saved" "[I") ∈ xA := xI6 (List.mem_of_getElem? (i := 226) rfl) rfl
theorem w6_227 : (Cond.fieldLink RX7 32 "FogBellMarketModel" "isSaved" "[Z") ∈ xA := xI6 (List.mem_of_getElem? (i := 227) rfl) rfl
theorem w6_228 : (Cond.fieldLink RX7 91 "FogBellMarketModel" "ended" "Z") ∈ xA := xI6 (List.mem_of_getElem? (i := 228) rfl) rfl
theorem w6_229 : (Cond.fieldLink RX7 36 "FogBellMarketModel" "told" "[I") ∈ xA := xI6 (List.mem_of_getElem? (i := 229) rfl) rfl
theorem w6_230 : (Cond.fieldLink RX7 39 "FogBellMarketModel" "output" "[I") ∈ xA := xI6 (List.mem_of_getElem? (i := 230) rfl) rfl
theorem w6_231 : (Cond.fieldLink RX7 150 "FogBellMarketModel" "at" "I") ∈ xA := xI6 (List.mem_of_getElem? (i := 231) rfl) rfl
theorem w6_232 : (Cond.fieldLink RX7 156 "FogBellMarketModel" "token" "I") ∈ xA := xI6 (List.mem_of_getElem? (i := 232) rfl) rfl
theorem w6_233 : (Cond.fieldLink RX7 153 "FogBellMarketModel" "begin" "I") ∈ xA := xI6 (List.mem_of_getElem? (i := 233) rfl) rfl
theorem w6_234 : (Cond.fieldLink RX7 166 "FogBellMarketModel" "number" "I") ∈ xA := xI6 (List.mem_of_getElem? (i := 234) rfl) rfl
theorem w6_235 : (Cond.fieldLink RX7 341 "FogBellMarketModel" "outputLength" "I") ∈ xA := xI6 (List.mem_of_getElem? (i := 235) rfl) rfl
theorem w6_236 : (Cond.laysFinal RX7 "FogBellMarketModel" "buffer" "[I") ∈ xA := xI6 (List.mem_of_getElem? (i := 236) rfl) rfl
theorem w6_238 : (Cond.lays RX7 "FogBellMarketModel" "bytes" "I") ∈ xA := xI6 (List.mem_of_getElem? (i := 238) rfl) rfl
theorem w7_0 : (Cond.lays RX7 "FogBellMarketModel" "errorCode" "I") ∈ xA := xI7 (List.mem_of_getElem? (i := 0) rfl) rfl
theorem w7_2 : (Cond.lays RX7 "FogBellMarketModel" "errorPosition" "I") ∈ xA := xI7 (List.mem_of_getElem? (i := 2) rfl) rfl
theorem w7_4 : (Cond.lays RX7 "FogBellMarketModel" "thrown" "I") ∈ xA := xI7 (List.mem_of_getElem? (i := 4) rfl) rfl
theorem w7_6 : (Cond.laysFinal RX7 "FogBellMarketModel" "now" "[I") ∈ xA := xI7 (List.mem_of_getElem? (i := 6) rfl) rfl
theorem w7_8 : (Cond.laysFinal RX7 "FogBellMarketModel" "aside" "[I") ∈ xA := xI7 (List.mem_of_getElem? (i := 8) rfl) rfl
theorem w7_10 : (Cond.laysFinal RX7 "FogBellMarketModel" "trial" "[I") ∈ xA := xI7 (List.mem_of_getElem? (i := 10) rfl) rfl
theorem w7_12 : (Cond.laysFinal RX7 "FogBellMarketModel" "history" "[I") ∈ xA := xI7 (List.mem_of_getElem? (i := 12) rfl) rfl
theorem w7_14 : (Cond.lays RX7 "FogBellMarketModel" "historySize" "I") ∈ xA := xI7 (List.mem_of_getElem? (i := 14) rfl) rfl
theorem w7_16 : (Cond.laysFinal RX7 "FogBellMarketModel" "saved" "[I") ∈ xA := xI7 (List.mem_of_getElem? (i := 16) rfl) rfl
theorem w7_18 : (Cond.laysFinal RX7 "FogBellMarketModel" "isSaved" "[Z") ∈ xA := xI7 (List.mem_of_getElem? (i := 18) rfl) rfl
theorem w7_20 : (Cond.lays RX7 "FogBellMarketModel" "ended" "Z") ∈ xA := xI7 (List.mem_of_getElem? (i := 20) rfl) rfl
theorem w7_22 : (Cond.laysFinal RX7 "FogBellMarketModel" "told" "[I") ∈ xA := xI7 (List.mem_of_getElem? (i := 22) rfl) rfl
theorem w7_24 : (Cond.laysFinal RX7 "FogBellMarketModel" "output" "[I") ∈ xA := xI7 (List.mem_of_getElem? (i := 24) rfl) rfl
theorem w7_26 : (Cond.lays RX7 "FogBellMarketModel" "at" "I") ∈ xA := xI7 (List.mem_of_getElem? (i := 26) rfl) rfl
theorem w7_28 : (Cond.lays RX7 "FogBellMarketModel" "token" "I") ∈ xA := xI7 (List.mem_of_getElem? (i := 28) rfl) rfl
theorem w7_30 : (Cond.lays RX7 "FogBellMarketModel" "begin" "I") ∈ xA := xI7 (List.mem_of_getElem? (i := 30) rfl) rfl
theorem w7_32 : (Cond.lays RX7 "FogBellMarketModel" "number" "I") ∈ xA := xI7 (List.mem_of_getElem? (i := 32) rfl) rfl
theorem w7_34 : (Cond.lays RX7 "FogBellMarketModel" "outputLength" "I") ∈ xA := xI7 (List.mem_of_getElem? (i := 34) rfl) rfl
theorem w7_37 : (Cond.methodLink RL 186 yX7_thrown) ∈ xA := xI7 (List.mem_of_getElem? (i := 37) rfl) rfl
theorem w7_38 : (Cond.instanceMethod yX7_thrown) ∈ xA := xI7 (List.mem_of_getElem? (i := 38) rfl) rfl
theorem w7_39 : (Cond.selects RX7 yX7_thrown yX7_thrown) ∈ xA := xI7 (List.mem_of_getElem? (i := 39) rfl) rfl
theorem w7_40 : (Cond.code yX7_thrown cX7_thrown 1 (some FieldType.int)) ∈ xA := xI7 (List.mem_of_getElem? (i := 40) rfl) rfl
theorem w7_41 : (Cond.methodLink RL 143 yX7_feed) ∈ xA := xI7 (List.mem_of_getElem? (i := 41) rfl) rfl
theorem w7_42 : (Cond.instanceMethod yX7_feed) ∈ xA := xI7 (List.mem_of_getElem? (i := 42) rfl) rfl
theorem w7_43 : (Cond.selects RX7 yX7_feed yX7_feed) ∈ xA := xI7 (List.mem_of_getElem? (i := 43) rfl) rfl
theorem w7_44 : (Cond.code yX7_feed cX7_feed 9 (some FieldType.int)) ∈ xA := xI7 (List.mem_of_getElem? (i := 44) rfl) rfl
theorem w7_45 : (Cond.methodLink RX7 139 yX7_byteOf) ∈ xA := xI7 (List.mem_of_getElem? (i := 45) rfl) rfl
theorem w7_46 : (Cond.static yX7_byteOf) ∈ xA := xI7 (List.mem_of_getElem? (i := 46) rfl) rfl
theorem w7_47 : (Cond.code yX7_byteOf cX7_byteOf 7 (some FieldType.int)) ∈ xA := xI7 (List.mem_of_getElem? (i := 47) rfl) rfl
theorem w7_48 : (Cond.methodLink RL 147 yX7_loadSetup) ∈ xA := xI7 (List.mem_of_getElem? (i := 48) rfl) rfl
theorem w7_49 : (Cond.methodLink RL 151 yX7_runScript) ∈ xA := xI7 (List.mem_of_getElem? (i := 49) rfl) rfl
theorem w7_50 : (Cond.instanceMethod yX7_runScript) ∈ xA := xI7 (List.mem_of_getElem? (i := 50) rfl) rfl
theorem w7_51 : (Cond.selects RX7 yX7_runScript yX7_runScript) ∈ xA := xI7 (List.mem_of_getElem? (i := 51) rfl) rfl
theorem w7_52 : (Cond.code yX7_runScript cX7_runScript 3 (some FieldType.int)) ∈ xA := xI7 (List.mem_of_getElem? (i := 52) rfl) rfl
theorem w7_53 : (Cond.methodLink RX7 298 yX7_pushAside) ∈ xA := xI7 (List.mem_of_getElem? (i := 53) rfl) rfl
theorem w7_55 : (Cond.instanceMethod yX7_pushAside) ∈ xA := xI7 (List.mem_of_getElem? (i := 55) rfl) rfl
theorem w7_56 : (Cond.code yX7_pushAside cX7_pushAside 2 none) ∈ xA := xI7 (List.mem_of_getElem? (i := 56) rfl) rfl
theorem w7_57 : (Cond.methodLink RL 155 yX7_errorCode) ∈ xA := xI7 (List.mem_of_getElem? (i := 57) rfl) rfl
theorem w7_58 : (Cond.instanceMethod yX7_errorCode) ∈ xA := xI7 (List.mem_of_getElem? (i := 58) rfl) rfl
theorem w7_59 : (Cond.selects RX7 yX7_errorCode yX7_errorCode) ∈ xA := xI7 (List.mem_of_getElem? (i := 59) rfl) rfl
theorem w7_60 : (Cond.code yX7_errorCode cX7_errorCode 1 (some FieldType.int)) ∈ xA := xI7 (List.mem_of_getElem? (i := 60) rfl) rfl
theorem w7_61 : (Cond.methodLink RX7 301 yX7_plain) ∈ xA := xI7 (List.mem_of_getElem? (i := 61) rfl) rfl
theorem w7_63 : (Cond.instanceMethod yX7_plain) ∈ xA := xI7 (List.mem_of_getElem? (i := 63) rfl) rfl
theorem w7_64 : (Cond.code yX7_plain cX7_plain 2 (some FieldType.int)) ∈ xA := xI7 (List.mem_of_getElem? (i := 64) rfl) rfl
theorem w7_65 : (Cond.methodLink RL 159 yX7_errorPosition) ∈ xA := xI7 (List.mem_of_getElem? (i := 65) rfl) rfl
theorem w7_66 : (Cond.instanceMethod yX7_errorPosition) ∈ xA := xI7 (List.mem_of_getElem? (i := 66) rfl) rfl
theorem w7_67 : (Cond.selects RX7 yX7_errorPosition yX7_errorPosition) ∈ xA := xI7 (List.mem_of_getElem? (i := 67) rfl) rfl
theorem w7_68 : (Cond.code yX7_errorPosition cX7_errorPosition 1 (some FieldType.int)) ∈ xA := xI7 (List.mem_of_getElem? (i := 68) rfl) rfl
theorem w7_69 : (Cond.methodLink RL 163 yX7_minute) ∈ xA := xI7 (List.mem_of_getElem? (i := 69) rfl) rfl
theorem w7_70 : (Cond.instanceMethod yX7_minute) ∈ xA := xI7 (List.mem_of_getElem? (i := 70) rfl) rfl
theorem w7_71 : (Cond.selects RX7 yX7_minute yX7_minute) ∈ xA := xI7 (List.mem_of_getElem? (i := 71) rfl) rfl
theorem w7_72 : (Cond.code yX7_minute cX7_minute 1 (some FieldType.int)) ∈ xA := xI7 (List.mem_of_getElem? (i := 72) rfl) rfl
theorem w7_73 : (Cond.methodLink RL 167 yX7_bellPosition) ∈ xA := xI7 (List.mem_of_getElem? (i := 73) rfl) rfl
theorem w7_74 : (Cond.instanceMethod yX7_bellPosition) ∈ xA := xI7 (List.mem_of_getElem? (i := 74) rfl) rfl
theorem w7_75 : (Cond.selects RX7 yX7_bellPosition yX7_bellPosition) ∈ xA := xI7 (List.mem_of_getElem? (i := 75) rfl) rfl
theorem w7_76 : (Cond.code yX7_bellPosition cX7_bellPosition 1 (some FieldType.int)) ∈ xA := xI7 (List.mem_of_getElem? (i := 76) rfl) rfl
theorem w7_77 : (Cond.methodLink RL 171 yX7_threshold) ∈ xA := xI7 (List.mem_of_getElem? (i := 77) rfl) rfl
theorem w7_78 : (Cond.instanceMethod yX7_threshold) ∈ xA := xI7 (List.mem_of_getElem? (i := 78) rfl) rfl
theorem w7_79 : (Cond.selects RX7 yX7_threshold yX7_threshold) ∈ xA := xI7 (List.mem_of_getElem? (i := 79) rfl) rfl
theorem w7_80 : (Cond.code yX7_threshold cX7_threshold 1 (some FieldType.int)) ∈ xA := xI7 (List.mem_of_getElem? (i := 80) rfl) rfl
theorem w7_81 : (Cond.methodLink RL 175 yX7_duration) ∈ xA := xI7 (List.mem_of_getElem? (i := 81) rfl) rfl
theorem w7_82 : (Cond.instanceMethod yX7_duration) ∈ xA := xI7 (List.mem_of_getElem? (i := 82) rfl) rfl
theorem w7_83 : (Cond.selects RX7 yX7_duration yX7_duration) ∈ xA := xI7 (List.mem_of_getElem? (i := 83) rfl) rfl
theorem w7_84 : (Cond.code yX7_duration cX7_duration 1 (some FieldType.int)) ∈ xA := xI7 (List.mem_of_getElem? (i := 84) rfl) rfl
theorem w7_85 : (Cond.methodLink RL 179 yX7_undoCount) ∈ xA := xI7 (List.mem_of_getElem? (i := 85) rfl) rfl
theorem w7_86 : (Cond.instanceMethod yX7_undoCount) ∈ xA := xI7 (List.mem_of_getElem? (i := 86) rfl) rfl
theorem w7_87 : (Cond.selects RX7 yX7_undoCount yX7_undoCount) ∈ xA := xI7 (List.mem_of_getElem? (i := 87) rfl) rfl
theorem w7_88 : (Cond.code yX7_undoCount cX7_undoCount 1 (some FieldType.int)) ∈ xA := xI7 (List.mem_of_getElem? (i := 88) rfl) rfl
theorem w7_89 : (Cond.methodLink RL 185 yX7_fogIn) ∈ xA := xI7 (List.mem_of_getElem? (i := 89) rfl) rfl
theorem w7_90 : (Cond.instanceMethod yX7_fogIn) ∈ xA := xI7 (List.mem_of_getElem? (i := 90) rfl) rfl
theorem w7_91 : (Cond.selects RX7 yX7_fogIn yX7_fogIn) ∈ xA := xI7 (List.mem_of_getElem? (i := 91) rfl) rfl
theorem w7_92 : (Cond.code yX7_fogIn cX7_fogIn 2 (some FieldType.int)) ∈ xA := xI7 (List.mem_of_getElem? (i := 92) rfl) rfl
theorem w7_93 : (Cond.methodLink RX7 304 yX7_fails) ∈ xA := xI7 (List.mem_of_getElem? (i := 93) rfl) rfl
theorem w7_95 : (Cond.instanceMethod yX7_fails) ∈ xA := xI7 (List.mem_of_getElem? (i := 95) rfl) rfl
theorem w7_96 : (Cond.code yX7_fails cX7_fails 3 (some FieldType.boolean)) ∈ xA := xI7 (List.mem_of_getElem? (i := 96) rfl) rfl
theorem w7_97 : (Cond.methodLink RL 193 yX7_isOpen) ∈ xA := xI7 (List.mem_of_getElem? (i := 97) rfl) rfl
theorem w7_98 : (Cond.instanceMethod yX7_isOpen) ∈ xA := xI7 (List.mem_of_getElem? (i := 98) rfl) rfl
theorem w7_99 : (Cond.selects RX7 yX7_isOpen yX7_isOpen) ∈ xA := xI7 (List.mem_of_getElem? (i := 99) rfl) rfl
theorem w7_100 : (Cond.code yX7_isOpen cX7_isOpen 1 (some FieldType.boolean)) ∈ xA := xI7 (List.mem_of_getElem? (i := 100) rfl) rfl
theorem w7_101 : (Cond.methodLink RL 197 yX7_isReady) ∈ xA := xI7 (List.mem_of_getElem? (i := 101) rfl) rfl
theorem w7_102 : (Cond.instanceMethod yX7_isReady) ∈ xA := xI7 (List.mem_of_getElem? (i := 102) rfl) rfl
theorem w7_103 : (Cond.selects RX7 yX7_isReady yX7_isReady) ∈ xA := xI7 (List.mem_of_getElem? (i := 103) rfl) rfl
theorem w7_104 : (Cond.code yX7_isReady cX7_isReady 1 (some FieldType.boolean)) ∈ xA := xI7 (List.mem_of_getElem? (i := 104) rfl) rfl
theorem w7_105 : (Cond.methodLink RL 201 yX7_openMinutes) ∈ xA := xI7 (List.mem_of_getElem? (i := 105) rfl) rfl
theorem w7_106 : (Cond.instanceMethod yX7_openMinutes) ∈ xA := xI7 (List.mem_of_getElem? (i := 106) rfl) rfl
theorem w7_107 : (Cond.selects RX7 yX7_openMinutes yX7_openMinutes) ∈ xA := xI7 (List.mem_of_getElem? (i := 107) rfl) rfl
theorem w7_108 : (Cond.code yX7_openMinutes cX7_openMinutes 1 (some FieldType.int)) ∈ xA := xI7 (List.mem_of_getElem? (i := 108) rfl) rfl
theorem w7_109 : (Cond.methodLink RL 205 yX7_ringings) ∈ xA := xI7 (List.mem_of_getElem? (i := 109) rfl) rfl
theorem w7_110 : (Cond.instanceMethod yX7_ringings) ∈ xA := xI7 (List.mem_of_getElem? (i := 110) rfl) rfl
theorem w7_111 : (Cond.selects RX7 yX7_ringings yX7_ringings) ∈ xA := xI7 (List.mem_of_getElem? (i := 111) rfl) rfl
theorem w7_112 : (Cond.code yX7_ringings cX7_ringings 1 (some FieldType.int)) ∈ xA := xI7 (List.mem_of_getElem? (i := 112) rfl) rfl
theorem w7_113 : (Cond.methodLink RL 209 yX7_minutesToBell) ∈ xA := xI7 (List.mem_of_getElem? (i := 113) rfl) rfl
theorem w7_114 : (Cond.instanceMethod yX7_minutesToBell) ∈ xA := xI7 (List.mem_of_getElem? (i := 114) rfl) rfl
theorem w7_115 : (Cond.selects RX7 yX7_minutesToBell yX7_minutesToBell) ∈ xA := xI7 (List.mem_of_getElem? (i := 115) rfl) rfl
theorem w7_116 : (Cond.code yX7_minutesToBell cX7_minutesToBell 1 (some FieldType.int)) ∈ xA := xI7 (List.mem_of_getElem? (i := 116) rfl) rfl
theorem w7_117 : (Cond.methodLink RX7 308 yX7_minutesTo) ∈ xA := xI7 (List.mem_of_getElem? (i := 117) rfl) rfl
theorem w7_119 : (Cond.instanceMethod yX7_minutesTo) ∈ xA := xI7 (List.mem_of_getElem? (i := 119) rfl) rfl
theorem w7_120 : (Cond.code yX7_minutesTo cX7_minutesTo 7 (some FieldType.int)) ∈ xA := xI7 (List.mem_of_getElem? (i := 120) rfl) rfl
theorem w7_121 : (Cond.methodLink RL 213 yX7_minutesToEnd) ∈ xA := xI7 (List.mem_of_getElem? (i := 121) rfl) rfl
theorem w7_122 : (Cond.instanceMethod yX7_minutesToEnd) ∈ xA := xI7 (List.mem_of_getElem? (i := 122) rfl) rfl
theorem w7_123 : (Cond.selects RX7 yX7_minutesToEnd yX7_minutesToEnd) ∈ xA := xI7 (List.mem_of_getElem? (i := 123) rfl) rfl
theorem w7_124 : (Cond.code yX7_minutesToEnd cX7_minutesToEnd 1 (some FieldType.int)) ∈ xA := xI7 (List.mem_of_getElem? (i := 124) rfl) rfl
theorem w7_125 : (Cond.methodLink RL 217 yX7_stallCount) ∈ xA := xI7 (List.mem_of_getElem? (i := 125) rfl) rfl
theorem w7_126 : (Cond.instanceMethod yX7_stallCount) ∈ xA := xI7 (List.mem_of_getElem? (i := 126) rfl) rfl
theorem w7_127 : (Cond.selects RX7 yX7_stallCount yX7_stallCount) ∈ xA := xI7 (List.mem_of_getElem? (i := 127) rfl) rfl
theorem w7_128 : (Cond.code yX7_stallCount cX7_stallCount 1 (some FieldType.int)) ∈ xA := xI7 (List.mem_of_getElem? (i := 128) rfl) rfl
theorem w7_129 : (Cond.methodLink RL 220 yX7_positionOf) ∈ xA := xI7 (List.mem_of_getElem? (i := 129) rfl) rfl
theorem w7_130 : (Cond.instanceMethod yX7_positionOf) ∈ xA := xI7 (List.mem_of_getElem? (i := 130) rfl) rfl
theorem w7_131 : (Cond.selects RX7 yX7_positionOf yX7_positionOf) ∈ xA := xI7 (List.mem_of_getElem? (i := 131) rfl) rfl
theorem w7_132 : (Cond.code yX7_positionOf cX7_positionOf 2 (some FieldType.int)) ∈ xA := xI7 (List.mem_of_getElem? (i := 132) rfl) rfl
theorem w7_133 : (Cond.methodLink RX7 317 yX7_asked) ∈ xA := xI7 (List.mem_of_getElem? (i := 133) rfl) rfl
theorem w7_135 : (Cond.instanceMethod yX7_asked) ∈ xA := xI7 (List.mem_of_getElem? (i := 135) rfl) rfl
theorem w7_136 : (Cond.code yX7_asked cX7_asked 3 (some FieldType.int)) ∈ xA := xI7 (List.mem_of_getElem? (i := 136) rfl) rfl
theorem w7_137 : (Cond.methodLink RX7 311 yX7_isStall) ∈ xA := xI7 (List.mem_of_getElem? (i := 137) rfl) rfl
theorem w7_139 : (Cond.instanceMethod yX7_isStall) ∈ xA := xI7 (List.mem_of_getElem? (i := 139) rfl) rfl
theorem w7_140 : (Cond.code yX7_isStall cX7_isStall 2 (some FieldType.boolean)) ∈ xA := xI7 (List.mem_of_getElem? (i := 140) rfl) rfl
theorem w7_141 : (Cond.methodLink RL 223 yX7_lanternOf) ∈ xA := xI7 (List.mem_of_getElem? (i := 141) rfl) rfl
theorem w7_142 : (Cond.instanceMethod yX7_lanternOf) ∈ xA := xI7 (List.mem_of_getElem? (i := 142) rfl) rfl
theorem w7_143 : (Cond.selects RX7 yX7_lanternOf yX7_lanternOf) ∈ xA := xI7 (List.mem_of_getElem? (i := 143) rfl) rfl
theorem w7_144 : (Cond.code yX7_lanternOf cX7_lanternOf 2 (some FieldType.int)) ∈ xA := xI7 (List.mem_of_getElem? (i := 144) rfl) rfl
theorem w7_145 : (Cond.methodLink RL 226 yX7_textureOf) ∈ xA := xI7 (List.mem_of_getElem? (i := 145) rfl) rfl
theorem w7_146 : (Cond.instanceMethod yX7_textureOf) ∈ xA := xI7 (List.mem_of_getElem? (i := 146) rfl) rfl
theorem w7_147 : (Cond.selects RX7 yX7_textureOf yX7_textureOf) ∈ xA := xI7 (List.mem_of_getElem? (i := 147) rfl) rfl
theorem w7_148 : (Cond.code yX7_textureOf cX7_textureOf 2 (some FieldType.int)) ∈ xA := xI7 (List.mem_of_getElem? (i := 148) rfl) rfl
theorem w7_149 : (Cond.methodLink RL 229 yX7_priceOf) ∈ xA := xI7 (List.mem_of_getElem? (i := 149) rfl) rfl
theorem w7_150 : (Cond.instanceMethod yX7_priceOf) ∈ xA := xI7 (List.mem_of_getElem? (i := 150) rfl) rfl
theorem w7_151 : (Cond.selects RX7 yX7_priceOf yX7_priceOf) ∈ xA := xI7 (List.mem_of_getElem? (i := 151) rfl) rfl
theorem w7_152 : (Cond.code yX7_priceOf cX7_priceOf 2 (some FieldType.int)) ∈ xA := xI7 (List.mem_of_getElem? (i := 152) rfl) rfl
theorem w7_153 : (Cond.methodLink RL 232 yX7_stockOf) ∈ xA := xI7 (List.mem_of_getElem? (i := 153) rfl) rfl
theorem w7_154 : (Cond.instanceMethod yX7_stockOf) ∈ xA := xI7 (List.mem_of_getElem? (i := 154) rfl) rfl
theorem w7_155 : (Cond.selects RX7 yX7_stockOf yX7_stockOf) ∈ xA := xI7 (List.mem_of_getElem? (i := 155) rfl) rfl
theorem w7_156 : (Cond.code yX7_stockOf cX7_stockOf 2 (some FieldType.int)) ∈ xA := xI7 (List.mem_of_getElem? (i := 156) rfl) rfl
theorem w7_157 : (Cond.methodLink RL 235 yX7_heldOf) ∈ xA := xI7 (List.mem_of_getElem? (i := 157) rfl) rfl
theorem w7_158 : (Cond.instanceMethod yX7_heldOf) ∈ xA := xI7 (List.mem_of_getElem? (i := 158) rfl) rfl
theorem w7_159 : (Cond.selects RX7 yX7_heldOf yX7_heldOf) ∈ xA := xI7 (List.mem_of_getElem? (i := 159) rfl) rfl
theorem w7_160 : (Cond.code yX7_heldOf cX7_heldOf 2 (some FieldType.int)) ∈ xA := xI7 (List.mem_of_getElem? (i := 160) rfl) rfl
theorem w7_161 : (Cond.methodLink RX7 320 yX7_held) ∈ xA := xI7 (List.mem_of_getElem? (i := 161) rfl) rfl
theorem w7_163 : (Cond.instanceMethod yX7_held) ∈ xA := xI7 (List.mem_of_getElem? (i := 163) rfl) rfl
theorem w7_164 : (Cond.code yX7_held cX7_held 4 (some FieldType.int)) ∈ xA := xI7 (List.mem_of_getElem? (i := 164) rfl) rfl
theorem w7_165 : (Cond.methodLink RL 238 yX7_soldOf) ∈ xA := xI7 (List.mem_of_getElem? (i := 165) rfl) rfl
theorem w7_166 : (Cond.instanceMethod yX7_soldOf) ∈ xA := xI7 (List.mem_of_getElem? (i := 166) rfl) rfl
theorem w7_167 : (Cond.selects RX7 yX7_soldOf yX7_soldOf) ∈ xA := xI7 (List.mem_of_getElem? (i := 167) rfl) rfl
theorem w7_168 : (Cond.code yX7_soldOf cX7_soldOf 2 (some FieldType.int)) ∈ xA := xI7 (List.mem_of_getElem? (i := 168) rfl) rfl
theorem w7_169 : (Cond.methodLink RL 241 yX7_lostOf) ∈ xA := xI7 (List.mem_of_getElem? (i := 169) rfl) rfl
theorem w7_170 : (Cond.instanceMethod yX7_lostOf) ∈ xA := xI7 (List.mem_of_getElem? (i := 170) rfl) rfl
theorem w7_171 : (Cond.selects RX7 yX7_lostOf yX7_lostOf) ∈ xA := xI7 (List.mem_of_getElem? (i := 171) rfl) rfl
theorem w7_172 : (Cond.code yX7_lostOf cX7_lostOf 2 (some FieldType.int)) ∈ xA := xI7 (List.mem_of_getElem? (i := 172) rfl) rfl
theorem w7_173 : (Cond.methodLink RL 244 yX7_earnings) ∈ xA := xI7 (List.mem_of_getElem? (i := 173) rfl) rfl
theorem w7_174 : (Cond.instanceMethod yX7_earnings) ∈ xA := xI7 (List.mem_of_getElem? (i := 174) rfl) rfl
theorem w7_175 : (Cond.selects RX7 yX7_earnings yX7_earnings) ∈ xA := xI7 (List.mem_of_getElem? (i := 175) rfl) rfl
theorem w7_176 : (Cond.code yX7_earnings cX7_earnings 2 (some FieldType.int)) ∈ xA := xI7 (List.mem_of_getElem? (i := 176) rfl) rfl
theorem w7_177 : (Cond.methodLink RL 248 yX7_reach) ∈ xA := xI7 (List.mem_of_getElem? (i := 177) rfl) rfl
theorem w7_178 : (Cond.instanceMethod yX7_reach) ∈ xA := xI7 (List.mem_of_getElem? (i := 178) rfl) rfl
theorem w7_179 : (Cond.selects RX7 yX7_reach yX7_reach) ∈ xA := xI7 (List.mem_of_getElem? (i := 179) rfl) rfl
theorem w7_180 : (Cond.code yX7_reach cX7_reach 3 (some FieldType.int)) ∈ xA := xI7 (List.mem_of_getElem? (i := 180) rfl) rfl
theorem w7_181 : (Cond.methodLink RL 251 yX7_seenFrom) ∈ xA := xI7 (List.mem_of_getElem? (i := 181) rfl) rfl
theorem w7_182 : (Cond.instanceMethod yX7_seenFrom) ∈ xA := xI7 (List.mem_of_getElem? (i := 182) rfl) rfl
theorem w7_183 : (Cond.selects RX7 yX7_seenFrom yX7_seenFrom) ∈ xA := xI7 (List.mem_of_getElem? (i := 183) rfl) rfl
theorem w7_184 : (Cond.code yX7_seenFrom cX7_seenFrom 4 (some FieldType.int)) ∈ xA := xI7 (List.mem_of_getElem? (i := 184) rfl) rfl
theorem w7_185 : (Cond.methodLink RL 255 yX7_buyerCount) ∈ xA := xI7 (List.mem_of_getElem? (i := 185) rfl) rfl
theorem w7_186 : (Cond.instanceMethod yX7_buyerCount) ∈ xA := xI7 (List.mem_of_getElem? (i := 186) rfl) rfl
theorem w7_187 : (Cond.selects RX7 yX7_buyerCount yX7_buyerCount) ∈ xA := xI7 (List.mem_of_getElem? (i := 187) rfl) rfl
theorem w7_188 : (Cond.code yX7_buyerCount cX7_buyerCount 1 (some FieldType.int)) ∈ xA := xI7 (List.mem_of_getElem? (i := 188) rfl) rfl
theorem w7_189 : (Cond.methodLink RL 258 yX7_placeOf) ∈ xA := xI7 (List.mem_of_getElem? (i := 189) rfl) rfl
theorem w7_190 : (Cond.instanceMethod yX7_placeOf) ∈ xA := xI7 (List.mem_of_getElem? (i := 190) rfl) rfl
theorem w7_191 : (Cond.selects RX7 yX7_placeOf yX7_placeOf) ∈ xA := xI7 (List.mem_of_getElem? (i := 191) rfl) rfl
theorem w7_192 : (Cond.code yX7_placeOf cX7_placeOf 2 (some FieldType.int)) ∈ xA := xI7 (List.mem_of_getElem? (i := 192) rfl) rfl
theorem w7_193 : (Cond.methodLink RX7 323 yX7_askedOf) ∈ xA := xI7 (List.mem_of_getElem? (i := 193) rfl) rfl
theorem w7_195 : (Cond.instanceMethod yX7_askedOf) ∈ xA := xI7 (List.mem_of_getElem? (i := 195) rfl) rfl
theorem w7_196 : (Cond.code yX7_askedOf cX7_askedOf 3 (some FieldType.int)) ∈ xA := xI7 (List.mem_of_getElem? (i := 196) rfl) rfl
theorem w7_197 : (Cond.methodLink RX7 314 yX7_isBuyer) ∈ xA := xI7 (List.mem_of_getElem? (i := 197) rfl) rfl
theorem w7_199 : (Cond.instanceMethod yX7_isBuyer) ∈ xA := xI7 (List.mem_of_getElem? (i := 199) rfl) rfl
theorem w7_200 : (Cond.code yX7_isBuyer cX7_isBuyer 2 (some FieldType.boolean)) ∈ xA := xI7 (List.mem_of_getElem? (i := 200) rfl) rfl
theorem w7_201 : (Cond.methodLink RL 261 yX7_coinsOf) ∈ xA := xI7 (List.mem_of_getElem? (i := 201) rfl) rfl
theorem w7_202 : (Cond.instanceMethod yX7_coinsOf) ∈ xA := xI7 (List.mem_of_getElem? (i := 202) rfl) rfl
theorem w7_203 : (Cond.selects RX7 yX7_coinsOf yX7_coinsOf) ∈ xA := xI7 (List.mem_of_getElem? (i := 203) rfl) rfl
theorem w7_204 : (Cond.code yX7_coinsOf cX7_coinsOf 2 (some FieldType.int)) ∈ xA := xI7 (List.mem_of_getElem? (i := 204) rfl) rfl
theorem w7_205 : (Cond.methodLink RL 264 yX7_wantedTexture) ∈ xA := xI7 (List.mem_of_getElem? (i := 205) rfl) rfl
theorem w7_206 : (Cond.instanceMethod yX7_wantedTexture) ∈ xA := xI7 (List.mem_of_getElem? (i := 206) rfl) rfl
theorem w7_207 : (Cond.selects RX7 yX7_wantedTexture yX7_wantedTexture) ∈ xA := xI7 (List.mem_of_getElem? (i := 207) rfl) rfl
theorem w7_208 : (Cond.code yX7_wantedTexture cX7_wantedTexture 2 (some FieldType.int)) ∈ xA := xI7 (List.mem_of_getElem? (i := 208) rfl) rfl
theorem w7_209 : (Cond.methodLink RL 267 yX7_speedOf) ∈ xA := xI7 (List.mem_of_getElem? (i := 209) rfl) rfl
theorem w7_210 : (Cond.instanceMethod yX7_speedOf) ∈ xA := xI7 (List.mem_of_getElem? (i := 210) rfl) rfl
theorem w7_211 : (Cond.selects RX7 yX7_speedOf yX7_speedOf) ∈ xA := xI7 (List.mem_of_getElem? (i := 211) rfl) rfl
theorem w7_212 : (Cond.code yX7_speedOf cX7_speedOf 2 (some FieldType.int)) ∈ xA := xI7 (List.mem_of_getElem? (i := 212) rfl) rfl
theorem w7_213 : (Cond.methodLink RL 270 yX7_heldFrom) ∈ xA := xI7 (List.mem_of_getElem? (i := 213) rfl) rfl
theorem w7_214 : (Cond.instanceMethod yX7_heldFrom) ∈ xA := xI7 (List.mem_of_getElem? (i := 214) rfl) rfl
theorem w7_215 : (Cond.selects RX7 yX7_heldFrom yX7_heldFrom) ∈ xA := xI7 (List.mem_of_getElem? (i := 215) rfl) rfl
theorem w7_216 : (Cond.code yX7_heldFrom cX7_heldFrom 2 (some FieldType.int)) ∈ xA := xI7 (List.mem_of_getElem? (i := 216) rfl) rfl
theorem w7_217 : (Cond.methodLink RL 273 yX7_debtOf) ∈ xA := xI7 (List.mem_of_getElem? (i := 217) rfl) rfl
theorem w7_218 : (Cond.instanceMethod yX7_debtOf) ∈ xA := xI7 (List.mem_of_getElem? (i := 218) rfl) rfl
theorem w7_219 : (Cond.selects RX7 yX7_debtOf yX7_debtOf) ∈ xA := xI7 (List.mem_of_getElem? (i := 219) rfl) rfl
theorem w7_220 : (Cond.code yX7_debtOf cX7_debtOf 2 (some FieldType.int)) ∈ xA := xI7 (List.mem_of_getElem? (i := 220) rfl) rfl
theorem w7_221 : (Cond.methodLink RL 276 yX7_avoidedBy) ∈ xA := xI7 (List.mem_of_getElem? (i := 221) rfl) rfl
theorem w7_222 : (Cond.instanceMethod yX7_avoidedBy) ∈ xA := xI7 (List.mem_of_getElem? (i := 222) rfl) rfl
theorem w7_223 : (Cond.selects RX7 yX7_avoidedBy yX7_avoidedBy) ∈ xA := xI7 (List.mem_of_getElem? (i := 223) rfl) rfl
theorem w7_224 : (Cond.code yX7_avoidedBy cX7_avoidedBy 2 (some FieldType.int)) ∈ xA := xI7 (List.mem_of_getElem? (i := 224) rfl) rfl
theorem w7_225 : (Cond.methodLink RL 279 yX7_boughtBy) ∈ xA := xI7 (List.mem_of_getElem? (i := 225) rfl) rfl
theorem w7_226 : (Cond.instanceMethod yX7_boughtBy) ∈ xA := xI7 (List.mem_of_getElem? (i := 226) rfl) rfl
theorem w7_227 : (Cond.selects RX7 yX7_boughtBy yX7_boughtBy) ∈ xA := xI7 (List.mem_of_getElem? (i := 227) rfl) rfl
theorem w7_228 : (Cond.code yX7_boughtBy cX7_boughtBy 2 (some FieldType.int)) ∈ xA := xI7 (List.mem_of_getElem? (i := 228) rfl) rfl
theorem w7_229 : (Cond.methodLink RL 282 yX7_targetOf) ∈ xA := xI7 (List.mem_of_getElem? (i := 229) rfl) rfl
theorem w7_230 : (Cond.instanceMethod yX7_targetOf) ∈ xA := xI7 (List.mem_of_getElem? (i := 230) rfl) rfl
theorem w7_231 : (Cond.selects RX7 yX7_targetOf yX7_targetOf) ∈ xA := xI7 (List.mem_of_getElem? (i := 231) rfl) rfl
theorem w7_232 : (Cond.code yX7_targetOf cX7_targetOf 2 (some FieldType.int)) ∈ xA := xI7 (List.mem_of_getElem? (i := 232) rfl) rfl
theorem w7_233 : (Cond.methodLink RL 285 yX7_touch) ∈ xA := xI7 (List.mem_of_getElem? (i := 233) rfl) rfl
theorem w7_234 : (Cond.instanceMethod yX7_touch) ∈ xA := xI7 (List.mem_of_getElem? (i := 234) rfl) rfl
theorem w7_235 : (Cond.selects RX7 yX7_touch yX7_touch) ∈ xA := xI7 (List.mem_of_getElem? (i := 235) rfl) rfl
theorem w7_236 : (Cond.code yX7_touch cX7_touch 3 (some FieldType.int)) ∈ xA := xI7 (List.mem_of_getElem? (i := 236) rfl) rfl
theorem w7_237 : (Cond.methodLink RL 289 yX7_coinsInAll) ∈ xA := xI7 (List.mem_of_getElem? (i := 237) rfl) rfl
theorem w7_238 : (Cond.instanceMethod yX7_coinsInAll) ∈ xA := xI7 (List.mem_of_getElem? (i := 238) rfl) rfl
theorem w7_239 : (Cond.selects RX7 yX7_coinsInAll yX7_coinsInAll) ∈ xA := xI7 (List.mem_of_getElem? (i := 239) rfl) rfl
theorem w8_0 : (Cond.code yX7_coinsInAll cX7_coinsInAll 3 (some FieldType.int)) ∈ xA := xI8 (List.mem_of_getElem? (i := 0) rfl) rfl
theorem w8_1 : (Cond.methodLink RX7 326 yX7_sumOf) ∈ xA := xI8 (List.mem_of_getElem? (i := 1) rfl) rfl
theorem w8_3 : (Cond.instanceMethod yX7_sumOf) ∈ xA := xI8 (List.mem_of_getElem? (i := 3) rfl) rfl
theorem w8_4 : (Cond.code yX7_sumOf cX7_sumOf 4 (some FieldType.int)) ∈ xA := xI8 (List.mem_of_getElem? (i := 4) rfl) rfl
theorem w8_5 : (Cond.methodLink RL 293 yX7_consistencyError) ∈ xA := xI8 (List.mem_of_getElem? (i := 5) rfl) rfl
theorem w8_6 : (Cond.instanceMethod yX7_consistencyError) ∈ xA := xI8 (List.mem_of_getElem? (i := 6) rfl) rfl
theorem w8_7 : (Cond.selects RX7 yX7_consistencyError yX7_consistencyError) ∈ xA := xI8 (List.mem_of_getElem? (i := 7) rfl) rfl
theorem w8_8 : (Cond.code yX7_consistencyError cX7_consistencyError 3 (some FieldType.int)) ∈ xA := xI8 (List.mem_of_getElem? (i := 8) rfl) rfl
theorem w8_9 : (Cond.methodLink RX7 329 yJ9_abs_0f7a4) ∈ xA := xI8 (List.mem_of_getElem? (i := 9) rfl) rfl
theorem w8_10 : (Cond.methodLink RL 298 yX7_meanPaid) ∈ xA := xI8 (List.mem_of_getElem? (i := 10) rfl) rfl
theorem w8_11 : (Cond.instanceMethod yX7_meanPaid) ∈ xA := xI8 (List.mem_of_getElem? (i := 11) rfl) rfl
theorem w8_12 : (Cond.selects RX7 yX7_meanPaid yX7_meanPaid) ∈ xA := xI8 (List.mem_of_getElem? (i := 12) rfl) rfl
theorem w8_13 : (Cond.code yX7_meanPaid cX7_meanPaid 1 (some FieldType.double)) ∈ xA := xI8 (List.mem_of_getElem? (i := 13) rfl) rfl
theorem w8_14 : (Cond.methodLink RL 303 yX7_spoiledShare) ∈ xA := xI8 (List.mem_of_getElem? (i := 14) rfl) rfl
theorem w8_15 : (Cond.instanceMethod yX7_spoiledShare) ∈ xA := xI8 (List.mem_of_getElem? (i := 15) rfl) rfl
theorem w8_16 : (Cond.selects RX7 yX7_spoiledShare yX7_spoiledShare) ∈ xA := xI8 (List.mem_of_getElem? (i := 16) rfl) rfl
theorem w8_17 : (Cond.code yX7_spoiledShare cX7_spoiledShare 1 (some FieldType.float)) ∈ xA := xI8 (List.mem_of_getElem? (i := 17) rfl) rfl
theorem w8_18 : (Cond.methodLink RL 306 yX7_minutesToPay) ∈ xA := xI8 (List.mem_of_getElem? (i := 18) rfl) rfl
theorem w8_19 : (Cond.instanceMethod yX7_minutesToPay) ∈ xA := xI8 (List.mem_of_getElem? (i := 19) rfl) rfl
theorem w8_20 : (Cond.selects RX7 yX7_minutesToPay yX7_minutesToPay) ∈ xA := xI8 (List.mem_of_getElem? (i := 20) rfl) rfl
theorem w8_21 : (Cond.code yX7_minutesToPay cX7_minutesToPay 5 (some FieldType.int)) ∈ xA := xI8 (List.mem_of_getElem? (i := 21) rfl) rfl
theorem w8_22 : (Cond.methodLink RL 319 yX7_nextPayer) ∈ xA := xI8 (List.mem_of_getElem? (i := 22) rfl) rfl
theorem w8_23 : (Cond.instanceMethod yX7_nextPayer) ∈ xA := xI8 (List.mem_of_getElem? (i := 23) rfl) rfl
theorem w8_24 : (Cond.selects RX7 yX7_nextPayer yX7_nextPayer) ∈ xA := xI8 (List.mem_of_getElem? (i := 24) rfl) rfl
theorem w8_25 : (Cond.code yX7_nextPayer cX7_nextPayer 5 (some FieldType.int)) ∈ xA := xI8 (List.mem_of_getElem? (i := 25) rfl) rfl
theorem w8_26 : (Cond.methodLink RL 323 yX7_bestBellPosition) ∈ xA := xI8 (List.mem_of_getElem? (i := 26) rfl) rfl
theorem w8_27 : (Cond.instanceMethod yX7_bestBellPosition) ∈ xA := xI8 (List.mem_of_getElem? (i := 27) rfl) rfl
theorem w8_28 : (Cond.selects RX7 yX7_bestBellPosition yX7_bestBellPosition) ∈ xA := xI8 (List.mem_of_getElem? (i := 28) rfl) rfl
theorem w8_29 : (Cond.code yX7_bestBellPosition cX7_bestBellPosition 6 (some FieldType.int)) ∈ xA := xI8 (List.mem_of_getElem? (i := 29) rfl) rfl
theorem w8_30 : (Cond.methodLink RL 309 yX7_earningsAfter) ∈ xA := xI8 (List.mem_of_getElem? (i := 30) rfl) rfl
theorem w8_31 : (Cond.instanceMethod yX7_earningsAfter) ∈ xA := xI8 (List.mem_of_getElem? (i := 31) rfl) rfl
theorem w8_32 : (Cond.selects RX7 yX7_earningsAfter yX7_earningsAfter) ∈ xA := xI8 (List.mem_of_getElem? (i := 32) rfl) rfl
theorem w8_33 : (Cond.code yX7_earningsAfter cX7_earningsAfter 3 (some FieldType.int)) ∈ xA := xI8 (List.mem_of_getElem? (i := 33) rfl) rfl
theorem w8_34 : (Cond.methodLink RX7 332 yX7_earnedIn) ∈ xA := xI8 (List.mem_of_getElem? (i := 34) rfl) rfl
theorem w8_36 : (Cond.instanceMethod yX7_earnedIn) ∈ xA := xI8 (List.mem_of_getElem? (i := 36) rfl) rfl
theorem w8_37 : (Cond.code yX7_earnedIn cX7_earnedIn 4 (some FieldType.int)) ∈ xA := xI8 (List.mem_of_getElem? (i := 37) rfl) rfl
theorem w8_38 : (Cond.methodLink RL 312 yX7_bestPrice) ∈ xA := xI8 (List.mem_of_getElem? (i := 38) rfl) rfl
theorem w8_39 : (Cond.instanceMethod yX7_bestPrice) ∈ xA := xI8 (List.mem_of_getElem? (i := 39) rfl) rfl
theorem w8_40 : (Cond.selects RX7 yX7_bestPrice yX7_bestPrice) ∈ xA := xI8 (List.mem_of_getElem? (i := 40) rfl) rfl
theorem w8_41 : (Cond.code yX7_bestPrice cX7_bestPrice 2 (some FieldType.int)) ∈ xA := xI8 (List.mem_of_getElem? (i := 41) rfl) rfl
theorem w8_42 : (Cond.methodLink RX7 335 yX7_best) ∈ xA := xI8 (List.mem_of_getElem? (i := 42) rfl) rfl
theorem w8_44 : (Cond.instanceMethod yX7_best) ∈ xA := xI8 (List.mem_of_getElem? (i := 44) rfl) rfl
theorem w8_45 : (Cond.code yX7_best cX7_best 9 (some FieldType.int)) ∈ xA := xI8 (List.mem_of_getElem? (i := 45) rfl) rfl
theorem w8_46 : (Cond.methodLink RL 315 yX7_bestLantern) ∈ xA := xI8 (List.mem_of_getElem? (i := 46) rfl) rfl
theorem w8_47 : (Cond.instanceMethod yX7_bestLantern) ∈ xA := xI8 (List.mem_of_getElem? (i := 47) rfl) rfl
theorem w8_48 : (Cond.selects RX7 yX7_bestLantern yX7_bestLantern) ∈ xA := xI8 (List.mem_of_getElem? (i := 48) rfl) rfl
theorem w8_49 : (Cond.code yX7_bestLantern cX7_bestLantern 2 (some FieldType.int)) ∈ xA := xI8 (List.mem_of_getElem? (i := 49) rfl) rfl
theorem w8_50 : (Cond.methodLink RL 327 yX7_addStall) ∈ xA := xI8 (List.mem_of_getElem? (i := 50) rfl) rfl
theorem w8_51 : (Cond.instanceMethod yX7_addStall) ∈ xA := xI8 (List.mem_of_getElem? (i := 51) rfl) rfl
theorem w8_52 : (Cond.selects RX7 yX7_addStall yX7_addStall) ∈ xA := xI8 (List.mem_of_getElem? (i := 52) rfl) rfl
theorem w8_53 : (Cond.code yX7_addStall cX7_addStall 7 (some FieldType.int)) ∈ xA := xI8 (List.mem_of_getElem? (i := 53) rfl) rfl
theorem w8_54 : (Cond.methodLink RX7 338 yX7_record) ∈ xA := xI8 (List.mem_of_getElem? (i := 54) rfl) rfl
theorem w8_56 : (Cond.instanceMethod yX7_record) ∈ xA := xI8 (List.mem_of_getElem? (i := 56) rfl) rfl
theorem w8_57 : (Cond.code yX7_record cX7_record 2 none) ∈ xA := xI8 (List.mem_of_getElem? (i := 57) rfl) rfl
theorem w8_58 : (Cond.methodLink RL 331 yX7_addBuyer) ∈ xA := xI8 (List.mem_of_getElem? (i := 58) rfl) rfl
theorem w8_59 : (Cond.instanceMethod yX7_addBuyer) ∈ xA := xI8 (List.mem_of_getElem? (i := 59) rfl) rfl
theorem w8_60 : (Cond.selects RX7 yX7_addBuyer yX7_addBuyer) ∈ xA := xI8 (List.mem_of_getElem? (i := 60) rfl) rfl
theorem w8_61 : (Cond.code yX7_addBuyer cX7_addBuyer 6 (some FieldType.int)) ∈ xA := xI8 (List.mem_of_getElem? (i := 61) rfl) rfl
theorem w8_62 : (Cond.methodLink RL 334 yX7_setPrice) ∈ xA := xI8 (List.mem_of_getElem? (i := 62) rfl) rfl
theorem w8_63 : (Cond.instanceMethod yX7_setPrice) ∈ xA := xI8 (List.mem_of_getElem? (i := 63) rfl) rfl
theorem w8_64 : (Cond.selects RX7 yX7_setPrice yX7_setPrice) ∈ xA := xI8 (List.mem_of_getElem? (i := 64) rfl) rfl
theorem w8_65 : (Cond.code yX7_setPrice cX7_setPrice 3 (some FieldType.int)) ∈ xA := xI8 (List.mem_of_getElem? (i := 65) rfl) rfl
theorem w8_66 : (Cond.methodLink RL 337 yX7_addStock) ∈ xA := xI8 (List.mem_of_getElem? (i := 66) rfl) rfl
theorem w8_67 : (Cond.instanceMethod yX7_addStock) ∈ xA := xI8 (List.mem_of_getElem? (i := 67) rfl) rfl
theorem w8_68 : (Cond.selects RX7 yX7_addStock yX7_addStock) ∈ xA := xI8 (List.mem_of_getElem? (i := 68) rfl) rfl
theorem w8_69 : (Cond.code yX7_addStock cX7_addStock 3 (some FieldType.int)) ∈ xA := xI8 (List.mem_of_getElem? (i := 69) rfl) rfl
theorem w8_70 : (Cond.methodLink RL 340 yX7_setLantern) ∈ xA := xI8 (List.mem_of_getElem? (i := 70) rfl) rfl
theorem w8_71 : (Cond.instanceMethod yX7_setLantern) ∈ xA := xI8 (List.mem_of_getElem? (i := 71) rfl) rfl
theorem w8_72 : (Cond.selects RX7 yX7_setLantern yX7_setLantern) ∈ xA := xI8 (List.mem_of_getElem? (i := 72) rfl) rfl
theorem w8_73 : (Cond.code yX7_setLantern cX7_setLantern 3 (some FieldType.int)) ∈ xA := xI8 (List.mem_of_getElem? (i := 73) rfl) rfl
theorem w8_74 : (Cond.methodLink RL 343 yX7_moveStall) ∈ xA := xI8 (List.mem_of_getElem? (i := 74) rfl) rfl
theorem w8_75 : (Cond.instanceMethod yX7_moveStall) ∈ xA := xI8 (List.mem_of_getElem? (i := 75) rfl) rfl
theorem w8_76 : (Cond.selects RX7 yX7_moveStall yX7_moveStall) ∈ xA := xI8 (List.mem_of_getElem? (i := 76) rfl) rfl
theorem w8_77 : (Cond.code yX7_moveStall cX7_moveStall 3 (some FieldType.int)) ∈ xA := xI8 (List.mem_of_getElem? (i := 77) rfl) rfl
theorem w8_78 : (Cond.methodLink RL 346 yX7_setFog) ∈ xA := xI8 (List.mem_of_getElem? (i := 78) rfl) rfl
theorem w8_79 : (Cond.instanceMethod yX7_setFog) ∈ xA := xI8 (List.mem_of_getElem? (i := 79) rfl) rfl
theorem w8_80 : (Cond.selects RX7 yX7_setFog yX7_setFog) ∈ xA := xI8 (List.mem_of_getElem? (i := 80) rfl) rfl
theorem w8_81 : (Cond.code yX7_setFog cX7_setFog 3 (some FieldType.int)) ∈ xA := xI8 (List.mem_of_getElem? (i := 81) rfl) rfl
theorem w8_82 : (Cond.methodLink RL 349 yX7_putBack) ∈ xA := xI8 (List.mem_of_getElem? (i := 82) rfl) rfl
theorem w8_83 : (Cond.instanceMethod yX7_putBack) ∈ xA := xI8 (List.mem_of_getElem? (i := 83) rfl) rfl
theorem w8_84 : (Cond.selects RX7 yX7_putBack yX7_putBack) ∈ xA := xI8 (List.mem_of_getElem? (i := 84) rfl) rfl
theorem w8_85 : (Cond.code yX7_putBack cX7_putBack 2 (some FieldType.int)) ∈ xA := xI8 (List.mem_of_getElem? (i := 85) rfl) rfl
theorem w8_86 : (Cond.methodLink RL 352 yX7_passMinutes) ∈ xA := xI8 (List.mem_of_getElem? (i := 86) rfl) rfl
theorem w8_87 : (Cond.instanceMethod yX7_passMinutes) ∈ xA := xI8 (List.mem_of_getElem? (i := 87) rfl) rfl
theorem w8_88 : (Cond.selects RX7 yX7_passMinutes yX7_passMinutes) ∈ xA := xI8 (List.mem_of_getElem? (i := 88) rfl) rfl
theorem w8_89 : (Cond.code yX7_passMinutes cX7_passMinutes 2 (some FieldType.int)) ∈ xA := xI8 (List.mem_of_getElem? (i := 89) rfl) rfl
theorem w8_90 : (Cond.methodLink RL 356 yX7_undo) ∈ xA := xI8 (List.mem_of_getElem? (i := 90) rfl) rfl
theorem w8_91 : (Cond.instanceMethod yX7_undo) ∈ xA := xI8 (List.mem_of_getElem? (i := 91) rfl) rfl
theorem w8_92 : (Cond.selects RX7 yX7_undo yX7_undo) ∈ xA := xI8 (List.mem_of_getElem? (i := 92) rfl) rfl
theorem w8_93 : (Cond.code yX7_undo cX7_undo 2 (some FieldType.int)) ∈ xA := xI8 (List.mem_of_getElem? (i := 93) rfl) rfl
theorem w8_94 : (Cond.methodLink RL 359 yX7_save) ∈ xA := xI8 (List.mem_of_getElem? (i := 94) rfl) rfl
theorem w8_95 : (Cond.instanceMethod yX7_save) ∈ xA := xI8 (List.mem_of_getElem? (i := 95) rfl) rfl
theorem w8_96 : (Cond.selects RX7 yX7_save yX7_save) ∈ xA := xI8 (List.mem_of_getElem? (i := 96) rfl) rfl
theorem w8_97 : (Cond.code yX7_save cX7_save 3 (some FieldType.int)) ∈ xA := xI8 (List.mem_of_getElem? (i := 97) rfl) rfl
theorem w8_98 : (Cond.methodLink RL 362 yX7_restore) ∈ xA := xI8 (List.mem_of_getElem? (i := 98) rfl) rfl
theorem w8_99 : (Cond.instanceMethod yX7_restore) ∈ xA := xI8 (List.mem_of_getElem? (i := 99) rfl) rfl
theorem w8_100 : (Cond.selects RX7 yX7_restore yX7_restore) ∈ xA := xI8 (List.mem_of_getElem? (i := 100) rfl) rfl
theorem w8_101 : (Cond.code yX7_restore cX7_restore 3 (some FieldType.int)) ∈ xA := xI8 (List.mem_of_getElem? (i := 101) rfl) rfl
theorem w8_102 : (Cond.methodLink RL 366 yX7_writeRope) ∈ xA := xI8 (List.mem_of_getElem? (i := 102) rfl) rfl
theorem w8_103 : (Cond.instanceMethod yX7_writeRope) ∈ xA := xI8 (List.mem_of_getElem? (i := 103) rfl) rfl
theorem w8_104 : (Cond.selects RX7 yX7_writeRope yX7_writeRope) ∈ xA := xI8 (List.mem_of_getElem? (i := 104) rfl) rfl
theorem w8_105 : (Cond.code yX7_writeRope cX7_writeRope 2 (some FieldType.int)) ∈ xA := xI8 (List.mem_of_getElem? (i := 105) rfl) rfl
theorem w8_106 : (Cond.methodLink RX7 344 yX7_signAt) ∈ xA := xI8 (List.mem_of_getElem? (i := 106) rfl) rfl
theorem w8_108 : (Cond.instanceMethod yX7_signAt) ∈ xA := xI8 (List.mem_of_getElem? (i := 108) rfl) rfl
theorem w8_109 : (Cond.code yX7_signAt cX7_signAt 3 (some FieldType.int)) ∈ xA := xI8 (List.mem_of_getElem? (i := 109) rfl) rfl
theorem w8_110 : (Cond.methodLink RL 370 yX7_outputByte) ∈ xA := xI8 (List.mem_of_getElem? (i := 110) rfl) rfl
theorem w8_111 : (Cond.instanceMethod yX7_outputByte) ∈ xA := xI8 (List.mem_of_getElem? (i := 111) rfl) rfl
theorem w8_112 : (Cond.selects RX7 yX7_outputByte yX7_outputByte) ∈ xA := xI8 (List.mem_of_getElem? (i := 112) rfl) rfl
theorem w8_113 : (Cond.code yX7_outputByte cX7_outputByte 2 (some FieldType.int)) ∈ xA := xI8 (List.mem_of_getElem? (i := 113) rfl) rfl
theorem w8_114 : (Cond.arrayClass FieldType.long) ∈ xA := xI8 (List.mem_of_getElem? (i := 114) rfl) rfl
theorem w8_115 : (Cond.sameMethod "java/lang/Throwable" "java/lang/Throwable" "fillInStackTrace" "(I)Ljava/lang/Throwable;") ∈ xA := xI8 (List.mem_of_getElem? (i := 115) rfl) rfl
theorem w8_129 : (Cond.fieldLink RJ0 9 "java/lang/String" "value" "[B") ∈ xA := xI8 (List.mem_of_getElem? (i := 129) rfl) rfl
theorem w8_130 : (Cond.fieldLink RJ0 15 "java/lang/String" "coder" "B") ∈ xA := xI8 (List.mem_of_getElem? (i := 130) rfl) rfl
theorem w8_131 : (Cond.fieldLink RX3 112 "FogBellMarket$Verb" "word" "Ljava/lang/String;") ∈ xA := xI8 (List.mem_of_getElem? (i := 131) rfl) rfl
theorem w8_132 : (Cond.fieldLink RX3 98 "FogBellMarket$Verb" "kinds" "Ljava/lang/String;") ∈ xA := xI8 (List.mem_of_getElem? (i := 132) rfl) rfl
theorem w8_133 : (Cond.fieldLink RJx29ce0 7 "java/lang/Enum" "ordinal" "I") ∈ xA := xI8 (List.mem_of_getElem? (i := 133) rfl) rfl
theorem wp1_0 : (Cond.selects RX3 yX3_appendByte yX3_appendByte) ∈ xA := xS1 (List.mem_of_getElem? (i := 0) rfl) rfl
theorem wp1_1 : (Cond.selects RX6 yX6_replaceMarket yX6_replaceMarket) ∈ xA := xS1 (List.mem_of_getElem? (i := 1) rfl) rfl
theorem wp1_2 : (Cond.selects RX3 yX3_readWord yX3_readWord) ∈ xA := xS1 (List.mem_of_getElem? (i := 2) rfl) rfl
theorem wp1_3 : (Cond.selects RX3 yX3_readToken yX3_readToken) ∈ xA := xS1 (List.mem_of_getElem? (i := 3) rfl) rfl
theorem wp1_4 : (Cond.selects RX3 yX3_byteAt yX3_byteAt) ∈ xA := xS1 (List.mem_of_getElem? (i := 4) rfl) rfl
theorem wp1_5 : (Cond.selects RX3 yX3_readDigits yX3_readDigits) ∈ xA := xS1 (List.mem_of_getElem? (i := 5) rfl) rfl
theorem wp1_6 : (Cond.selects RX3 yX3_isWord yX3_isWord) ∈ xA := xS1 (List.mem_of_getElem? (i := 6) rfl) rfl
theorem wp1_7 : (Cond.selects RX3 yX3_fail yX3_fail) ∈ xA := xS1 (List.mem_of_getElem? (i := 7) rfl) rfl
theorem wp1_8 : (Cond.selects RX3 yX3_readNumber yX3_readNumber) ∈ xA := xS1 (List.mem_of_getElem? (i := 8) rfl) rfl
theorem wp1_9 : (Cond.selects RX3 yX3_isNumberFrom yX3_isNumberFrom) ∈ xA := xS1 (List.mem_of_getElem? (i := 9) rfl) rfl
theorem wp1_10 : (Cond.selects RX3 yX3_readSemicolon yX3_readSemicolon) ∈ xA := xS1 (List.mem_of_getElem? (i := 10) rfl) rfl
theorem wp1_11 : (Cond.selects RX3 yX3_readFog yX3_readFog) ∈ xA := xS1 (List.mem_of_getElem? (i := 11) rfl) rfl
theorem wp1_12 : (Cond.selects RX6 yX6_readCommands yX6_readCommands) ∈ xA := xS1 (List.mem_of_getElem? (i := 12) rfl) rfl
theorem wp1_13 : (Cond.selects RX3 yX3_verbRead yX3_verbRead) ∈ xA := xS1 (List.mem_of_getElem? (i := 13) rfl) rfl
theorem wp1_14 : (Cond.selects RX3 yX3_hasNoRoom yX3_hasNoRoom) ∈ xA := xS1 (List.mem_of_getElem? (i := 14) rfl) rfl
theorem wp1_15 : (Cond.selects RX3 yX3_readArgument yX3_readArgument) ∈ xA := xS1 (List.mem_of_getElem? (i := 15) rfl) rfl
theorem wp2_0 : (Cond.selects RX3 yX3_lanternRead yX3_lanternRead) ∈ xA := xS2 (List.mem_of_getElem? (i := 0) rfl) rfl
theorem wp2_1 : (Cond.selects RX3 yX3_textureRead yX3_textureRead) ∈ xA := xS2 (List.mem_of_getElem? (i := 1) rfl) rfl
theorem wp2_2 : (Cond.selects RX3 yX3_keepArgument yX3_keepArgument) ∈ xA := xS2 (List.mem_of_getElem? (i := 2) rfl) rfl
theorem wp2_3 : (Cond.selects RX3 yX3_isRefusedBy yX3_isRefusedBy) ∈ xA := xS2 (List.mem_of_getElem? (i := 3) rfl) rfl
theorem wp2_4 : (Cond.selects RX2 yX2_letAct yX2_letAct) ∈ xA := xS2 (List.mem_of_getElem? (i := 4) rfl) rfl
theorem wp2_5 : (Cond.selects RX4 yX4_guardedDensity yX4_guardedDensity) ∈ xA := xS2 (List.mem_of_getElem? (i := 5) rfl) rfl
theorem wp2_6 : (Cond.selects RX6 yX6_forgetChanges yX6_forgetChanges) ∈ xA := xS2 (List.mem_of_getElem? (i := 6) rfl) rfl
theorem wp2_7 : (Cond.selects RX6 yX6_remember yX6_remember) ∈ xA := xS2 (List.mem_of_getElem? (i := 7) rfl) rfl
theorem wp2_8 : (Cond.selects RX6 yX6_drawOnRope yX6_drawOnRope) ∈ xA := xS2 (List.mem_of_getElem? (i := 8) rfl) rfl
theorem wp2_10 : (Cond.selects RX6 yX6_stallAt yX6_stallAt) ∈ xA := xS2 (List.mem_of_getElem? (i := 10) rfl) rfl
theorem wp2_11 : (Cond.selects RX6 yX6_checkStall yX6_checkStall) ∈ xA := xS2 (List.mem_of_getElem? (i := 11) rfl) rfl
theorem wp2_12 : (Cond.selects RX6 yX6_buyerAt yX6_buyerAt) ∈ xA := xS2 (List.mem_of_getElem? (i := 12) rfl) rfl
theorem wp2_13 : (Cond.selects RX6 yX6_checkBuyer yX6_checkBuyer) ∈ xA := xS2 (List.mem_of_getElem? (i := 13) rfl) rfl
theorem wp2_14 : (Cond.selects RX7 yX7_startTrial yX7_startTrial) ∈ xA := xS2 (List.mem_of_getElem? (i := 14) rfl) rfl
theorem wp2_15 : (Cond.selects RX7 yX7_startText yX7_startText) ∈ xA := xS2 (List.mem_of_getElem? (i := 15) rfl) rfl
theorem wp3_0 : (Cond.selects RX7 yX7_next yX7_next) ∈ xA := xS3 (List.mem_of_getElem? (i := 0) rfl) rfl
theorem wp3_1 : (Cond.selects RX7 yX7_setupText yX7_setupText) ∈ xA := xS3 (List.mem_of_getElem? (i := 1) rfl) rfl
theorem wp3_2 : (Cond.selects RX7 yX7_expects yX7_expects) ∈ xA := xS3 (List.mem_of_getElem? (i := 2) rfl) rfl
theorem wp3_3 : (Cond.selects RX7 yX7_isWord yX7_isWord) ∈ xA := xS3 (List.mem_of_getElem? (i := 3) rfl) rfl
theorem wp3_4 : (Cond.selects RX7 yX7_wrong yX7_wrong) ∈ xA := xS3 (List.mem_of_getElem? (i := 4) rfl) rfl
theorem wp3_5 : (Cond.selects RX7 yX7_into yX7_into) ∈ xA := xS3 (List.mem_of_getElem? (i := 5) rfl) rfl
theorem wp3_6 : (Cond.selects RX7 yX7_numberIn yX7_numberIn) ∈ xA := xS3 (List.mem_of_getElem? (i := 6) rfl) rfl
theorem wp3_7 : (Cond.selects RX7 yX7_semicolon yX7_semicolon) ∈ xA := xS3 (List.mem_of_getElem? (i := 7) rfl) rfl
theorem wp3_8 : (Cond.selects RX7 yX7_isEnd yX7_isEnd) ∈ xA := xS3 (List.mem_of_getElem? (i := 8) rfl) rfl
theorem wp3_9 : (Cond.selects RX7 yX7_commandsText yX7_commandsText) ∈ xA := xS3 (List.mem_of_getElem? (i := 9) rfl) rfl
theorem wp3_10 : (Cond.selects RX7 yX7_commandHere yX7_commandHere) ∈ xA := xS3 (List.mem_of_getElem? (i := 10) rfl) rfl
theorem wp3_11 : (Cond.selects RX7 yX7_commandText yX7_commandText) ∈ xA := xS3 (List.mem_of_getElem? (i := 11) rfl) rfl
theorem wp3_12 : (Cond.selects RX7 yX7_argumentsText yX7_argumentsText) ∈ xA := xS3 (List.mem_of_getElem? (i := 12) rfl) rfl
theorem wp3_13 : (Cond.selects RX7 yX7_lanternInto yX7_lanternInto) ∈ xA := xS3 (List.mem_of_getElem? (i := 13) rfl) rfl
theorem wp3_14 : (Cond.selects RX7 yX7_wordRead yX7_wordRead) ∈ xA := xS3 (List.mem_of_getElem? (i := 14) rfl) rfl
theorem wp3_15 : (Cond.selects RX7 yX7_textureInto yX7_textureInto) ∈ xA := xS3 (List.mem_of_getElem? (i := 15) rfl) rfl
theorem wp4_0 : (Cond.selects RX7 yX7_holderInto yX7_holderInto) ∈ xA := xS4 (List.mem_of_getElem? (i := 0) rfl) rfl
theorem wp4_1 : (Cond.selects RX7 yX7_by yX7_by) ∈ xA := xS4 (List.mem_of_getElem? (i := 1) rfl) rfl
theorem wp4_2 : (Cond.selects RX7 yX7_stockInto yX7_stockInto) ∈ xA := xS4 (List.mem_of_getElem? (i := 2) rfl) rfl
theorem wp4_3 : (Cond.selects RX7 yX7_st yX7_st) ∈ xA := xS4 (List.mem_of_getElem? (i := 3) rfl) rfl
theorem wp4_4 : (Cond.selects RX7 yX7_does yX7_does) ∈ xA := xS4 (List.mem_of_getElem? (i := 4) rfl) rfl
theorem wp4_5 : (Cond.selects RX7 yX7_doStall yX7_doStall) ∈ xA := xS4 (List.mem_of_getElem? (i := 5) rfl) rfl
theorem wp4_6 : (Cond.selects RX7 yX7_more yX7_more) ∈ xA := xS4 (List.mem_of_getElem? (i := 6) rfl) rfl
theorem wp4_7 : (Cond.selects RX7 yX7_doBuyer yX7_doBuyer) ∈ xA := xS4 (List.mem_of_getElem? (i := 7) rfl) rfl
theorem wp4_8 : (Cond.selects RX7 yX7_put yX7_put) ∈ xA := xS4 (List.mem_of_getElem? (i := 8) rfl) rfl
theorem wp4_9 : (Cond.selects RX7 yX7_passAll yX7_passAll) ∈ xA := xS4 (List.mem_of_getElem? (i := 9) rfl) rfl
theorem wp4_10 : (Cond.selects RX7 yX7_passMinute yX7_passMinute) ∈ xA := xS4 (List.mem_of_getElem? (i := 10) rfl) rfl
theorem wp4_11 : (Cond.selects RX7 yX7_fogAt yX7_fogAt) ∈ xA := xS4 (List.mem_of_getElem? (i := 11) rfl) rfl
theorem wp4_12 : (Cond.selects RX7 yX7_stepBell yX7_stepBell) ∈ xA := xS4 (List.mem_of_getElem? (i := 12) rfl) rfl
theorem wp4_13 : (Cond.selects RX7 yX7_endBell yX7_endBell) ∈ xA := xS4 (List.mem_of_getElem? (i := 13) rfl) rfl
theorem wp4_14 : (Cond.selects RX7 yX7_giveBack yX7_giveBack) ∈ xA := xS4 (List.mem_of_getElem? (i := 14) rfl) rfl
theorem wp4_15 : (Cond.selects RX7 yX7_act yX7_act) ∈ xA := xS4 (List.mem_of_getElem? (i := 15) rfl) rfl
theorem wp5_0 : (Cond.selects RX7 yX7_walk yX7_walk) ∈ xA := xS5 (List.mem_of_getElem? (i := 0) rfl) rfl
theorem wp5_1 : (Cond.selects RX7 yX7_pay yX7_pay) ∈ xA := xS5 (List.mem_of_getElem? (i := 1) rfl) rfl
theorem wp5_2 : (Cond.selects RX7 yX7_target yX7_target) ∈ xA := xS5 (List.mem_of_getElem? (i := 2) rfl) rfl
theorem wp5_3 : (Cond.selects RX7 yX7_isSeen yX7_isSeen) ∈ xA := xS5 (List.mem_of_getElem? (i := 3) rfl) rfl
theorem wp5_4 : (Cond.selects RX7 yX7_takes yX7_takes) ∈ xA := xS5 (List.mem_of_getElem? (i := 4) rfl) rfl
theorem wp5_5 : (Cond.selects RX7 yX7_feel yX7_feel) ∈ xA := xS5 (List.mem_of_getElem? (i := 5) rfl) rfl
theorem wp5_6 : (Cond.selects RX7 yX7_lays yX7_lays) ∈ xA := xS5 (List.mem_of_getElem? (i := 6) rfl) rfl
theorem wp5_7 : (Cond.selects RX7 yX7_doBack yX7_doBack) ∈ xA := xS5 (List.mem_of_getElem? (i := 7) rfl) rfl
theorem wp5_8 : (Cond.selects RX7 yX7_doStock yX7_doStock) ∈ xA := xS5 (List.mem_of_getElem? (i := 8) rfl) rfl
theorem wp5_9 : (Cond.selects RX7 yX7_leaveTrial yX7_leaveTrial) ∈ xA := xS5 (List.mem_of_getElem? (i := 9) rfl) rfl
theorem wp5_10 : (Cond.selects RX7 yX7_pushAside yX7_pushAside) ∈ xA := xS5 (List.mem_of_getElem? (i := 10) rfl) rfl
theorem wp5_11 : (Cond.selects RX7 yX7_plain yX7_plain) ∈ xA := xS5 (List.mem_of_getElem? (i := 11) rfl) rfl
theorem wp5_12 : (Cond.selects RX7 yX7_fails yX7_fails) ∈ xA := xS5 (List.mem_of_getElem? (i := 12) rfl) rfl
theorem wp5_13 : (Cond.selects RX7 yX7_minutesTo yX7_minutesTo) ∈ xA := xS5 (List.mem_of_getElem? (i := 13) rfl) rfl
theorem wp5_14 : (Cond.selects RX7 yX7_asked yX7_asked) ∈ xA := xS5 (List.mem_of_getElem? (i := 14) rfl) rfl
theorem wp5_15 : (Cond.selects RX7 yX7_isStall yX7_isStall) ∈ xA := xS5 (List.mem_of_getElem? (i := 15) rfl) rfl
theorem wp6_0 : (Cond.selects RX7 yX7_held yX7_held) ∈ xA := xS6 (List.mem_of_getElem? (i := 0) rfl) rfl
theorem wp6_1 : (Cond.selects RX7 yX7_askedOf yX7_askedOf) ∈ xA := xS6 (List.mem_of_getElem? (i := 1) rfl) rfl
theorem wp6_2 : (Cond.selects RX7 yX7_isBuyer yX7_isBuyer) ∈ xA := xS6 (List.mem_of_getElem? (i := 2) rfl) rfl
theorem wp6_3 : (Cond.selects RX7 yX7_sumOf yX7_sumOf) ∈ xA := xS6 (List.mem_of_getElem? (i := 3) rfl) rfl
theorem wp6_4 : (Cond.selects RX7 yX7_earnedIn yX7_earnedIn) ∈ xA := xS6 (List.mem_of_getElem? (i := 4) rfl) rfl
theorem wp6_5 : (Cond.selects RX7 yX7_best yX7_best) ∈ xA := xS6 (List.mem_of_getElem? (i := 5) rfl) rfl
theorem wp6_6 : (Cond.selects RX7 yX7_record yX7_record) ∈ xA := xS6 (List.mem_of_getElem? (i := 6) rfl) rfl
theorem wp6_7 : (Cond.selects RX7 yX7_signAt yX7_signAt) ∈ xA := xS6 (List.mem_of_getElem? (i := 7) rfl) rfl
