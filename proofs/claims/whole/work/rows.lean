section
-- ===== PART A: goes FIRST, ahead of the names: the tables' words, and 'selects' of the private methods out of them =====
/-- a private method of a class that the tables say can be made, by its rows of tables_1 -/
def lw_okq (q : MethodName × Nat) : Prop := (q.1.cls ≠ "java/lang/invoke/MethodHandle" ∧ q.1.cls ≠ "java/lang/invoke/VarHandle") ∧ Cond.instantiable q.1.cls q.2 ∈ tables_1 ∧ Cond.privateMethod q.1 ∈ tables_1 ∧ Cond.instanceMethod q.1 ∈ tables_1
theorem lw_p0 : lw_okq (⟨"FogBellMarket$Reader", "appendByte", "(I)V"⟩, 10) := ⟨⟨by decide +kernel, by decide +kernel⟩, List.mem_of_getElem? (i := 198) (by decide +kernel), List.mem_of_getElem? (i := 294) (by decide +kernel), List.mem_of_getElem? (i := 295) (by decide +kernel)⟩
theorem lw_p1 : lw_okq (⟨"FogBellMarket", "replaceMarket", "()Z"⟩, 11) := ⟨⟨by decide +kernel, by decide +kernel⟩, List.mem_of_getElem? (i := 23) (by decide +kernel), List.mem_of_getElem? (i := 298) (by decide +kernel), List.mem_of_getElem? (i := 299) (by decide +kernel)⟩
theorem lw_p2 : lw_okq (⟨"FogBellMarket$Reader", "readWord", "(Ljava/lang/String;)Z"⟩, 10) := ⟨⟨by decide +kernel, by decide +kernel⟩, List.mem_of_getElem? (i := 198) (by decide +kernel), List.mem_of_getElem? (i := 311) (by decide +kernel), List.mem_of_getElem? (i := 312) (by decide +kernel)⟩
theorem lw_p3 : lw_okq (⟨"FogBellMarket$Reader", "readToken", "()V"⟩, 10) := ⟨⟨by decide +kernel, by decide +kernel⟩, List.mem_of_getElem? (i := 198) (by decide +kernel), List.mem_of_getElem? (i := 315) (by decide +kernel), List.mem_of_getElem? (i := 316) (by decide +kernel)⟩
theorem lw_p4 : lw_okq (⟨"FogBellMarket$Reader", "byteAt", "(I)I"⟩, 10) := ⟨⟨by decide +kernel, by decide +kernel⟩, List.mem_of_getElem? (i := 198) (by decide +kernel), List.mem_of_getElem? (i := 319) (by decide +kernel), List.mem_of_getElem? (i := 320) (by decide +kernel)⟩
theorem lw_p5 : lw_okq (⟨"FogBellMarket$Reader", "readDigits", "()V"⟩, 10) := ⟨⟨by decide +kernel, by decide +kernel⟩, List.mem_of_getElem? (i := 198) (by decide +kernel), List.mem_of_getElem? (i := 329) (by decide +kernel), List.mem_of_getElem? (i := 330) (by decide +kernel)⟩
theorem lw_p6 : lw_okq (⟨"FogBellMarket$Reader", "isWord", "(Ljava/lang/String;)Z"⟩, 10) := ⟨⟨by decide +kernel, by decide +kernel⟩, List.mem_of_getElem? (i := 198) (by decide +kernel), List.mem_of_getElem? (i := 334) (by decide +kernel), List.mem_of_getElem? (i := 335) (by decide +kernel)⟩
theorem lw_p7 : lw_okq (⟨"FogBellMarket$Reader", "fail", "(I)Z"⟩, 10) := ⟨⟨by decide +kernel, by decide +kernel⟩, List.mem_of_getElem? (i := 198) (by decide +kernel), List.mem_of_getElem? (i := 338) (by decide +kernel), List.mem_of_getElem? (i := 339) (by decide +kernel)⟩
theorem lw_p8 : lw_okq (⟨"FogBellMarket$Reader", "readNumber", "(II)Z"⟩, 10) := ⟨⟨by decide +kernel, by decide +kernel⟩, List.mem_of_getElem? (i := 198) (by decide +kernel), List.mem_of_getElem? (i := 342) (by decide +kernel), List.mem_of_getElem? (i := 343) (by decide +kernel)⟩
theorem lw_p9 : lw_okq (⟨"FogBellMarket$Reader", "isNumberFrom", "(II)Z"⟩, 10) := ⟨⟨by decide +kernel, by decide +kernel⟩, List.mem_of_getElem? (i := 198) (by decide +kernel), List.mem_of_getElem? (i := 346) (by decide +kernel), List.mem_of_getElem? (i := 347) (by decide +kernel)⟩
theorem lw_p10 : lw_okq (⟨"FogBellMarket$Reader", "readSemicolon", "()Z"⟩, 10) := ⟨⟨by decide +kernel, by decide +kernel⟩, List.mem_of_getElem? (i := 198) (by decide +kernel), List.mem_of_getElem? (i := 354) (by decide +kernel), List.mem_of_getElem? (i := 355) (by decide +kernel)⟩
theorem lw_p11 : lw_okq (⟨"FogBellMarket$Reader", "readFog", "(LFogBellMarket$Market;)Z"⟩, 10) := ⟨⟨by decide +kernel, by decide +kernel⟩, List.mem_of_getElem? (i := 198) (by decide +kernel), List.mem_of_getElem? (i := 359) (by decide +kernel), List.mem_of_getElem? (i := 360) (by decide +kernel)⟩
theorem lw_p12 : lw_okq (⟨"FogBellMarket", "readCommands", "()I"⟩, 11) := ⟨⟨by decide +kernel, by decide +kernel⟩, List.mem_of_getElem? (i := 23) (by decide +kernel), List.mem_of_getElem? (i := 367) (by decide +kernel), List.mem_of_getElem? (i := 368) (by decide +kernel)⟩
theorem lw_p13 : lw_okq (⟨"FogBellMarket$Reader", "verbRead", "()LFogBellMarket$Verb;"⟩, 10) := ⟨⟨by decide +kernel, by decide +kernel⟩, List.mem_of_getElem? (i := 198) (by decide +kernel), List.mem_of_getElem? (i := 375) (by decide +kernel), List.mem_of_getElem? (i := 376) (by decide +kernel)⟩
theorem lw_p14 : lw_okq (⟨"FogBellMarket$Reader", "hasNoRoom", "(LFogBellMarket$Market;)Z"⟩, 10) := ⟨⟨by decide +kernel, by decide +kernel⟩, List.mem_of_getElem? (i := 198) (by decide +kernel), List.mem_of_getElem? (i := 381) (by decide +kernel), List.mem_of_getElem? (i := 382) (by decide +kernel)⟩
theorem lw_p15 : lw_okq (⟨"FogBellMarket$Reader", "readArgument", "(LFogBellMarket$Market;CI)Z"⟩, 10) := ⟨⟨by decide +kernel, by decide +kernel⟩, List.mem_of_getElem? (i := 198) (by decide +kernel), List.mem_of_getElem? (i := 389) (by decide +kernel), List.mem_of_getElem? (i := 390) (by decide +kernel)⟩
def lw_privs_1 : List (MethodName × Nat) := [(⟨"FogBellMarket$Reader", "appendByte", "(I)V"⟩, 10), (⟨"FogBellMarket", "replaceMarket", "()Z"⟩, 11), (⟨"FogBellMarket$Reader", "readWord", "(Ljava/lang/String;)Z"⟩, 10), (⟨"FogBellMarket$Reader", "readToken", "()V"⟩, 10), (⟨"FogBellMarket$Reader", "byteAt", "(I)I"⟩, 10), (⟨"FogBellMarket$Reader", "readDigits", "()V"⟩, 10), (⟨"FogBellMarket$Reader", "isWord", "(Ljava/lang/String;)Z"⟩, 10), (⟨"FogBellMarket$Reader", "fail", "(I)Z"⟩, 10), (⟨"FogBellMarket$Reader", "readNumber", "(II)Z"⟩, 10), (⟨"FogBellMarket$Reader", "isNumberFrom", "(II)Z"⟩, 10), (⟨"FogBellMarket$Reader", "readSemicolon", "()Z"⟩, 10), (⟨"FogBellMarket$Reader", "readFog", "(LFogBellMarket$Market;)Z"⟩, 10), (⟨"FogBellMarket", "readCommands", "()I"⟩, 11), (⟨"FogBellMarket$Reader", "verbRead", "()LFogBellMarket$Verb;"⟩, 10), (⟨"FogBellMarket$Reader", "hasNoRoom", "(LFogBellMarket$Market;)Z"⟩, 10), (⟨"FogBellMarket$Reader", "readArgument", "(LFogBellMarket$Market;CI)Z"⟩, 10)]
theorem lw_r1 : ∀ q ∈ lw_privs_1, lw_okq q := List.forall_mem_cons.mpr ⟨lw_p0, List.forall_mem_cons.mpr ⟨lw_p1, List.forall_mem_cons.mpr ⟨lw_p2, List.forall_mem_cons.mpr ⟨lw_p3, List.forall_mem_cons.mpr ⟨lw_p4, List.forall_mem_cons.mpr ⟨lw_p5, List.forall_mem_cons.mpr ⟨lw_p6, List.forall_mem_cons.mpr ⟨lw_p7, List.forall_mem_cons.mpr ⟨lw_p8, List.forall_mem_cons.mpr ⟨lw_p9, List.forall_mem_cons.mpr ⟨lw_p10, List.forall_mem_cons.mpr ⟨lw_p11, List.forall_mem_cons.mpr ⟨lw_p12, List.forall_mem_cons.mpr ⟨lw_p13, List.forall_mem_cons.mpr ⟨lw_p14, List.forall_mem_cons.mpr ⟨lw_p15, fun _ h => absurd h List.not_mem_nil⟩⟩⟩⟩⟩⟩⟩⟩⟩⟩⟩⟩⟩⟩⟩⟩
theorem lw_p16 : lw_okq (⟨"FogBellMarket$Reader", "lanternRead", "()I"⟩, 10) := ⟨⟨by decide +kernel, by decide +kernel⟩, List.mem_of_getElem? (i := 198) (by decide +kernel), List.mem_of_getElem? (i := 393) (by decide +kernel), List.mem_of_getElem? (i := 394) (by decide +kernel)⟩
theorem lw_p17 : lw_okq (⟨"FogBellMarket$Reader", "textureRead", "()I"⟩, 10) := ⟨⟨by decide +kernel, by decide +kernel⟩, List.mem_of_getElem? (i := 198) (by decide +kernel), List.mem_of_getElem? (i := 401) (by decide +kernel), List.mem_of_getElem? (i := 402) (by decide +kernel)⟩
theorem lw_p18 : lw_okq (⟨"FogBellMarket$Reader", "keepArgument", "(II)V"⟩, 10) := ⟨⟨by decide +kernel, by decide +kernel⟩, List.mem_of_getElem? (i := 198) (by decide +kernel), List.mem_of_getElem? (i := 408) (by decide +kernel), List.mem_of_getElem? (i := 409) (by decide +kernel)⟩
theorem lw_p19 : lw_okq (⟨"FogBellMarket$Reader", "isRefusedBy", "(LFogBellMarket$Market;I)Z"⟩, 10) := ⟨⟨by decide +kernel, by decide +kernel⟩, List.mem_of_getElem? (i := 198) (by decide +kernel), List.mem_of_getElem? (i := 418) (by decide +kernel), List.mem_of_getElem? (i := 419) (by decide +kernel)⟩
theorem lw_p20 : lw_okq (⟨"FogBellMarket$Market", "letAct", "(LFogBellMarket$Buyer;I)V"⟩, 14) := ⟨⟨by decide +kernel, by decide +kernel⟩, List.mem_of_getElem? (i := 31) (by decide +kernel), List.mem_of_getElem? (i := 513) (by decide +kernel), List.mem_of_getElem? (i := 514) (by decide +kernel)⟩
theorem lw_p21 : lw_okq (⟨"FogBellMarket$Stall", "guardedDensity", "()I"⟩, 9) := ⟨⟨by decide +kernel, by decide +kernel⟩, List.mem_of_getElem? (i := 40) (by decide +kernel), List.mem_of_getElem? (i := 552) (by decide +kernel), List.mem_of_getElem? (i := 553) (by decide +kernel)⟩
theorem lw_p22 : lw_okq (⟨"FogBellMarket", "forgetChanges", "()V"⟩, 11) := ⟨⟨by decide +kernel, by decide +kernel⟩, List.mem_of_getElem? (i := 23) (by decide +kernel), List.mem_of_getElem? (i := 579) (by decide +kernel), List.mem_of_getElem? (i := 580) (by decide +kernel)⟩
theorem lw_p23 : lw_okq (⟨"FogBellMarket", "remember", "()V"⟩, 11) := ⟨⟨by decide +kernel, by decide +kernel⟩, List.mem_of_getElem? (i := 23) (by decide +kernel), List.mem_of_getElem? (i := 637) (by decide +kernel), List.mem_of_getElem? (i := 638) (by decide +kernel)⟩
theorem lw_p24 : lw_okq (⟨"FogBellMarket", "drawOnRope", "(II)V"⟩, 11) := ⟨⟨by decide +kernel, by decide +kernel⟩, List.mem_of_getElem? (i := 23) (by decide +kernel), List.mem_of_getElem? (i := 749) (by decide +kernel), List.mem_of_getElem? (i := 750) (by decide +kernel)⟩
theorem lw_p25 : lw_okq (⟨"java/lang/Throwable", "fillInStackTrace", "(I)Ljava/lang/Throwable;"⟩, 6) := ⟨⟨by decide +kernel, by decide +kernel⟩, List.mem_of_getElem? (i := 808) (by decide +kernel), List.mem_of_getElem? (i := 806) (by decide +kernel), List.mem_of_getElem? (i := 807) (by decide +kernel)⟩
theorem lw_p26 : lw_okq (⟨"FogBellMarket", "stallAt", "(I)LFogBellMarket$Stall;"⟩, 11) := ⟨⟨by decide +kernel, by decide +kernel⟩, List.mem_of_getElem? (i := 23) (by decide +kernel), List.mem_of_getElem? (i := 846) (by decide +kernel), List.mem_of_getElem? (i := 847) (by decide +kernel)⟩
theorem lw_p27 : lw_okq (⟨"FogBellMarket", "checkStall", "(I)V"⟩, 11) := ⟨⟨by decide +kernel, by decide +kernel⟩, List.mem_of_getElem? (i := 23) (by decide +kernel), List.mem_of_getElem? (i := 850) (by decide +kernel), List.mem_of_getElem? (i := 851) (by decide +kernel)⟩
theorem lw_p28 : lw_okq (⟨"FogBellMarket", "buyerAt", "(I)LFogBellMarket$Buyer;"⟩, 11) := ⟨⟨by decide +kernel, by decide +kernel⟩, List.mem_of_getElem? (i := 23) (by decide +kernel), List.mem_of_getElem? (i := 954) (by decide +kernel), List.mem_of_getElem? (i := 955) (by decide +kernel)⟩
theorem lw_p29 : lw_okq (⟨"FogBellMarket", "checkBuyer", "(I)V"⟩, 11) := ⟨⟨by decide +kernel, by decide +kernel⟩, List.mem_of_getElem? (i := 23) (by decide +kernel), List.mem_of_getElem? (i := 958) (by decide +kernel), List.mem_of_getElem? (i := 959) (by decide +kernel)⟩
theorem lw_p30 : lw_okq (⟨"FogBellMarketModel", "startTrial", "()V"⟩, 20) := ⟨⟨by decide +kernel, by decide +kernel⟩, List.mem_of_getElem? (i := 1185) (by decide +kernel), List.mem_of_getElem? (i := 1198) (by decide +kernel), List.mem_of_getElem? (i := 1199) (by decide +kernel)⟩
theorem lw_p31 : lw_okq (⟨"FogBellMarketModel", "startText", "()V"⟩, 20) := ⟨⟨by decide +kernel, by decide +kernel⟩, List.mem_of_getElem? (i := 1185) (by decide +kernel), List.mem_of_getElem? (i := 1202) (by decide +kernel), List.mem_of_getElem? (i := 1203) (by decide +kernel)⟩
def lw_privs_2 : List (MethodName × Nat) := [(⟨"FogBellMarket$Reader", "lanternRead", "()I"⟩, 10), (⟨"FogBellMarket$Reader", "textureRead", "()I"⟩, 10), (⟨"FogBellMarket$Reader", "keepArgument", "(II)V"⟩, 10), (⟨"FogBellMarket$Reader", "isRefusedBy", "(LFogBellMarket$Market;I)Z"⟩, 10), (⟨"FogBellMarket$Market", "letAct", "(LFogBellMarket$Buyer;I)V"⟩, 14), (⟨"FogBellMarket$Stall", "guardedDensity", "()I"⟩, 9), (⟨"FogBellMarket", "forgetChanges", "()V"⟩, 11), (⟨"FogBellMarket", "remember", "()V"⟩, 11), (⟨"FogBellMarket", "drawOnRope", "(II)V"⟩, 11), (⟨"java/lang/Throwable", "fillInStackTrace", "(I)Ljava/lang/Throwable;"⟩, 6), (⟨"FogBellMarket", "stallAt", "(I)LFogBellMarket$Stall;"⟩, 11), (⟨"FogBellMarket", "checkStall", "(I)V"⟩, 11), (⟨"FogBellMarket", "buyerAt", "(I)LFogBellMarket$Buyer;"⟩, 11), (⟨"FogBellMarket", "checkBuyer", "(I)V"⟩, 11), (⟨"FogBellMarketModel", "startTrial", "()V"⟩, 20), (⟨"FogBellMarketModel", "startText", "()V"⟩, 20)]
theorem lw_r2 : ∀ q ∈ lw_privs_2, lw_okq q := List.forall_mem_cons.mpr ⟨lw_p16, List.forall_mem_cons.mpr ⟨lw_p17, List.forall_mem_cons.mpr ⟨lw_p18, List.forall_mem_cons.mpr ⟨lw_p19, List.forall_mem_cons.mpr ⟨lw_p20, List.forall_mem_cons.mpr ⟨lw_p21, List.forall_mem_cons.mpr ⟨lw_p22, List.forall_mem_cons.mpr ⟨lw_p23, List.forall_mem_cons.mpr ⟨lw_p24, List.forall_mem_cons.mpr ⟨lw_p25, List.forall_mem_cons.mpr ⟨lw_p26, List.forall_mem_cons.mpr ⟨lw_p27, List.forall_mem_cons.mpr ⟨lw_p28, List.forall_mem_cons.mpr ⟨lw_p29, List.forall_mem_cons.mpr ⟨lw_p30, List.forall_mem_cons.mpr ⟨lw_p31, fun _ h => absurd h List.not_mem_nil⟩⟩⟩⟩⟩⟩⟩⟩⟩⟩⟩⟩⟩⟩⟩⟩
theorem lw_p32 : lw_okq (⟨"FogBellMarketModel", "next", "()V"⟩, 20) := ⟨⟨by decide +kernel, by decide +kernel⟩, List.mem_of_getElem? (i := 1185) (by decide +kernel), List.mem_of_getElem? (i := 1206) (by decide +kernel), List.mem_of_getElem? (i := 1207) (by decide +kernel)⟩
theorem lw_p33 : lw_okq (⟨"FogBellMarketModel", "setupText", "()Z"⟩, 20) := ⟨⟨by decide +kernel, by decide +kernel⟩, List.mem_of_getElem? (i := 1185) (by decide +kernel), List.mem_of_getElem? (i := 1220) (by decide +kernel), List.mem_of_getElem? (i := 1221) (by decide +kernel)⟩
theorem lw_p34 : lw_okq (⟨"FogBellMarketModel", "expects", "(Ljava/lang/String;)Z"⟩, 20) := ⟨⟨by decide +kernel, by decide +kernel⟩, List.mem_of_getElem? (i := 1185) (by decide +kernel), List.mem_of_getElem? (i := 1225) (by decide +kernel), List.mem_of_getElem? (i := 1226) (by decide +kernel)⟩
theorem lw_p35 : lw_okq (⟨"FogBellMarketModel", "isWord", "(Ljava/lang/String;)Z"⟩, 20) := ⟨⟨by decide +kernel, by decide +kernel⟩, List.mem_of_getElem? (i := 1185) (by decide +kernel), List.mem_of_getElem? (i := 1229) (by decide +kernel), List.mem_of_getElem? (i := 1230) (by decide +kernel)⟩
theorem lw_p36 : lw_okq (⟨"FogBellMarketModel", "wrong", "(I)Z"⟩, 20) := ⟨⟨by decide +kernel, by decide +kernel⟩, List.mem_of_getElem? (i := 1185) (by decide +kernel), List.mem_of_getElem? (i := 1236) (by decide +kernel), List.mem_of_getElem? (i := 1237) (by decide +kernel)⟩
theorem lw_p37 : lw_okq (⟨"FogBellMarketModel", "into", "(III)Z"⟩, 20) := ⟨⟨by decide +kernel, by decide +kernel⟩, List.mem_of_getElem? (i := 1185) (by decide +kernel), List.mem_of_getElem? (i := 1240) (by decide +kernel), List.mem_of_getElem? (i := 1241) (by decide +kernel)⟩
theorem lw_p38 : lw_okq (⟨"FogBellMarketModel", "numberIn", "(II)Z"⟩, 20) := ⟨⟨by decide +kernel, by decide +kernel⟩, List.mem_of_getElem? (i := 1185) (by decide +kernel), List.mem_of_getElem? (i := 1244) (by decide +kernel), List.mem_of_getElem? (i := 1245) (by decide +kernel)⟩
theorem lw_p39 : lw_okq (⟨"FogBellMarketModel", "semicolon", "()Z"⟩, 20) := ⟨⟨by decide +kernel, by decide +kernel⟩, List.mem_of_getElem? (i := 1185) (by decide +kernel), List.mem_of_getElem? (i := 1248) (by decide +kernel), List.mem_of_getElem? (i := 1249) (by decide +kernel)⟩
theorem lw_p40 : lw_okq (⟨"FogBellMarketModel", "isEnd", "()Z"⟩, 20) := ⟨⟨by decide +kernel, by decide +kernel⟩, List.mem_of_getElem? (i := 1185) (by decide +kernel), List.mem_of_getElem? (i := 1252) (by decide +kernel), List.mem_of_getElem? (i := 1253) (by decide +kernel)⟩
theorem lw_p41 : lw_okq (⟨"FogBellMarketModel", "commandsText", "()I"⟩, 20) := ⟨⟨by decide +kernel, by decide +kernel⟩, List.mem_of_getElem? (i := 1185) (by decide +kernel), List.mem_of_getElem? (i := 1257) (by decide +kernel), List.mem_of_getElem? (i := 1258) (by decide +kernel)⟩
theorem lw_p42 : lw_okq (⟨"FogBellMarketModel", "commandHere", "()I"⟩, 20) := ⟨⟨by decide +kernel, by decide +kernel⟩, List.mem_of_getElem? (i := 1185) (by decide +kernel), List.mem_of_getElem? (i := 1261) (by decide +kernel), List.mem_of_getElem? (i := 1262) (by decide +kernel)⟩
theorem lw_p43 : lw_okq (⟨"FogBellMarketModel", "commandText", "(I)Z"⟩, 20) := ⟨⟨by decide +kernel, by decide +kernel⟩, List.mem_of_getElem? (i := 1185) (by decide +kernel), List.mem_of_getElem? (i := 1273) (by decide +kernel), List.mem_of_getElem? (i := 1274) (by decide +kernel)⟩
theorem lw_p44 : lw_okq (⟨"FogBellMarketModel", "argumentsText", "(I)Z"⟩, 20) := ⟨⟨by decide +kernel, by decide +kernel⟩, List.mem_of_getElem? (i := 1185) (by decide +kernel), List.mem_of_getElem? (i := 1277) (by decide +kernel), List.mem_of_getElem? (i := 1278) (by decide +kernel)⟩
theorem lw_p45 : lw_okq (⟨"FogBellMarketModel", "lanternInto", "(I)Z"⟩, 20) := ⟨⟨by decide +kernel, by decide +kernel⟩, List.mem_of_getElem? (i := 1185) (by decide +kernel), List.mem_of_getElem? (i := 1281) (by decide +kernel), List.mem_of_getElem? (i := 1282) (by decide +kernel)⟩
theorem lw_p46 : lw_okq (⟨"FogBellMarketModel", "wordRead", "(I)Z"⟩, 20) := ⟨⟨by decide +kernel, by decide +kernel⟩, List.mem_of_getElem? (i := 1185) (by decide +kernel), List.mem_of_getElem? (i := 1289) (by decide +kernel), List.mem_of_getElem? (i := 1290) (by decide +kernel)⟩
theorem lw_p47 : lw_okq (⟨"FogBellMarketModel", "textureInto", "(I)Z"⟩, 20) := ⟨⟨by decide +kernel, by decide +kernel⟩, List.mem_of_getElem? (i := 1185) (by decide +kernel), List.mem_of_getElem? (i := 1293) (by decide +kernel), List.mem_of_getElem? (i := 1294) (by decide +kernel)⟩
def lw_privs_3 : List (MethodName × Nat) := [(⟨"FogBellMarketModel", "next", "()V"⟩, 20), (⟨"FogBellMarketModel", "setupText", "()Z"⟩, 20), (⟨"FogBellMarketModel", "expects", "(Ljava/lang/String;)Z"⟩, 20), (⟨"FogBellMarketModel", "isWord", "(Ljava/lang/String;)Z"⟩, 20), (⟨"FogBellMarketModel", "wrong", "(I)Z"⟩, 20), (⟨"FogBellMarketModel", "into", "(III)Z"⟩, 20), (⟨"FogBellMarketModel", "numberIn", "(II)Z"⟩, 20), (⟨"FogBellMarketModel", "semicolon", "()Z"⟩, 20), (⟨"FogBellMarketModel", "isEnd", "()Z"⟩, 20), (⟨"FogBellMarketModel", "commandsText", "()I"⟩, 20), (⟨"FogBellMarketModel", "commandHere", "()I"⟩, 20), (⟨"FogBellMarketModel", "commandText", "(I)Z"⟩, 20), (⟨"FogBellMarketModel", "argumentsText", "(I)Z"⟩, 20), (⟨"FogBellMarketModel", "lanternInto", "(I)Z"⟩, 20), (⟨"FogBellMarketModel", "wordRead", "(I)Z"⟩, 20), (⟨"FogBellMarketModel", "textureInto", "(I)Z"⟩, 20)]
theorem lw_r3 : ∀ q ∈ lw_privs_3, lw_okq q := List.forall_mem_cons.mpr ⟨lw_p32, List.forall_mem_cons.mpr ⟨lw_p33, List.forall_mem_cons.mpr ⟨lw_p34, List.forall_mem_cons.mpr ⟨lw_p35, List.forall_mem_cons.mpr ⟨lw_p36, List.forall_mem_cons.mpr ⟨lw_p37, List.forall_mem_cons.mpr ⟨lw_p38, List.forall_mem_cons.mpr ⟨lw_p39, List.forall_mem_cons.mpr ⟨lw_p40, List.forall_mem_cons.mpr ⟨lw_p41, List.forall_mem_cons.mpr ⟨lw_p42, List.forall_mem_cons.mpr ⟨lw_p43, List.forall_mem_cons.mpr ⟨lw_p44, List.forall_mem_cons.mpr ⟨lw_p45, List.forall_mem_cons.mpr ⟨lw_p46, List.forall_mem_cons.mpr ⟨lw_p47, fun _ h => absurd h List.not_mem_nil⟩⟩⟩⟩⟩⟩⟩⟩⟩⟩⟩⟩⟩⟩⟩⟩
theorem lw_p48 : lw_okq (⟨"FogBellMarketModel", "holderInto", "()Z"⟩, 20) := ⟨⟨by decide +kernel, by decide +kernel⟩, List.mem_of_getElem? (i := 1185) (by decide +kernel), List.mem_of_getElem? (i := 1300) (by decide +kernel), List.mem_of_getElem? (i := 1301) (by decide +kernel)⟩
theorem lw_p49 : lw_okq (⟨"FogBellMarketModel", "by", "(II)I"⟩, 20) := ⟨⟨by decide +kernel, by decide +kernel⟩, List.mem_of_getElem? (i := 1185) (by decide +kernel), List.mem_of_getElem? (i := 1304) (by decide +kernel), List.mem_of_getElem? (i := 1305) (by decide +kernel)⟩
theorem lw_p50 : lw_okq (⟨"FogBellMarketModel", "stockInto", "()Z"⟩, 20) := ⟨⟨by decide +kernel, by decide +kernel⟩, List.mem_of_getElem? (i := 1185) (by decide +kernel), List.mem_of_getElem? (i := 1308) (by decide +kernel), List.mem_of_getElem? (i := 1309) (by decide +kernel)⟩
theorem lw_p51 : lw_okq (⟨"FogBellMarketModel", "st", "(II)I"⟩, 20) := ⟨⟨by decide +kernel, by decide +kernel⟩, List.mem_of_getElem? (i := 1185) (by decide +kernel), List.mem_of_getElem? (i := 1312) (by decide +kernel), List.mem_of_getElem? (i := 1313) (by decide +kernel)⟩
theorem lw_p52 : lw_okq (⟨"FogBellMarketModel", "does", "(I)I"⟩, 20) := ⟨⟨by decide +kernel, by decide +kernel⟩, List.mem_of_getElem? (i := 1185) (by decide +kernel), List.mem_of_getElem? (i := 1316) (by decide +kernel), List.mem_of_getElem? (i := 1317) (by decide +kernel)⟩
theorem lw_p53 : lw_okq (⟨"FogBellMarketModel", "doStall", "(IIIII)I"⟩, 20) := ⟨⟨by decide +kernel, by decide +kernel⟩, List.mem_of_getElem? (i := 1185) (by decide +kernel), List.mem_of_getElem? (i := 1320) (by decide +kernel), List.mem_of_getElem? (i := 1321) (by decide +kernel)⟩
theorem lw_p54 : lw_okq (⟨"FogBellMarketModel", "more", "(III)V"⟩, 20) := ⟨⟨by decide +kernel, by decide +kernel⟩, List.mem_of_getElem? (i := 1185) (by decide +kernel), List.mem_of_getElem? (i := 1324) (by decide +kernel), List.mem_of_getElem? (i := 1325) (by decide +kernel)⟩
theorem lw_p55 : lw_okq (⟨"FogBellMarketModel", "doBuyer", "(IIII)I"⟩, 20) := ⟨⟨by decide +kernel, by decide +kernel⟩, List.mem_of_getElem? (i := 1185) (by decide +kernel), List.mem_of_getElem? (i := 1328) (by decide +kernel), List.mem_of_getElem? (i := 1329) (by decide +kernel)⟩
theorem lw_p56 : lw_okq (⟨"FogBellMarketModel", "put", "(III)V"⟩, 20) := ⟨⟨by decide +kernel, by decide +kernel⟩, List.mem_of_getElem? (i := 1185) (by decide +kernel), List.mem_of_getElem? (i := 1332) (by decide +kernel), List.mem_of_getElem? (i := 1333) (by decide +kernel)⟩
theorem lw_p57 : lw_okq (⟨"FogBellMarketModel", "passAll", "(I)I"⟩, 20) := ⟨⟨by decide +kernel, by decide +kernel⟩, List.mem_of_getElem? (i := 1185) (by decide +kernel), List.mem_of_getElem? (i := 1336) (by decide +kernel), List.mem_of_getElem? (i := 1337) (by decide +kernel)⟩
theorem lw_p58 : lw_okq (⟨"FogBellMarketModel", "passMinute", "()I"⟩, 20) := ⟨⟨by decide +kernel, by decide +kernel⟩, List.mem_of_getElem? (i := 1185) (by decide +kernel), List.mem_of_getElem? (i := 1340) (by decide +kernel), List.mem_of_getElem? (i := 1341) (by decide +kernel)⟩
theorem lw_p59 : lw_okq (⟨"FogBellMarketModel", "fogAt", "(I)I"⟩, 20) := ⟨⟨by decide +kernel, by decide +kernel⟩, List.mem_of_getElem? (i := 1185) (by decide +kernel), List.mem_of_getElem? (i := 1344) (by decide +kernel), List.mem_of_getElem? (i := 1345) (by decide +kernel)⟩
theorem lw_p60 : lw_okq (⟨"FogBellMarketModel", "stepBell", "(I)V"⟩, 20) := ⟨⟨by decide +kernel, by decide +kernel⟩, List.mem_of_getElem? (i := 1185) (by decide +kernel), List.mem_of_getElem? (i := 1348) (by decide +kernel), List.mem_of_getElem? (i := 1349) (by decide +kernel)⟩
theorem lw_p61 : lw_okq (⟨"FogBellMarketModel", "endBell", "()V"⟩, 20) := ⟨⟨by decide +kernel, by decide +kernel⟩, List.mem_of_getElem? (i := 1185) (by decide +kernel), List.mem_of_getElem? (i := 1352) (by decide +kernel), List.mem_of_getElem? (i := 1353) (by decide +kernel)⟩
theorem lw_p62 : lw_okq (⟨"FogBellMarketModel", "giveBack", "(I)V"⟩, 20) := ⟨⟨by decide +kernel, by decide +kernel⟩, List.mem_of_getElem? (i := 1185) (by decide +kernel), List.mem_of_getElem? (i := 1356) (by decide +kernel), List.mem_of_getElem? (i := 1357) (by decide +kernel)⟩
theorem lw_p63 : lw_okq (⟨"FogBellMarketModel", "act", "(II)I"⟩, 20) := ⟨⟨by decide +kernel, by decide +kernel⟩, List.mem_of_getElem? (i := 1185) (by decide +kernel), List.mem_of_getElem? (i := 1360) (by decide +kernel), List.mem_of_getElem? (i := 1361) (by decide +kernel)⟩
def lw_privs_4 : List (MethodName × Nat) := [(⟨"FogBellMarketModel", "holderInto", "()Z"⟩, 20), (⟨"FogBellMarketModel", "by", "(II)I"⟩, 20), (⟨"FogBellMarketModel", "stockInto", "()Z"⟩, 20), (⟨"FogBellMarketModel", "st", "(II)I"⟩, 20), (⟨"FogBellMarketModel", "does", "(I)I"⟩, 20), (⟨"FogBellMarketModel", "doStall", "(IIIII)I"⟩, 20), (⟨"FogBellMarketModel", "more", "(III)V"⟩, 20), (⟨"FogBellMarketModel", "doBuyer", "(IIII)I"⟩, 20), (⟨"FogBellMarketModel", "put", "(III)V"⟩, 20), (⟨"FogBellMarketModel", "passAll", "(I)I"⟩, 20), (⟨"FogBellMarketModel", "passMinute", "()I"⟩, 20), (⟨"FogBellMarketModel", "fogAt", "(I)I"⟩, 20), (⟨"FogBellMarketModel", "stepBell", "(I)V"⟩, 20), (⟨"FogBellMarketModel", "endBell", "()V"⟩, 20), (⟨"FogBellMarketModel", "giveBack", "(I)V"⟩, 20), (⟨"FogBellMarketModel", "act", "(II)I"⟩, 20)]
theorem lw_r4 : ∀ q ∈ lw_privs_4, lw_okq q := List.forall_mem_cons.mpr ⟨lw_p48, List.forall_mem_cons.mpr ⟨lw_p49, List.forall_mem_cons.mpr ⟨lw_p50, List.forall_mem_cons.mpr ⟨lw_p51, List.forall_mem_cons.mpr ⟨lw_p52, List.forall_mem_cons.mpr ⟨lw_p53, List.forall_mem_cons.mpr ⟨lw_p54, List.forall_mem_cons.mpr ⟨lw_p55, List.forall_mem_cons.mpr ⟨lw_p56, List.forall_mem_cons.mpr ⟨lw_p57, List.forall_mem_cons.mpr ⟨lw_p58, List.forall_mem_cons.mpr ⟨lw_p59, List.forall_mem_cons.mpr ⟨lw_p60, List.forall_mem_cons.mpr ⟨lw_p61, List.forall_mem_cons.mpr ⟨lw_p62, List.forall_mem_cons.mpr ⟨lw_p63, fun _ h => absurd h List.not_mem_nil⟩⟩⟩⟩⟩⟩⟩⟩⟩⟩⟩⟩⟩⟩⟩⟩
theorem lw_p64 : lw_okq (⟨"FogBellMarketModel", "walk", "(II)V"⟩, 20) := ⟨⟨by decide +kernel, by decide +kernel⟩, List.mem_of_getElem? (i := 1185) (by decide +kernel), List.mem_of_getElem? (i := 1364) (by decide +kernel), List.mem_of_getElem? (i := 1365) (by decide +kernel)⟩
theorem lw_p65 : lw_okq (⟨"FogBellMarketModel", "pay", "(I)I"⟩, 20) := ⟨⟨by decide +kernel, by decide +kernel⟩, List.mem_of_getElem? (i := 1185) (by decide +kernel), List.mem_of_getElem? (i := 1372) (by decide +kernel), List.mem_of_getElem? (i := 1373) (by decide +kernel)⟩
theorem lw_p66 : lw_okq (⟨"FogBellMarketModel", "target", "(II)I"⟩, 20) := ⟨⟨by decide +kernel, by decide +kernel⟩, List.mem_of_getElem? (i := 1185) (by decide +kernel), List.mem_of_getElem? (i := 1376) (by decide +kernel), List.mem_of_getElem? (i := 1377) (by decide +kernel)⟩
theorem lw_p67 : lw_okq (⟨"FogBellMarketModel", "isSeen", "(III)Z"⟩, 20) := ⟨⟨by decide +kernel, by decide +kernel⟩, List.mem_of_getElem? (i := 1185) (by decide +kernel), List.mem_of_getElem? (i := 1383) (by decide +kernel), List.mem_of_getElem? (i := 1384) (by decide +kernel)⟩
theorem lw_p68 : lw_okq (⟨"FogBellMarketModel", "takes", "(II)V"⟩, 20) := ⟨⟨by decide +kernel, by decide +kernel⟩, List.mem_of_getElem? (i := 1185) (by decide +kernel), List.mem_of_getElem? (i := 1390) (by decide +kernel), List.mem_of_getElem? (i := 1391) (by decide +kernel)⟩
theorem lw_p69 : lw_okq (⟨"FogBellMarketModel", "feel", "(II)I"⟩, 20) := ⟨⟨by decide +kernel, by decide +kernel⟩, List.mem_of_getElem? (i := 1185) (by decide +kernel), List.mem_of_getElem? (i := 1394) (by decide +kernel), List.mem_of_getElem? (i := 1395) (by decide +kernel)⟩
theorem lw_p70 : lw_okq (⟨"FogBellMarketModel", "lays", "(II)I"⟩, 20) := ⟨⟨by decide +kernel, by decide +kernel⟩, List.mem_of_getElem? (i := 1185) (by decide +kernel), List.mem_of_getElem? (i := 1401) (by decide +kernel), List.mem_of_getElem? (i := 1402) (by decide +kernel)⟩
theorem lw_p71 : lw_okq (⟨"FogBellMarketModel", "doBack", "(I)I"⟩, 20) := ⟨⟨by decide +kernel, by decide +kernel⟩, List.mem_of_getElem? (i := 1185) (by decide +kernel), List.mem_of_getElem? (i := 1405) (by decide +kernel), List.mem_of_getElem? (i := 1406) (by decide +kernel)⟩
theorem lw_p72 : lw_okq (⟨"FogBellMarketModel", "doStock", "(II)I"⟩, 20) := ⟨⟨by decide +kernel, by decide +kernel⟩, List.mem_of_getElem? (i := 1185) (by decide +kernel), List.mem_of_getElem? (i := 1409) (by decide +kernel), List.mem_of_getElem? (i := 1410) (by decide +kernel)⟩
theorem lw_p73 : lw_okq (⟨"FogBellMarketModel", "leaveTrial", "(I)I"⟩, 20) := ⟨⟨by decide +kernel, by decide +kernel⟩, List.mem_of_getElem? (i := 1185) (by decide +kernel), List.mem_of_getElem? (i := 1413) (by decide +kernel), List.mem_of_getElem? (i := 1414) (by decide +kernel)⟩
theorem lw_p74 : lw_okq (⟨"FogBellMarketModel", "pushAside", "()V"⟩, 20) := ⟨⟨by decide +kernel, by decide +kernel⟩, List.mem_of_getElem? (i := 1185) (by decide +kernel), List.mem_of_getElem? (i := 1494) (by decide +kernel), List.mem_of_getElem? (i := 1495) (by decide +kernel)⟩
theorem lw_p75 : lw_okq (⟨"FogBellMarketModel", "plain", "(I)I"⟩, 20) := ⟨⟨by decide +kernel, by decide +kernel⟩, List.mem_of_getElem? (i := 1185) (by decide +kernel), List.mem_of_getElem? (i := 1502) (by decide +kernel), List.mem_of_getElem? (i := 1503) (by decide +kernel)⟩
theorem lw_p76 : lw_okq (⟨"FogBellMarketModel", "fails", "(ZI)Z"⟩, 20) := ⟨⟨by decide +kernel, by decide +kernel⟩, List.mem_of_getElem? (i := 1185) (by decide +kernel), List.mem_of_getElem? (i := 1534) (by decide +kernel), List.mem_of_getElem? (i := 1535) (by decide +kernel)⟩
theorem lw_p77 : lw_okq (⟨"FogBellMarketModel", "minutesTo", "(Z)I"⟩, 20) := ⟨⟨by decide +kernel, by decide +kernel⟩, List.mem_of_getElem? (i := 1185) (by decide +kernel), List.mem_of_getElem? (i := 1558) (by decide +kernel), List.mem_of_getElem? (i := 1559) (by decide +kernel)⟩
theorem lw_p78 : lw_okq (⟨"FogBellMarketModel", "asked", "(II)I"⟩, 20) := ⟨⟨by decide +kernel, by decide +kernel⟩, List.mem_of_getElem? (i := 1185) (by decide +kernel), List.mem_of_getElem? (i := 1574) (by decide +kernel), List.mem_of_getElem? (i := 1575) (by decide +kernel)⟩
theorem lw_p79 : lw_okq (⟨"FogBellMarketModel", "isStall", "(I)Z"⟩, 20) := ⟨⟨by decide +kernel, by decide +kernel⟩, List.mem_of_getElem? (i := 1185) (by decide +kernel), List.mem_of_getElem? (i := 1578) (by decide +kernel), List.mem_of_getElem? (i := 1579) (by decide +kernel)⟩
def lw_privs_5 : List (MethodName × Nat) := [(⟨"FogBellMarketModel", "walk", "(II)V"⟩, 20), (⟨"FogBellMarketModel", "pay", "(I)I"⟩, 20), (⟨"FogBellMarketModel", "target", "(II)I"⟩, 20), (⟨"FogBellMarketModel", "isSeen", "(III)Z"⟩, 20), (⟨"FogBellMarketModel", "takes", "(II)V"⟩, 20), (⟨"FogBellMarketModel", "feel", "(II)I"⟩, 20), (⟨"FogBellMarketModel", "lays", "(II)I"⟩, 20), (⟨"FogBellMarketModel", "doBack", "(I)I"⟩, 20), (⟨"FogBellMarketModel", "doStock", "(II)I"⟩, 20), (⟨"FogBellMarketModel", "leaveTrial", "(I)I"⟩, 20), (⟨"FogBellMarketModel", "pushAside", "()V"⟩, 20), (⟨"FogBellMarketModel", "plain", "(I)I"⟩, 20), (⟨"FogBellMarketModel", "fails", "(ZI)Z"⟩, 20), (⟨"FogBellMarketModel", "minutesTo", "(Z)I"⟩, 20), (⟨"FogBellMarketModel", "asked", "(II)I"⟩, 20), (⟨"FogBellMarketModel", "isStall", "(I)Z"⟩, 20)]
theorem lw_r5 : ∀ q ∈ lw_privs_5, lw_okq q := List.forall_mem_cons.mpr ⟨lw_p64, List.forall_mem_cons.mpr ⟨lw_p65, List.forall_mem_cons.mpr ⟨lw_p66, List.forall_mem_cons.mpr ⟨lw_p67, List.forall_mem_cons.mpr ⟨lw_p68, List.forall_mem_cons.mpr ⟨lw_p69, List.forall_mem_cons.mpr ⟨lw_p70, List.forall_mem_cons.mpr ⟨lw_p71, List.forall_mem_cons.mpr ⟨lw_p72, List.forall_mem_cons.mpr ⟨lw_p73, List.forall_mem_cons.mpr ⟨lw_p74, List.forall_mem_cons.mpr ⟨lw_p75, List.forall_mem_cons.mpr ⟨lw_p76, List.forall_mem_cons.mpr ⟨lw_p77, List.forall_mem_cons.mpr ⟨lw_p78, List.forall_mem_cons.mpr ⟨lw_p79, fun _ h => absurd h List.not_mem_nil⟩⟩⟩⟩⟩⟩⟩⟩⟩⟩⟩⟩⟩⟩⟩⟩
theorem lw_p80 : lw_okq (⟨"FogBellMarketModel", "held", "(I)I"⟩, 20) := ⟨⟨by decide +kernel, by decide +kernel⟩, List.mem_of_getElem? (i := 1185) (by decide +kernel), List.mem_of_getElem? (i := 1602) (by decide +kernel), List.mem_of_getElem? (i := 1603) (by decide +kernel)⟩
theorem lw_p81 : lw_okq (⟨"FogBellMarketModel", "askedOf", "(II)I"⟩, 20) := ⟨⟨by decide +kernel, by decide +kernel⟩, List.mem_of_getElem? (i := 1185) (by decide +kernel), List.mem_of_getElem? (i := 1634) (by decide +kernel), List.mem_of_getElem? (i := 1635) (by decide +kernel)⟩
theorem lw_p82 : lw_okq (⟨"FogBellMarketModel", "isBuyer", "(I)Z"⟩, 20) := ⟨⟨by decide +kernel, by decide +kernel⟩, List.mem_of_getElem? (i := 1185) (by decide +kernel), List.mem_of_getElem? (i := 1638) (by decide +kernel), List.mem_of_getElem? (i := 1639) (by decide +kernel)⟩
theorem lw_p83 : lw_okq (⟨"FogBellMarketModel", "sumOf", "(I)I"⟩, 20) := ⟨⟨by decide +kernel, by decide +kernel⟩, List.mem_of_getElem? (i := 1185) (by decide +kernel), List.mem_of_getElem? (i := 1682) (by decide +kernel), List.mem_of_getElem? (i := 1683) (by decide +kernel)⟩
theorem lw_p84 : lw_okq (⟨"FogBellMarketModel", "earnedIn", "(II)I"⟩, 20) := ⟨⟨by decide +kernel, by decide +kernel⟩, List.mem_of_getElem? (i := 1185) (by decide +kernel), List.mem_of_getElem? (i := 1715) (by decide +kernel), List.mem_of_getElem? (i := 1716) (by decide +kernel)⟩
theorem lw_p85 : lw_okq (⟨"FogBellMarketModel", "best", "(IIII)I"⟩, 20) := ⟨⟨by decide +kernel, by decide +kernel⟩, List.mem_of_getElem? (i := 1185) (by decide +kernel), List.mem_of_getElem? (i := 1723) (by decide +kernel), List.mem_of_getElem? (i := 1724) (by decide +kernel)⟩
theorem lw_p86 : lw_okq (⟨"FogBellMarketModel", "record", "()V"⟩, 20) := ⟨⟨by decide +kernel, by decide +kernel⟩, List.mem_of_getElem? (i := 1185) (by decide +kernel), List.mem_of_getElem? (i := 1735) (by decide +kernel), List.mem_of_getElem? (i := 1736) (by decide +kernel)⟩
theorem lw_p87 : lw_okq (⟨"FogBellMarketModel", "signAt", "(I)I"⟩, 20) := ⟨⟨by decide +kernel, by decide +kernel⟩, List.mem_of_getElem? (i := 1185) (by decide +kernel), List.mem_of_getElem? (i := 1787) (by decide +kernel), List.mem_of_getElem? (i := 1788) (by decide +kernel)⟩
def lw_privs_6 : List (MethodName × Nat) := [(⟨"FogBellMarketModel", "held", "(I)I"⟩, 20), (⟨"FogBellMarketModel", "askedOf", "(II)I"⟩, 20), (⟨"FogBellMarketModel", "isBuyer", "(I)Z"⟩, 20), (⟨"FogBellMarketModel", "sumOf", "(I)I"⟩, 20), (⟨"FogBellMarketModel", "earnedIn", "(II)I"⟩, 20), (⟨"FogBellMarketModel", "best", "(IIII)I"⟩, 20), (⟨"FogBellMarketModel", "record", "()V"⟩, 20), (⟨"FogBellMarketModel", "signAt", "(I)I"⟩, 20)]
theorem lw_r6 : ∀ q ∈ lw_privs_6, lw_okq q := List.forall_mem_cons.mpr ⟨lw_p80, List.forall_mem_cons.mpr ⟨lw_p81, List.forall_mem_cons.mpr ⟨lw_p82, List.forall_mem_cons.mpr ⟨lw_p83, List.forall_mem_cons.mpr ⟨lw_p84, List.forall_mem_cons.mpr ⟨lw_p85, List.forall_mem_cons.mpr ⟨lw_p86, List.forall_mem_cons.mpr ⟨lw_p87, fun _ h => absurd h List.not_mem_nil⟩⟩⟩⟩⟩⟩⟩⟩
def lw_privs : List (MethodName × Nat) := lw_privs_1 ++ (lw_privs_2 ++ (lw_privs_3 ++ (lw_privs_4 ++ (lw_privs_5 ++ (lw_privs_6)))))
def lw_tbl : List Cond := k2_sels lw_privs ++ tables_1
theorem lw_privs_ok : ∀ q ∈ lw_privs, lw_okq q := by
  show ∀ q ∈ lw_privs_1 ++ (lw_privs_2 ++ (lw_privs_3 ++ (lw_privs_4 ++ (lw_privs_5 ++ (lw_privs_6))))), lw_okq q
  exact List.forall_mem_append.mpr ⟨lw_r1, List.forall_mem_append.mpr ⟨lw_r2, List.forall_mem_append.mpr ⟨lw_r3, List.forall_mem_append.mpr ⟨lw_r4, List.forall_mem_append.mpr ⟨lw_r5, lw_r6⟩⟩⟩⟩⟩
/-- the streams that the claim lets the run draw from -/
abbrev lw_cs : List Choice := [Jvm.Choice.named "NaN.bits"]
theorem lw_bits : nanBits ∈ lw_cs := by first | decide | exact List.mem_cons_self | simp [lw_cs, nanBits]
end
section
def RX0 : String := "FogBellMarket$1"
def TX0 : u_T := fun k => match k with
  | _ => ("", "", "", false)
def tyX0 : Nat → FieldType := fun k => match k with
  | _ => .int
theorem nmX0 : ∀ a, a < 0 → ∀ b, b < 0 → a ≠ b → (TX0 a).2.1 ≠ (TX0 b).2.1 := by decide +kernel
theorem tyX0_ok : ∀ k, k < 0 → parseFieldDescriptor (TX0 k).2.2.1 = some (tyX0 k) := by decide +kernel
def RX1 : String := "FogBellMarket$Buyer"
def TX1 : u_T := fun k => match k with
  | 0 => ("FogBellMarket$Buyer", "position", "I", false)
  | 1 => ("FogBellMarket$Buyer", "coins", "I", false)
  | 2 => ("FogBellMarket$Buyer", "wanted", "I", false)
  | 3 => ("FogBellMarket$Buyer", "speed", "I", false)
  | 4 => ("FogBellMarket$Buyer", "heldStall", "I", false)
  | 5 => ("FogBellMarket$Buyer", "debt", "I", false)
  | 6 => ("FogBellMarket$Buyer", "avoided", "I", false)
  | _ => ("FogBellMarket$Buyer", "bought", "I", false)
def tyX1 : Nat → FieldType := fun k => match k with
  | 0 => .int
  | 1 => .int
  | 2 => .int
  | 3 => .int
  | 4 => .int
  | 5 => .int
  | 6 => .int
  | _ => .int
theorem nmX1 : ∀ a, a < 8 → ∀ b, b < 8 → a ≠ b → (TX1 a).2.1 ≠ (TX1 b).2.1 := by decide +kernel
theorem tyX1_ok : ∀ k, k < 8 → parseFieldDescriptor (TX1 k).2.2.1 = some (tyX1 k) := by decide +kernel
abbrev cX1_init : ByteArray := prog_3_method_1_code
def yX1_init : MethodName := ⟨RX1, "<init>", "()V"⟩
abbrev cX1_reset : ByteArray := prog_3_method_2_code
def yX1_reset : MethodName := ⟨RX1, "reset", "(IIII)V"⟩
abbrev cX1_copyFrom : ByteArray := prog_3_method_3_code
def yX1_copyFrom : MethodName := ⟨RX1, "copyFrom", "(LFogBellMarket$Buyer;)V"⟩
abbrev cX1_holds : ByteArray := prog_3_method_4_code
def yX1_holds : MethodName := ⟨RX1, "holds", "()Z"⟩
abbrev cX1_avoids : ByteArray := prog_3_method_5_code
def yX1_avoids : MethodName := ⟨RX1, "avoids", "(I)Z"⟩
abbrev cX1_avoid : ByteArray := prog_3_method_6_code
def yX1_avoid : MethodName := ⟨RX1, "avoid", "(I)V"⟩
abbrev cX1_walkTo : ByteArray := prog_3_method_7_code
def yX1_walkTo : MethodName := ⟨RX1, "walkTo", "(I)V"⟩
abbrev cX1_feel : ByteArray := prog_3_method_8_code
def yX1_feel : MethodName := ⟨RX1, "feel", "(LFogBellMarket$Stall;)I"⟩
abbrev cX1_take : ByteArray := prog_3_method_9_code
def yX1_take : MethodName := ⟨RX1, "take", "(LFogBellMarket$Stall;I)V"⟩
abbrev cX1_payTo : ByteArray := prog_3_method_10_code
def yX1_payTo : MethodName := ⟨RX1, "payTo", "(LFogBellMarket$Stall;)V"⟩
abbrev cX1_letGo : ByteArray := prog_3_method_11_code
def yX1_letGo : MethodName := ⟨RX1, "letGo", "()V"⟩
def RX2 : String := "FogBellMarket$Market"
def TX2 : u_T := fun k => match k with
  | 0 => ("FogBellMarket$Market", "stalls", "[LFogBellMarket$Stall;", true)
  | 1 => ("FogBellMarket$Market", "stallCount", "I", false)
  | 2 => ("FogBellMarket$Market", "buyers", "[LFogBellMarket$Buyer;", true)
  | 3 => ("FogBellMarket$Market", "buyerCount", "I", false)
  | 4 => ("FogBellMarket$Market", "fog", "[I", true)
  | 5 => ("FogBellMarket$Market", "fogLength", "I", false)
  | 6 => ("FogBellMarket$Market", "minute", "I", false)
  | 7 => ("FogBellMarket$Market", "bell", "I", false)
  | 8 => ("FogBellMarket$Market", "bellThreshold", "I", false)
  | 9 => ("FogBellMarket$Market", "bellDuration", "I", false)
  | 10 => ("FogBellMarket$Market", "open", "Z", false)
  | 11 => ("FogBellMarket$Market", "ready", "Z", false)
  | 12 => ("FogBellMarket$Market", "minutesOpen", "I", false)
  | _ => ("FogBellMarket$Market", "rings", "I", false)
def tyX2 : Nat → FieldType := fun k => match k with
  | 0 => .array (.object "FogBellMarket$Stall")
  | 1 => .int
  | 2 => .array (.object "FogBellMarket$Buyer")
  | 3 => .int
  | 4 => .array .int
  | 5 => .int
  | 6 => .int
  | 7 => .int
  | 8 => .int
  | 9 => .int
  | 10 => .boolean
  | 11 => .boolean
  | 12 => .int
  | _ => .int
theorem nmX2 : ∀ a, a < 14 → ∀ b, b < 14 → a ≠ b → (TX2 a).2.1 ≠ (TX2 b).2.1 := by decide +kernel
theorem tyX2_ok : ∀ k, k < 14 → parseFieldDescriptor (TX2 k).2.2.1 = some (tyX2 k) := by decide +kernel
abbrev cX2_init : ByteArray := prog_4_method_1_code
def yX2_init : MethodName := ⟨RX2, "<init>", "()V"⟩
abbrev cX2_reset : ByteArray := prog_4_method_2_code
def yX2_reset : MethodName := ⟨RX2, "reset", "(III)V"⟩
abbrev cX2_copyFrom : ByteArray := prog_4_method_3_code
def yX2_copyFrom : MethodName := ⟨RX2, "copyFrom", "(LFogBellMarket$Market;)V"⟩
abbrev cX2_isStall : ByteArray := prog_4_method_4_code
def yX2_isStall : MethodName := ⟨RX2, "isStall", "(I)Z"⟩
abbrev cX2_isBuyer : ByteArray := prog_4_method_5_code
def yX2_isBuyer : MethodName := ⟨RX2, "isBuyer", "(I)Z"⟩
abbrev cX2_densityIn : ByteArray := prog_4_method_6_code
def yX2_densityIn : MethodName := ⟨RX2, "densityIn", "(I)I"⟩
abbrev cX2_densityNow : ByteArray := prog_4_method_7_code
def yX2_densityNow : MethodName := ⟨RX2, "densityNow", "()I"⟩
abbrev cX2_earnedInAll : ByteArray := prog_4_method_8_code
def yX2_earnedInAll : MethodName := ⟨RX2, "earnedInAll", "()I"⟩
abbrev cX2_soldInAll : ByteArray := prog_4_method_9_code
def yX2_soldInAll : MethodName := ⟨RX2, "soldInAll", "()I"⟩
abbrev cX2_countHeld : ByteArray := prog_4_method_10_code
def yX2_countHeld : MethodName := ⟨RX2, "countHeld", "(I)I"⟩
abbrev cX2_findTarget : ByteArray := prog_4_method_11_code
def yX2_findTarget : MethodName := ⟨RX2, "findTarget", "(LFogBellMarket$Buyer;I)I"⟩
abbrev cX2_addDensity : ByteArray := prog_4_method_12_code
def yX2_addDensity : MethodName := ⟨RX2, "addDensity", "(I)V"⟩
abbrev cX2_placeStall : ByteArray := prog_4_method_13_code
def yX2_placeStall : MethodName := ⟨RX2, "placeStall", "(IIIII)I"⟩
abbrev cX2_placeBuyer : ByteArray := prog_4_method_14_code
def yX2_placeBuyer : MethodName := ⟨RX2, "placeBuyer", "(IIII)I"⟩
abbrev cX2_returnGood : ByteArray := prog_4_method_15_code
def yX2_returnGood : MethodName := ⟨RX2, "returnGood", "(LFogBellMarket$Buyer;)V"⟩
abbrev cX2_returnAndAvoid : ByteArray := prog_4_method_16_code
def yX2_returnAndAvoid : MethodName := ⟨RX2, "returnAndAvoid", "(LFogBellMarket$Buyer;)V"⟩
abbrev cX2_pass : ByteArray := prog_4_method_17_code
def yX2_pass : MethodName := ⟨RX2, "pass", "(I)V"⟩
abbrev cX2_moveBell : ByteArray := prog_4_method_18_code
def yX2_moveBell : MethodName := ⟨RX2, "moveBell", "(I)V"⟩
abbrev cX2_countMinute : ByteArray := prog_4_method_19_code
def yX2_countMinute : MethodName := ⟨RX2, "countMinute", "()V"⟩
abbrev cX2_letAct : ByteArray := prog_4_method_20_code
def yX2_letAct : MethodName := ⟨RX2, "letAct", "(LFogBellMarket$Buyer;I)V"⟩
abbrev cX2_perform : ByteArray := prog_4_method_21_code
def yX2_perform : MethodName := ⟨RX2, "perform", "(LFogBellMarket$Reader;)V"⟩
abbrev cX2_changeStall : ByteArray := prog_4_method_22_code
def yX2_changeStall : MethodName := ⟨RX2, "changeStall", "(LFogBellMarket$Verb;LFogBellMarket$Stall;I)V"⟩
def RX3 : String := "FogBellMarket$Reader"
def TX3 : u_T := fun k => match k with
  | 0 => ("FogBellMarket$Reader", "bytes", "[B", true)
  | 1 => ("FogBellMarket$Reader", "length", "I", false)
  | 2 => ("FogBellMarket$Reader", "errorCode", "I", false)
  | 3 => ("FogBellMarket$Reader", "errorPosition", "I", false)
  | 4 => ("FogBellMarket$Reader", "verb", "LFogBellMarket$Verb;", false)
  | 5 => ("FogBellMarket$Reader", "arguments", "[I", true)
  | 6 => ("FogBellMarket$Reader", "next", "I", false)
  | 7 => ("FogBellMarket$Reader", "token", "I", false)
  | 8 => ("FogBellMarket$Reader", "tokenStart", "I", false)
  | _ => ("FogBellMarket$Reader", "number", "I", false)
def tyX3 : Nat → FieldType := fun k => match k with
  | 0 => .array .byte
  | 1 => .int
  | 2 => .int
  | 3 => .int
  | 4 => .object "FogBellMarket$Verb"
  | 5 => .array .int
  | 6 => .int
  | 7 => .int
  | 8 => .int
  | _ => .int
theorem nmX3 : ∀ a, a < 10 → ∀ b, b < 10 → a ≠ b → (TX3 a).2.1 ≠ (TX3 b).2.1 := by decide +kernel
theorem tyX3_ok : ∀ k, k < 10 → parseFieldDescriptor (TX3 k).2.2.1 = some (tyX3 k) := by decide +kernel
abbrev cX3_init : ByteArray := prog_5_method_1_code
def yX3_init : MethodName := ⟨RX3, "<init>", "()V"⟩
abbrev cX3_appendText : ByteArray := prog_5_method_2_code
def yX3_appendText : MethodName := ⟨RX3, "appendText", "(Ljava/lang/String;)V"⟩
abbrev cX3_appendWord : ByteArray := prog_5_method_3_code
def yX3_appendWord : MethodName := ⟨RX3, "appendWord", "(I)V"⟩
abbrev cX3_appendByte : ByteArray := prog_5_method_4_code
def yX3_appendByte : MethodName := ⟨RX3, "appendByte", "(I)V"⟩
abbrev cX3_clear : ByteArray := prog_5_method_5_code
def yX3_clear : MethodName := ⟨RX3, "clear", "()V"⟩
abbrev cX3_begin : ByteArray := prog_5_method_6_code
def yX3_begin : MethodName := ⟨RX3, "begin", "()V"⟩
abbrev cX3_argument : ByteArray := prog_5_method_7_code
def yX3_argument : MethodName := ⟨RX3, "argument", "(I)I"⟩
abbrev cX3_readHead : ByteArray := prog_5_method_8_code
def yX3_readHead : MethodName := ⟨RX3, "readHead", "(LFogBellMarket$Market;)Z"⟩
abbrev cX3_readFog : ByteArray := prog_5_method_9_code
def yX3_readFog : MethodName := ⟨RX3, "readFog", "(LFogBellMarket$Market;)Z"⟩
abbrev cX3_readCommand : ByteArray := prog_5_method_10_code
def yX3_readCommand : MethodName := ⟨RX3, "readCommand", "(LFogBellMarket$Market;I)Z"⟩
abbrev cX3_verbRead : ByteArray := prog_5_method_11_code
def yX3_verbRead : MethodName := ⟨RX3, "verbRead", "()LFogBellMarket$Verb;"⟩
abbrev cX3_hasNoRoom : ByteArray := prog_5_method_12_code
def yX3_hasNoRoom : MethodName := ⟨RX3, "hasNoRoom", "(LFogBellMarket$Market;)Z"⟩
abbrev cX3_readArgument : ByteArray := prog_5_method_13_code
def yX3_readArgument : MethodName := ⟨RX3, "readArgument", "(LFogBellMarket$Market;CI)Z"⟩
abbrev cX3_keepArgument : ByteArray := prog_5_method_14_code
def yX3_keepArgument : MethodName := ⟨RX3, "keepArgument", "(II)V"⟩
abbrev cX3_lowest : ByteArray := prog_5_method_15_code
def yX3_lowest : MethodName := ⟨RX3, "lowest", "(C)I"⟩
abbrev cX3_highest : ByteArray := prog_5_method_16_code
def yX3_highest : MethodName := ⟨RX3, "highest", "(CLFogBellMarket$Market;)I"⟩
abbrev cX3_isRefusedBy : ByteArray := prog_5_method_17_code
def yX3_isRefusedBy : MethodName := ⟨RX3, "isRefusedBy", "(LFogBellMarket$Market;I)Z"⟩
abbrev cX3_lanternRead : ByteArray := prog_5_method_18_code
def yX3_lanternRead : MethodName := ⟨RX3, "lanternRead", "()I"⟩
abbrev cX3_textureRead : ByteArray := prog_5_method_19_code
def yX3_textureRead : MethodName := ⟨RX3, "textureRead", "()I"⟩
abbrev cX3_readWord : ByteArray := prog_5_method_20_code
def yX3_readWord : MethodName := ⟨RX3, "readWord", "(Ljava/lang/String;)Z"⟩
abbrev cX3_readNumber : ByteArray := prog_5_method_21_code
def yX3_readNumber : MethodName := ⟨RX3, "readNumber", "(II)Z"⟩
abbrev cX3_isNumberFrom : ByteArray := prog_5_method_22_code
def yX3_isNumberFrom : MethodName := ⟨RX3, "isNumberFrom", "(II)Z"⟩
abbrev cX3_readSemicolon : ByteArray := prog_5_method_23_code
def yX3_readSemicolon : MethodName := ⟨RX3, "readSemicolon", "()Z"⟩
abbrev cX3_fail : ByteArray := prog_5_method_24_code
def yX3_fail : MethodName := ⟨RX3, "fail", "(I)Z"⟩
abbrev cX3_isWord : ByteArray := prog_5_method_25_code
def yX3_isWord : MethodName := ⟨RX3, "isWord", "(Ljava/lang/String;)Z"⟩
abbrev cX3_byteAt : ByteArray := prog_5_method_26_code
def yX3_byteAt : MethodName := ⟨RX3, "byteAt", "(I)I"⟩
abbrev cX3_readToken : ByteArray := prog_5_method_27_code
def yX3_readToken : MethodName := ⟨RX3, "readToken", "()V"⟩
abbrev cX3_readDigits : ByteArray := prog_5_method_28_code
def yX3_readDigits : MethodName := ⟨RX3, "readDigits", "()V"⟩
abbrev cX3_isLetter : ByteArray := prog_5_method_29_code
def yX3_isLetter : MethodName := ⟨RX3, "isLetter", "(I)Z"⟩
abbrev cX3_isDigit : ByteArray := prog_5_method_30_code
def yX3_isDigit : MethodName := ⟨RX3, "isDigit", "(I)Z"⟩
def RX4 : String := "FogBellMarket$Stall"
def TX4 : u_T := fun k => match k with
  | 0 => ("FogBellMarket$Stall", "position", "I", false)
  | 1 => ("FogBellMarket$Stall", "lantern", "I", false)
  | 2 => ("FogBellMarket$Stall", "texture", "I", false)
  | 3 => ("FogBellMarket$Stall", "price", "I", false)
  | 4 => ("FogBellMarket$Stall", "stock", "I", false)
  | 5 => ("FogBellMarket$Stall", "sold", "I", false)
  | 6 => ("FogBellMarket$Stall", "lost", "I", false)
  | 7 => ("FogBellMarket$Stall", "earned", "I", false)
  | _ => ("FogBellMarket$Stall", "came", "I", false)
def tyX4 : Nat → FieldType := fun k => match k with
  | 0 => .int
  | 1 => .int
  | 2 => .int
  | 3 => .int
  | 4 => .int
  | 5 => .int
  | 6 => .int
  | 7 => .int
  | _ => .int
theorem nmX4 : ∀ a, a < 9 → ∀ b, b < 9 → a ≠ b → (TX4 a).2.1 ≠ (TX4 b).2.1 := by decide +kernel
theorem tyX4_ok : ∀ k, k < 9 → parseFieldDescriptor (TX4 k).2.2.1 = some (tyX4 k) := by decide +kernel
abbrev cX4_init : ByteArray := prog_6_method_1_code
def yX4_init : MethodName := ⟨RX4, "<init>", "()V"⟩
abbrev cX4_reset : ByteArray := prog_6_method_2_code
def yX4_reset : MethodName := ⟨RX4, "reset", "(IIII)V"⟩
abbrev cX4_copyFrom : ByteArray := prog_6_method_3_code
def yX4_copyFrom : MethodName := ⟨RX4, "copyFrom", "(LFogBellMarket$Stall;)V"⟩
abbrev cX4_hasRoomFor : ByteArray := prog_6_method_4_code
def yX4_hasRoomFor : MethodName := ⟨RX4, "hasRoomFor", "(I)Z"⟩
abbrev cX4_receive : ByteArray := prog_6_method_5_code
def yX4_receive : MethodName := ⟨RX4, "receive", "(I)V"⟩
abbrev cX4_paces : ByteArray := prog_6_method_6_code
def yX4_paces : MethodName := ⟨RX4, "paces", "(II)I"⟩
abbrev cX4_isSeenFrom : ByteArray := prog_6_method_7_code
def yX4_isSeenFrom : MethodName := ⟨RX4, "isSeenFrom", "(II)Z"⟩
abbrev cX4_guardedDensity : ByteArray := prog_6_method_8_code
def yX4_guardedDensity : MethodName := ⟨RX4, "guardedDensity", "()I"⟩
abbrev cX4_letMistIn : ByteArray := prog_6_method_9_code
def yX4_letMistIn : MethodName := ⟨RX4, "letMistIn", "(I)V"⟩
def RX5 : String := "FogBellMarket$Verb"
def TX5 : u_T := fun k => match k with
  | _ => ("", "", "", false)
def tyX5 : Nat → FieldType := fun k => match k with
  | _ => .int
theorem nmX5 : ∀ a, a < 0 → ∀ b, b < 0 → a ≠ b → (TX5 a).2.1 ≠ (TX5 b).2.1 := by decide +kernel
theorem tyX5_ok : ∀ k, k < 0 → parseFieldDescriptor (TX5 k).2.2.1 = some (tyX5 k) := by decide +kernel
def RX6 : String := "FogBellMarket"
def TX6 : u_T := fun k => match k with
  | 0 => ("FogBellMarket", "market", "LFogBellMarket$Market;", true)
  | 1 => ("FogBellMarket", "draft", "LFogBellMarket$Market;", true)
  | 2 => ("FogBellMarket", "probe", "LFogBellMarket$Market;", true)
  | 3 => ("FogBellMarket", "reader", "LFogBellMarket$Reader;", true)
  | 4 => ("FogBellMarket", "past", "[LFogBellMarket$Market;", true)
  | 5 => ("FogBellMarket", "pastNext", "I", false)
  | 6 => ("FogBellMarket", "pastCount", "I", false)
  | 7 => ("FogBellMarket", "saved", "[LFogBellMarket$Market;", true)
  | 8 => ("FogBellMarket", "hasSaved", "[Z", true)
  | 9 => ("FogBellMarket", "output", "[B", true)
  | _ => ("FogBellMarket", "outputLength", "I", false)
def tyX6 : Nat → FieldType := fun k => match k with
  | 0 => .object "FogBellMarket$Market"
  | 1 => .object "FogBellMarket$Market"
  | 2 => .object "FogBellMarket$Market"
  | 3 => .object "FogBellMarket$Reader"
  | 4 => .array (.object "FogBellMarket$Market")
  | 5 => .int
  | 6 => .int
  | 7 => .array (.object "FogBellMarket$Market")
  | 8 => .array .boolean
  | 9 => .array .byte
  | _ => .int
theorem nmX6 : ∀ a, a < 11 → ∀ b, b < 11 → a ≠ b → (TX6 a).2.1 ≠ (TX6 b).2.1 := by decide +kernel
theorem tyX6_ok : ∀ k, k < 11 → parseFieldDescriptor (TX6 k).2.2.1 = some (tyX6 k) := by decide +kernel
abbrev cX6_init : ByteArray := prog_1_method_1_code
def yX6_init : MethodName := ⟨RX6, "<init>", "()V"⟩
abbrev cX6_feed : ByteArray := prog_1_method_2_code
def yX6_feed : MethodName := ⟨RX6, "feed", "(IIIII)I"⟩
abbrev cX6_loadSetup : ByteArray := prog_1_method_3_code
def yX6_loadSetup : MethodName := ⟨RX6, "loadSetup", "()I"⟩
abbrev cX6_runScript : ByteArray := prog_1_method_4_code
def yX6_runScript : MethodName := ⟨RX6, "runScript", "()I"⟩
abbrev cX6_errorCode : ByteArray := prog_1_method_5_code
def yX6_errorCode : MethodName := ⟨RX6, "errorCode", "()I"⟩
abbrev cX6_errorPosition : ByteArray := prog_1_method_6_code
def yX6_errorPosition : MethodName := ⟨RX6, "errorPosition", "()I"⟩
abbrev cX6_bytesIn : ByteArray := prog_1_method_7_code
def yX6_bytesIn : MethodName := ⟨RX6, "bytesIn", "(I)I"⟩
abbrev cX6_replaceMarket : ByteArray := prog_1_method_8_code
def yX6_replaceMarket : MethodName := ⟨RX6, "replaceMarket", "()Z"⟩
abbrev cX6_readCommands : ByteArray := prog_1_method_9_code
def yX6_readCommands : MethodName := ⟨RX6, "readCommands", "()I"⟩
abbrev cX6_minute : ByteArray := prog_1_method_10_code
def yX6_minute : MethodName := ⟨RX6, "minute", "()I"⟩
abbrev cX6_bellPosition : ByteArray := prog_1_method_11_code
def yX6_bellPosition : MethodName := ⟨RX6, "bellPosition", "()I"⟩
abbrev cX6_threshold : ByteArray := prog_1_method_12_code
def yX6_threshold : MethodName := ⟨RX6, "threshold", "()I"⟩
abbrev cX6_duration : ByteArray := prog_1_method_13_code
def yX6_duration : MethodName := ⟨RX6, "duration", "()I"⟩
abbrev cX6_undoCount : ByteArray := prog_1_method_14_code
def yX6_undoCount : MethodName := ⟨RX6, "undoCount", "()I"⟩
abbrev cX6_fogIn : ByteArray := prog_1_method_15_code
def yX6_fogIn : MethodName := ⟨RX6, "fogIn", "(I)I"⟩
abbrev cX6_isOpen : ByteArray := prog_1_method_16_code
def yX6_isOpen : MethodName := ⟨RX6, "isOpen", "()Z"⟩
abbrev cX6_isReady : ByteArray := prog_1_method_17_code
def yX6_isReady : MethodName := ⟨RX6, "isReady", "()Z"⟩
abbrev cX6_openMinutes : ByteArray := prog_1_method_18_code
def yX6_openMinutes : MethodName := ⟨RX6, "openMinutes", "()I"⟩
abbrev cX6_ringings : ByteArray := prog_1_method_19_code
def yX6_ringings : MethodName := ⟨RX6, "ringings", "()I"⟩
abbrev cX6_minutesToBell : ByteArray := prog_1_method_20_code
def yX6_minutesToBell : MethodName := ⟨RX6, "minutesToBell", "()I"⟩
abbrev cX6_minutesToEnd : ByteArray := prog_1_method_21_code
def yX6_minutesToEnd : MethodName := ⟨RX6, "minutesToEnd", "()I"⟩
abbrev cX6_stallCount : ByteArray := prog_1_method_22_code
def yX6_stallCount : MethodName := ⟨RX6, "stallCount", "()I"⟩
abbrev cX6_positionOf : ByteArray := prog_1_method_23_code
def yX6_positionOf : MethodName := ⟨RX6, "positionOf", "(I)I"⟩
abbrev cX6_lanternOf : ByteArray := prog_1_method_24_code
def yX6_lanternOf : MethodName := ⟨RX6, "lanternOf", "(I)I"⟩
abbrev cX6_textureOf : ByteArray := prog_1_method_25_code
def yX6_textureOf : MethodName := ⟨RX6, "textureOf", "(I)I"⟩
abbrev cX6_priceOf : ByteArray := prog_1_method_26_code
def yX6_priceOf : MethodName := ⟨RX6, "priceOf", "(I)I"⟩
abbrev cX6_stockOf : ByteArray := prog_1_method_27_code
def yX6_stockOf : MethodName := ⟨RX6, "stockOf", "(I)I"⟩
abbrev cX6_heldOf : ByteArray := prog_1_method_28_code
def yX6_heldOf : MethodName := ⟨RX6, "heldOf", "(I)I"⟩
abbrev cX6_soldOf : ByteArray := prog_1_method_29_code
def yX6_soldOf : MethodName := ⟨RX6, "soldOf", "(I)I"⟩
abbrev cX6_lostOf : ByteArray := prog_1_method_30_code
def yX6_lostOf : MethodName := ⟨RX6, "lostOf", "(I)I"⟩
abbrev cX6_earnings : ByteArray := prog_1_method_31_code
def yX6_earnings : MethodName := ⟨RX6, "earnings", "(I)I"⟩
abbrev cX6_reach : ByteArray := prog_1_method_32_code
def yX6_reach : MethodName := ⟨RX6, "reach", "(II)I"⟩
abbrev cX6_seenFrom : ByteArray := prog_1_method_33_code
def yX6_seenFrom : MethodName := ⟨RX6, "seenFrom", "(I)I"⟩
abbrev cX6_checkStall : ByteArray := prog_1_method_34_code
def yX6_checkStall : MethodName := ⟨RX6, "checkStall", "(I)V"⟩
abbrev cX6_stallAt : ByteArray := prog_1_method_35_code
def yX6_stallAt : MethodName := ⟨RX6, "stallAt", "(I)LFogBellMarket$Stall;"⟩
abbrev cX6_checkRange : ByteArray := prog_1_method_36_code
def yX6_checkRange : MethodName := ⟨RX6, "checkRange", "(III)V"⟩
abbrev cX6_buyerCount : ByteArray := prog_1_method_37_code
def yX6_buyerCount : MethodName := ⟨RX6, "buyerCount", "()I"⟩
abbrev cX6_placeOf : ByteArray := prog_1_method_38_code
def yX6_placeOf : MethodName := ⟨RX6, "placeOf", "(I)I"⟩
abbrev cX6_coinsOf : ByteArray := prog_1_method_39_code
def yX6_coinsOf : MethodName := ⟨RX6, "coinsOf", "(I)I"⟩
abbrev cX6_wantedTexture : ByteArray := prog_1_method_40_code
def yX6_wantedTexture : MethodName := ⟨RX6, "wantedTexture", "(I)I"⟩
abbrev cX6_speedOf : ByteArray := prog_1_method_41_code
def yX6_speedOf : MethodName := ⟨RX6, "speedOf", "(I)I"⟩
abbrev cX6_heldFrom : ByteArray := prog_1_method_42_code
def yX6_heldFrom : MethodName := ⟨RX6, "heldFrom", "(I)I"⟩
abbrev cX6_debtOf : ByteArray := prog_1_method_43_code
def yX6_debtOf : MethodName := ⟨RX6, "debtOf", "(I)I"⟩
abbrev cX6_avoidedBy : ByteArray := prog_1_method_44_code
def yX6_avoidedBy : MethodName := ⟨RX6, "avoidedBy", "(I)I"⟩
abbrev cX6_boughtBy : ByteArray := prog_1_method_45_code
def yX6_boughtBy : MethodName := ⟨RX6, "boughtBy", "(I)I"⟩
abbrev cX6_targetOf : ByteArray := prog_1_method_46_code
def yX6_targetOf : MethodName := ⟨RX6, "targetOf", "(I)I"⟩
abbrev cX6_touch : ByteArray := prog_1_method_47_code
def yX6_touch : MethodName := ⟨RX6, "touch", "(II)I"⟩
abbrev cX6_checkBuyer : ByteArray := prog_1_method_48_code
def yX6_checkBuyer : MethodName := ⟨RX6, "checkBuyer", "(I)V"⟩
abbrev cX6_buyerAt : ByteArray := prog_1_method_49_code
def yX6_buyerAt : MethodName := ⟨RX6, "buyerAt", "(I)LFogBellMarket$Buyer;"⟩
abbrev cX6_coinsInAll : ByteArray := prog_1_method_50_code
def yX6_coinsInAll : MethodName := ⟨RX6, "coinsInAll", "()I"⟩
abbrev cX6_consistencyError : ByteArray := prog_1_method_51_code
def yX6_consistencyError : MethodName := ⟨RX6, "consistencyError", "()I"⟩
abbrev cX6_meanPaid : ByteArray := prog_1_method_52_code
def yX6_meanPaid : MethodName := ⟨RX6, "meanPaid", "()D"⟩
abbrev cX6_spoiledShare : ByteArray := prog_1_method_53_code
def yX6_spoiledShare : MethodName := ⟨RX6, "spoiledShare", "()F"⟩
abbrev cX6_minutesToPay : ByteArray := prog_1_method_54_code
def yX6_minutesToPay : MethodName := ⟨RX6, "minutesToPay", "(I)I"⟩
abbrev cX6_earningsAfter : ByteArray := prog_1_method_55_code
def yX6_earningsAfter : MethodName := ⟨RX6, "earningsAfter", "(II)I"⟩
abbrev cX6_bestPrice : ByteArray := prog_1_method_56_code
def yX6_bestPrice : MethodName := ⟨RX6, "bestPrice", "(I)I"⟩
abbrev cX6_bestLantern : ByteArray := prog_1_method_57_code
def yX6_bestLantern : MethodName := ⟨RX6, "bestLantern", "(I)I"⟩
abbrev cX6_nextPayer : ByteArray := prog_1_method_58_code
def yX6_nextPayer : MethodName := ⟨RX6, "nextPayer", "()I"⟩
abbrev cX6_bestBellPosition : ByteArray := prog_1_method_59_code
def yX6_bestBellPosition : MethodName := ⟨RX6, "bestBellPosition", "()I"⟩
abbrev cX6_addStall : ByteArray := prog_1_method_60_code
def yX6_addStall : MethodName := ⟨RX6, "addStall", "(IIIII)I"⟩
abbrev cX6_addBuyer : ByteArray := prog_1_method_61_code
def yX6_addBuyer : MethodName := ⟨RX6, "addBuyer", "(IIII)I"⟩
abbrev cX6_setPrice : ByteArray := prog_1_method_62_code
def yX6_setPrice : MethodName := ⟨RX6, "setPrice", "(II)I"⟩
abbrev cX6_addStock : ByteArray := prog_1_method_63_code
def yX6_addStock : MethodName := ⟨RX6, "addStock", "(II)I"⟩
abbrev cX6_setLantern : ByteArray := prog_1_method_64_code
def yX6_setLantern : MethodName := ⟨RX6, "setLantern", "(II)I"⟩
abbrev cX6_moveStall : ByteArray := prog_1_method_65_code
def yX6_moveStall : MethodName := ⟨RX6, "moveStall", "(II)I"⟩
abbrev cX6_setFog : ByteArray := prog_1_method_66_code
def yX6_setFog : MethodName := ⟨RX6, "setFog", "(II)I"⟩
abbrev cX6_putBack : ByteArray := prog_1_method_67_code
def yX6_putBack : MethodName := ⟨RX6, "putBack", "(I)I"⟩
abbrev cX6_passMinutes : ByteArray := prog_1_method_68_code
def yX6_passMinutes : MethodName := ⟨RX6, "passMinutes", "(I)I"⟩
abbrev cX6_remember : ByteArray := prog_1_method_69_code
def yX6_remember : MethodName := ⟨RX6, "remember", "()V"⟩
abbrev cX6_forgetChanges : ByteArray := prog_1_method_70_code
def yX6_forgetChanges : MethodName := ⟨RX6, "forgetChanges", "()V"⟩
abbrev cX6_undo : ByteArray := prog_1_method_71_code
def yX6_undo : MethodName := ⟨RX6, "undo", "()I"⟩
abbrev cX6_save : ByteArray := prog_1_method_72_code
def yX6_save : MethodName := ⟨RX6, "save", "(I)I"⟩
abbrev cX6_restore : ByteArray := prog_1_method_73_code
def yX6_restore : MethodName := ⟨RX6, "restore", "(I)I"⟩
abbrev cX6_writeRope : ByteArray := prog_1_method_74_code
def yX6_writeRope : MethodName := ⟨RX6, "writeRope", "()I"⟩
abbrev cX6_outputByte : ByteArray := prog_1_method_75_code
def yX6_outputByte : MethodName := ⟨RX6, "outputByte", "(I)I"⟩
abbrev cX6_drawOnRope : ByteArray := prog_1_method_76_code
def yX6_drawOnRope : MethodName := ⟨RX6, "drawOnRope", "(II)V"⟩
def RX7 : String := "FogBellMarketModel"
def TX7 : u_T := fun k => match k with
  | 0 => ("FogBellMarketModel", "buffer", "[I", true)
  | 1 => ("FogBellMarketModel", "bytes", "I", false)
  | 2 => ("FogBellMarketModel", "errorCode", "I", false)
  | 3 => ("FogBellMarketModel", "errorPosition", "I", false)
  | 4 => ("FogBellMarketModel", "thrown", "I", false)
  | 5 => ("FogBellMarketModel", "now", "[I", true)
  | 6 => ("FogBellMarketModel", "aside", "[I", true)
  | 7 => ("FogBellMarketModel", "trial", "[I", true)
  | 8 => ("FogBellMarketModel", "history", "[I", true)
  | 9 => ("FogBellMarketModel", "historySize", "I", false)
  | 10 => ("FogBellMarketModel", "saved", "[I", true)
  | 11 => ("FogBellMarketModel", "isSaved", "[Z", true)
  | 12 => ("FogBellMarketModel", "ended", "Z", false)
  | 13 => ("FogBellMarketModel", "told", "[I", true)
  | 14 => ("FogBellMarketModel", "output", "[I", true)
  | 15 => ("FogBellMarketModel", "at", "I", false)
  | 16 => ("FogBellMarketModel", "token", "I", false)
  | 17 => ("FogBellMarketModel", "begin", "I", false)
  | 18 => ("FogBellMarketModel", "number", "I", false)
  | _ => ("FogBellMarketModel", "outputLength", "I", false)
def tyX7 : Nat → FieldType := fun k => match k with
  | 0 => .array .int
  | 1 => .int
  | 2 => .int
  | 3 => .int
  | 4 => .int
  | 5 => .array .int
  | 6 => .array .int
  | 7 => .array .int
  | 8 => .array .int
  | 9 => .int
  | 10 => .array .int
  | 11 => .array .boolean
  | 12 => .boolean
  | 13 => .array .int
  | 14 => .array .int
  | 15 => .int
  | 16 => .int
  | 17 => .int
  | 18 => .int
  | _ => .int
theorem nmX7 : ∀ a, a < 20 → ∀ b, b < 20 → a ≠ b → (TX7 a).2.1 ≠ (TX7 b).2.1 := by decide +kernel
theorem tyX7_ok : ∀ k, k < 20 → parseFieldDescriptor (TX7 k).2.2.1 = some (tyX7 k) := by decide +kernel
abbrev cX7_init : ByteArray := prog_9_method_1_code
def yX7_init : MethodName := ⟨RX7, "<init>", "()V"⟩
abbrev cX7_thrown : ByteArray := prog_9_method_2_code
def yX7_thrown : MethodName := ⟨RX7, "thrown", "()I"⟩
abbrev cX7_inRange : ByteArray := prog_9_method_3_code
def yX7_inRange : MethodName := ⟨RX7, "inRange", "(III)Z"⟩
abbrev cX7_fails : ByteArray := prog_9_method_4_code
def yX7_fails : MethodName := ⟨RX7, "fails", "(ZI)Z"⟩
abbrev cX7_flag : ByteArray := prog_9_method_5_code
def yX7_flag : MethodName := ⟨RX7, "flag", "(Z)I"⟩
abbrev cX7_has : ByteArray := prog_9_method_6_code
def yX7_has : MethodName := ⟨RX7, "has", "(II)Z"⟩
abbrev cX7_st : ByteArray := prog_9_method_7_code
def yX7_st : MethodName := ⟨RX7, "st", "(II)I"⟩
abbrev cX7_more : ByteArray := prog_9_method_8_code
def yX7_more : MethodName := ⟨RX7, "more", "(III)V"⟩
abbrev cX7_by : ByteArray := prog_9_method_9_code
def yX7_by : MethodName := ⟨RX7, "by", "(II)I"⟩
abbrev cX7_put : ByteArray := prog_9_method_10_code
def yX7_put : MethodName := ⟨RX7, "put", "(III)V"⟩
abbrev cX7_fogAt : ByteArray := prog_9_method_11_code
def yX7_fogAt : MethodName := ⟨RX7, "fogAt", "(I)I"⟩
abbrev cX7_reachOf : ByteArray := prog_9_method_12_code
def yX7_reachOf : MethodName := ⟨RX7, "reachOf", "(II)I"⟩
abbrev cX7_guardOf : ByteArray := prog_9_method_13_code
def yX7_guardOf : MethodName := ⟨RX7, "guardOf", "(I)I"⟩
abbrev cX7_apart : ByteArray := prog_9_method_14_code
def yX7_apart : MethodName := ⟨RX7, "apart", "(II)I"⟩
abbrev cX7_isSeen : ByteArray := prog_9_method_15_code
def yX7_isSeen : MethodName := ⟨RX7, "isSeen", "(III)Z"⟩
abbrev cX7_target : ByteArray := prog_9_method_16_code
def yX7_target : MethodName := ⟨RX7, "target", "(II)I"⟩
abbrev cX7_feel : ByteArray := prog_9_method_17_code
def yX7_feel : MethodName := ⟨RX7, "feel", "(II)I"⟩
abbrev cX7_giveBack : ByteArray := prog_9_method_18_code
def yX7_giveBack : MethodName := ⟨RX7, "giveBack", "(I)V"⟩
abbrev cX7_stepBell : ByteArray := prog_9_method_19_code
def yX7_stepBell : MethodName := ⟨RX7, "stepBell", "(I)V"⟩
abbrev cX7_endBell : ByteArray := prog_9_method_20_code
def yX7_endBell : MethodName := ⟨RX7, "endBell", "()V"⟩
abbrev cX7_walk : ByteArray := prog_9_method_21_code
def yX7_walk : MethodName := ⟨RX7, "walk", "(II)V"⟩
abbrev cX7_act : ByteArray := prog_9_method_22_code
def yX7_act : MethodName := ⟨RX7, "act", "(II)I"⟩
abbrev cX7_pay : ByteArray := prog_9_method_23_code
def yX7_pay : MethodName := ⟨RX7, "pay", "(I)I"⟩
abbrev cX7_takes : ByteArray := prog_9_method_24_code
def yX7_takes : MethodName := ⟨RX7, "takes", "(II)V"⟩
abbrev cX7_passMinute : ByteArray := prog_9_method_25_code
def yX7_passMinute : MethodName := ⟨RX7, "passMinute", "()I"⟩
abbrev cX7_passAll : ByteArray := prog_9_method_26_code
def yX7_passAll : MethodName := ⟨RX7, "passAll", "(I)I"⟩
abbrev cX7_doStall : ByteArray := prog_9_method_27_code
def yX7_doStall : MethodName := ⟨RX7, "doStall", "(IIIII)I"⟩
abbrev cX7_doBuyer : ByteArray := prog_9_method_28_code
def yX7_doBuyer : MethodName := ⟨RX7, "doBuyer", "(IIII)I"⟩
abbrev cX7_doStock : ByteArray := prog_9_method_29_code
def yX7_doStock : MethodName := ⟨RX7, "doStock", "(II)I"⟩
abbrev cX7_doBack : ByteArray := prog_9_method_30_code
def yX7_doBack : MethodName := ⟨RX7, "doBack", "(I)I"⟩
abbrev cX7_lays : ByteArray := prog_9_method_31_code
def yX7_lays : MethodName := ⟨RX7, "lays", "(II)I"⟩
abbrev cX7_feed : ByteArray := prog_9_method_32_code
def yX7_feed : MethodName := ⟨RX7, "feed", "(IIIII)I"⟩
abbrev cX7_byteOf : ByteArray := prog_9_method_33_code
def yX7_byteOf : MethodName := ⟨RX7, "byteOf", "(IIIIII)I"⟩
abbrev cX7_isSmall : ByteArray := prog_9_method_34_code
def yX7_isSmall : MethodName := ⟨RX7, "isSmall", "(I)Z"⟩
abbrev cX7_isDigit : ByteArray := prog_9_method_35_code
def yX7_isDigit : MethodName := ⟨RX7, "isDigit", "(I)Z"⟩
abbrev cX7_next : ByteArray := prog_9_method_36_code
def yX7_next : MethodName := ⟨RX7, "next", "()V"⟩
abbrev cX7_wrong : ByteArray := prog_9_method_37_code
def yX7_wrong : MethodName := ⟨RX7, "wrong", "(I)Z"⟩
abbrev cX7_isWord : ByteArray := prog_9_method_38_code
def yX7_isWord : MethodName := ⟨RX7, "isWord", "(Ljava/lang/String;)Z"⟩
abbrev cX7_expects : ByteArray := prog_9_method_39_code
def yX7_expects : MethodName := ⟨RX7, "expects", "(Ljava/lang/String;)Z"⟩
abbrev cX7_numberIn : ByteArray := prog_9_method_40_code
def yX7_numberIn : MethodName := ⟨RX7, "numberIn", "(II)Z"⟩
abbrev cX7_isEnd : ByteArray := prog_9_method_41_code
def yX7_isEnd : MethodName := ⟨RX7, "isEnd", "()Z"⟩
abbrev cX7_semicolon : ByteArray := prog_9_method_42_code
def yX7_semicolon : MethodName := ⟨RX7, "semicolon", "()Z"⟩
abbrev cX7_startText : ByteArray := prog_9_method_43_code
def yX7_startText : MethodName := ⟨RX7, "startText", "()V"⟩
abbrev cX7_into : ByteArray := prog_9_method_44_code
def yX7_into : MethodName := ⟨RX7, "into", "(III)Z"⟩
abbrev cX7_lanternInto : ByteArray := prog_9_method_45_code
def yX7_lanternInto : MethodName := ⟨RX7, "lanternInto", "(I)Z"⟩
abbrev cX7_textureInto : ByteArray := prog_9_method_46_code
def yX7_textureInto : MethodName := ⟨RX7, "textureInto", "(I)Z"⟩
abbrev cX7_wordRead : ByteArray := prog_9_method_47_code
def yX7_wordRead : MethodName := ⟨RX7, "wordRead", "(I)Z"⟩
abbrev cX7_setupText : ByteArray := prog_9_method_48_code
def yX7_setupText : MethodName := ⟨RX7, "setupText", "()Z"⟩
abbrev cX7_commandHere : ByteArray := prog_9_method_49_code
def yX7_commandHere : MethodName := ⟨RX7, "commandHere", "()I"⟩
abbrev cX7_commandsText : ByteArray := prog_9_method_50_code
def yX7_commandsText : MethodName := ⟨RX7, "commandsText", "()I"⟩
abbrev cX7_argumentsText : ByteArray := prog_9_method_51_code
def yX7_argumentsText : MethodName := ⟨RX7, "argumentsText", "(I)Z"⟩
abbrev cX7_holderInto : ByteArray := prog_9_method_52_code
def yX7_holderInto : MethodName := ⟨RX7, "holderInto", "()Z"⟩
abbrev cX7_stockInto : ByteArray := prog_9_method_53_code
def yX7_stockInto : MethodName := ⟨RX7, "stockInto", "()Z"⟩
abbrev cX7_commandText : ByteArray := prog_9_method_54_code
def yX7_commandText : MethodName := ⟨RX7, "commandText", "(I)Z"⟩
abbrev cX7_does : ByteArray := prog_9_method_55_code
def yX7_does : MethodName := ⟨RX7, "does", "(I)I"⟩
abbrev cX7_loadSetup : ByteArray := prog_9_method_56_code
def yX7_loadSetup : MethodName := ⟨RX7, "loadSetup", "()I"⟩
abbrev cX7_runScript : ByteArray := prog_9_method_57_code
def yX7_runScript : MethodName := ⟨RX7, "runScript", "()I"⟩
abbrev cX7_startTrial : ByteArray := prog_9_method_58_code
def yX7_startTrial : MethodName := ⟨RX7, "startTrial", "()V"⟩
abbrev cX7_leaveTrial : ByteArray := prog_9_method_59_code
def yX7_leaveTrial : MethodName := ⟨RX7, "leaveTrial", "(I)I"⟩
abbrev cX7_plain : ByteArray := prog_9_method_60_code
def yX7_plain : MethodName := ⟨RX7, "plain", "(I)I"⟩
abbrev cX7_errorCode : ByteArray := prog_9_method_61_code
def yX7_errorCode : MethodName := ⟨RX7, "errorCode", "()I"⟩
abbrev cX7_errorPosition : ByteArray := prog_9_method_62_code
def yX7_errorPosition : MethodName := ⟨RX7, "errorPosition", "()I"⟩
abbrev cX7_minute : ByteArray := prog_9_method_63_code
def yX7_minute : MethodName := ⟨RX7, "minute", "()I"⟩
abbrev cX7_bellPosition : ByteArray := prog_9_method_64_code
def yX7_bellPosition : MethodName := ⟨RX7, "bellPosition", "()I"⟩
abbrev cX7_threshold : ByteArray := prog_9_method_65_code
def yX7_threshold : MethodName := ⟨RX7, "threshold", "()I"⟩
abbrev cX7_duration : ByteArray := prog_9_method_66_code
def yX7_duration : MethodName := ⟨RX7, "duration", "()I"⟩
abbrev cX7_undoCount : ByteArray := prog_9_method_67_code
def yX7_undoCount : MethodName := ⟨RX7, "undoCount", "()I"⟩
abbrev cX7_fogIn : ByteArray := prog_9_method_68_code
def yX7_fogIn : MethodName := ⟨RX7, "fogIn", "(I)I"⟩
abbrev cX7_isOpen : ByteArray := prog_9_method_69_code
def yX7_isOpen : MethodName := ⟨RX7, "isOpen", "()Z"⟩
abbrev cX7_isReady : ByteArray := prog_9_method_70_code
def yX7_isReady : MethodName := ⟨RX7, "isReady", "()Z"⟩
abbrev cX7_openMinutes : ByteArray := prog_9_method_71_code
def yX7_openMinutes : MethodName := ⟨RX7, "openMinutes", "()I"⟩
abbrev cX7_ringings : ByteArray := prog_9_method_72_code
def yX7_ringings : MethodName := ⟨RX7, "ringings", "()I"⟩
abbrev cX7_minutesTo : ByteArray := prog_9_method_73_code
def yX7_minutesTo : MethodName := ⟨RX7, "minutesTo", "(Z)I"⟩
abbrev cX7_minutesToBell : ByteArray := prog_9_method_74_code
def yX7_minutesToBell : MethodName := ⟨RX7, "minutesToBell", "()I"⟩
abbrev cX7_minutesToEnd : ByteArray := prog_9_method_75_code
def yX7_minutesToEnd : MethodName := ⟨RX7, "minutesToEnd", "()I"⟩
abbrev cX7_isStall : ByteArray := prog_9_method_76_code
def yX7_isStall : MethodName := ⟨RX7, "isStall", "(I)Z"⟩
abbrev cX7_isBuyer : ByteArray := prog_9_method_77_code
def yX7_isBuyer : MethodName := ⟨RX7, "isBuyer", "(I)Z"⟩
abbrev cX7_asked : ByteArray := prog_9_method_78_code
def yX7_asked : MethodName := ⟨RX7, "asked", "(II)I"⟩
abbrev cX7_askedOf : ByteArray := prog_9_method_79_code
def yX7_askedOf : MethodName := ⟨RX7, "askedOf", "(II)I"⟩
abbrev cX7_stallCount : ByteArray := prog_9_method_80_code
def yX7_stallCount : MethodName := ⟨RX7, "stallCount", "()I"⟩
abbrev cX7_positionOf : ByteArray := prog_9_method_81_code
def yX7_positionOf : MethodName := ⟨RX7, "positionOf", "(I)I"⟩
abbrev cX7_lanternOf : ByteArray := prog_9_method_82_code
def yX7_lanternOf : MethodName := ⟨RX7, "lanternOf", "(I)I"⟩
abbrev cX7_textureOf : ByteArray := prog_9_method_83_code
def yX7_textureOf : MethodName := ⟨RX7, "textureOf", "(I)I"⟩
abbrev cX7_priceOf : ByteArray := prog_9_method_84_code
def yX7_priceOf : MethodName := ⟨RX7, "priceOf", "(I)I"⟩
abbrev cX7_stockOf : ByteArray := prog_9_method_85_code
def yX7_stockOf : MethodName := ⟨RX7, "stockOf", "(I)I"⟩
abbrev cX7_held : ByteArray := prog_9_method_86_code
def yX7_held : MethodName := ⟨RX7, "held", "(I)I"⟩
abbrev cX7_heldOf : ByteArray := prog_9_method_87_code
def yX7_heldOf : MethodName := ⟨RX7, "heldOf", "(I)I"⟩
abbrev cX7_soldOf : ByteArray := prog_9_method_88_code
def yX7_soldOf : MethodName := ⟨RX7, "soldOf", "(I)I"⟩
abbrev cX7_lostOf : ByteArray := prog_9_method_89_code
def yX7_lostOf : MethodName := ⟨RX7, "lostOf", "(I)I"⟩
abbrev cX7_earnings : ByteArray := prog_9_method_90_code
def yX7_earnings : MethodName := ⟨RX7, "earnings", "(I)I"⟩
abbrev cX7_reach : ByteArray := prog_9_method_91_code
def yX7_reach : MethodName := ⟨RX7, "reach", "(II)I"⟩
abbrev cX7_seenFrom : ByteArray := prog_9_method_92_code
def yX7_seenFrom : MethodName := ⟨RX7, "seenFrom", "(I)I"⟩
abbrev cX7_buyerCount : ByteArray := prog_9_method_93_code
def yX7_buyerCount : MethodName := ⟨RX7, "buyerCount", "()I"⟩
abbrev cX7_placeOf : ByteArray := prog_9_method_94_code
def yX7_placeOf : MethodName := ⟨RX7, "placeOf", "(I)I"⟩
abbrev cX7_coinsOf : ByteArray := prog_9_method_95_code
def yX7_coinsOf : MethodName := ⟨RX7, "coinsOf", "(I)I"⟩
abbrev cX7_wantedTexture : ByteArray := prog_9_method_96_code
def yX7_wantedTexture : MethodName := ⟨RX7, "wantedTexture", "(I)I"⟩
abbrev cX7_speedOf : ByteArray := prog_9_method_97_code
def yX7_speedOf : MethodName := ⟨RX7, "speedOf", "(I)I"⟩
abbrev cX7_heldFrom : ByteArray := prog_9_method_98_code
def yX7_heldFrom : MethodName := ⟨RX7, "heldFrom", "(I)I"⟩
abbrev cX7_debtOf : ByteArray := prog_9_method_99_code
def yX7_debtOf : MethodName := ⟨RX7, "debtOf", "(I)I"⟩
abbrev cX7_avoidedBy : ByteArray := prog_9_method_100_code
def yX7_avoidedBy : MethodName := ⟨RX7, "avoidedBy", "(I)I"⟩
abbrev cX7_boughtBy : ByteArray := prog_9_method_101_code
def yX7_boughtBy : MethodName := ⟨RX7, "boughtBy", "(I)I"⟩
abbrev cX7_targetOf : ByteArray := prog_9_method_102_code
def yX7_targetOf : MethodName := ⟨RX7, "targetOf", "(I)I"⟩
abbrev cX7_touch : ByteArray := prog_9_method_103_code
def yX7_touch : MethodName := ⟨RX7, "touch", "(II)I"⟩
abbrev cX7_sumOf : ByteArray := prog_9_method_104_code
def yX7_sumOf : MethodName := ⟨RX7, "sumOf", "(I)I"⟩
abbrev cX7_coinsInAll : ByteArray := prog_9_method_105_code
def yX7_coinsInAll : MethodName := ⟨RX7, "coinsInAll", "()I"⟩
abbrev cX7_consistencyError : ByteArray := prog_9_method_106_code
def yX7_consistencyError : MethodName := ⟨RX7, "consistencyError", "()I"⟩
abbrev cX7_meanPaid : ByteArray := prog_9_method_107_code
def yX7_meanPaid : MethodName := ⟨RX7, "meanPaid", "()D"⟩
abbrev cX7_spoiledShare : ByteArray := prog_9_method_108_code
def yX7_spoiledShare : MethodName := ⟨RX7, "spoiledShare", "()F"⟩
abbrev cX7_minutesToPay : ByteArray := prog_9_method_109_code
def yX7_minutesToPay : MethodName := ⟨RX7, "minutesToPay", "(I)I"⟩
abbrev cX7_nextPayer : ByteArray := prog_9_method_110_code
def yX7_nextPayer : MethodName := ⟨RX7, "nextPayer", "()I"⟩
abbrev cX7_bestBellPosition : ByteArray := prog_9_method_111_code
def yX7_bestBellPosition : MethodName := ⟨RX7, "bestBellPosition", "()I"⟩
abbrev cX7_earnedIn : ByteArray := prog_9_method_112_code
def yX7_earnedIn : MethodName := ⟨RX7, "earnedIn", "(II)I"⟩
abbrev cX7_earningsAfter : ByteArray := prog_9_method_113_code
def yX7_earningsAfter : MethodName := ⟨RX7, "earningsAfter", "(II)I"⟩
abbrev cX7_best : ByteArray := prog_9_method_114_code
def yX7_best : MethodName := ⟨RX7, "best", "(IIII)I"⟩
abbrev cX7_bestPrice : ByteArray := prog_9_method_115_code
def yX7_bestPrice : MethodName := ⟨RX7, "bestPrice", "(I)I"⟩
abbrev cX7_bestLantern : ByteArray := prog_9_method_116_code
def yX7_bestLantern : MethodName := ⟨RX7, "bestLantern", "(I)I"⟩
abbrev cX7_addStall : ByteArray := prog_9_method_117_code
def yX7_addStall : MethodName := ⟨RX7, "addStall", "(IIIII)I"⟩
abbrev cX7_addBuyer : ByteArray := prog_9_method_118_code
def yX7_addBuyer : MethodName := ⟨RX7, "addBuyer", "(IIII)I"⟩
abbrev cX7_setPrice : ByteArray := prog_9_method_119_code
def yX7_setPrice : MethodName := ⟨RX7, "setPrice", "(II)I"⟩
abbrev cX7_addStock : ByteArray := prog_9_method_120_code
def yX7_addStock : MethodName := ⟨RX7, "addStock", "(II)I"⟩
abbrev cX7_setLantern : ByteArray := prog_9_method_121_code
def yX7_setLantern : MethodName := ⟨RX7, "setLantern", "(II)I"⟩
abbrev cX7_moveStall : ByteArray := prog_9_method_122_code
def yX7_moveStall : MethodName := ⟨RX7, "moveStall", "(II)I"⟩
abbrev cX7_setFog : ByteArray := prog_9_method_123_code
def yX7_setFog : MethodName := ⟨RX7, "setFog", "(II)I"⟩
abbrev cX7_putBack : ByteArray := prog_9_method_124_code
def yX7_putBack : MethodName := ⟨RX7, "putBack", "(I)I"⟩
abbrev cX7_passMinutes : ByteArray := prog_9_method_125_code
def yX7_passMinutes : MethodName := ⟨RX7, "passMinutes", "(I)I"⟩
abbrev cX7_pushAside : ByteArray := prog_9_method_126_code
def yX7_pushAside : MethodName := ⟨RX7, "pushAside", "()V"⟩
abbrev cX7_record : ByteArray := prog_9_method_127_code
def yX7_record : MethodName := ⟨RX7, "record", "()V"⟩
abbrev cX7_undo : ByteArray := prog_9_method_128_code
def yX7_undo : MethodName := ⟨RX7, "undo", "()I"⟩
abbrev cX7_save : ByteArray := prog_9_method_129_code
def yX7_save : MethodName := ⟨RX7, "save", "(I)I"⟩
abbrev cX7_restore : ByteArray := prog_9_method_130_code
def yX7_restore : MethodName := ⟨RX7, "restore", "(I)I"⟩
abbrev cX7_signAt : ByteArray := prog_9_method_131_code
def yX7_signAt : MethodName := ⟨RX7, "signAt", "(I)I"⟩
abbrev cX7_writeRope : ByteArray := prog_9_method_132_code
def yX7_writeRope : MethodName := ⟨RX7, "writeRope", "()I"⟩
abbrev cX7_outputByte : ByteArray := prog_9_method_133_code
def yX7_outputByte : MethodName := ⟨RX7, "outputByte", "(I)I"⟩
def RJx145de : String := "java/io/Serializable"
def RJx9f9b0 : String := "java/lang/CharSequence"
def RJxb160c : String := "java/lang/Comparable"
def RJx29ce0 : String := "java/lang/Enum"
abbrev cJx29ce0_ordinal_8abf5 : ByteArray := prog_13_method_2_code
def yJx29ce0_ordinal_8abf5 : MethodName := ⟨RJx29ce0, "ordinal", "()I"⟩
def RJ9 : String := "java/lang/Math"
abbrev cJ9_abs_0f7a4 : ByteArray := prog_18_method_59_code
def yJ9_abs_0f7a4 : MethodName := ⟨RJ9, "abs", "(I)I"⟩
abbrev cJ9_min_7cf53 : ByteArray := prog_18_method_69_code
def yJ9_min_7cf53 : MethodName := ⟨RJ9, "min", "(II)I"⟩
def RJ0 : String := "java/lang/String"
abbrev cJ0_length_8abf5 : ByteArray := prog_20_method_54_code
def yJ0_length_8abf5 : MethodName := ⟨RJ0, "length", "()I"⟩
abbrev cJ0_charAt_5068e : ByteArray := prog_20_method_56_code
def yJ0_charAt_5068e : MethodName := ⟨RJ0, "charAt", "(I)C"⟩
abbrev cJ0_coder_7d493 : ByteArray := prog_20_method_152_code
def yJ0_coder_7d493 : MethodName := ⟨RJ0, "coder", "()B"⟩
abbrev cJ0_isLatin1_aae02 : ByteArray := prog_20_method_154_code
def yJ0_isLatin1_aae02 : MethodName := ⟨RJ0, "isLatin1", "()Z"⟩
abbrev cJ0_checkIndex_df160 : ByteArray := prog_20_method_155_code
def yJ0_checkIndex_df160 : MethodName := ⟨RJ0, "checkIndex", "(II)V"⟩
def RJ1 : String := "java/lang/StringLatin1"
abbrev cJ1_charAt_3b067 : ByteArray := prog_21_method_2_code
def yJ1_charAt_3b067 : MethodName := ⟨RJ1, "charAt", "([BI)C"⟩
def RJ2 : String := "java/lang/StringUTF16"
abbrev cJ2_getChar_3b067 : ByteArray := prog_22_method_5_code
def yJ2_getChar_3b067 : MethodName := ⟨RJ2, "getChar", "([BI)C"⟩
abbrev cJ2_length_9d52b : ByteArray := prog_22_method_6_code
def yJ2_length_9d52b : MethodName := ⟨RJ2, "length", "([B)I"⟩
abbrev cJ2_charAt_3b067 : ByteArray := prog_22_method_83_code
def yJ2_charAt_3b067 : MethodName := ⟨RJ2, "charAt", "([BI)C"⟩
abbrev cJ2_checkIndex_2214a : ByteArray := prog_22_method_91_code
def yJ2_checkIndex_2214a : MethodName := ⟨RJ2, "checkIndex", "(I[B)V"⟩
def RJxfd54e : String := "java/lang/constant/Constable"
def RJx3cf43 : String := "java/lang/constant/ConstantDesc"
def RJ3 : String := "jdk/internal/util/Preconditions"
abbrev cJ3_checkIndex_8e157 : ByteArray := prog_27_method_11_code
def yJ3_checkIndex_8e157 : MethodName := ⟨RJ3, "checkIndex", "(IILjava/util/function/BiFunction;)I"⟩
def RL : String := "FogBellMarketLaw"
abbrev cL_fogIn : ByteArray := method_3_code
def yL_fogIn : MethodName := ⟨RL, "fogIn", "(LFogBellMarket;I[J)I"⟩
abbrev cL_positionOf : ByteArray := method_4_code
def yL_positionOf : MethodName := ⟨RL, "positionOf", "(LFogBellMarket;I[J)I"⟩
abbrev cL_lanternOf : ByteArray := method_5_code
def yL_lanternOf : MethodName := ⟨RL, "lanternOf", "(LFogBellMarket;I[J)I"⟩
abbrev cL_textureOf : ByteArray := method_6_code
def yL_textureOf : MethodName := ⟨RL, "textureOf", "(LFogBellMarket;I[J)I"⟩
abbrev cL_priceOf : ByteArray := method_7_code
def yL_priceOf : MethodName := ⟨RL, "priceOf", "(LFogBellMarket;I[J)I"⟩
abbrev cL_stockOf : ByteArray := method_8_code
def yL_stockOf : MethodName := ⟨RL, "stockOf", "(LFogBellMarket;I[J)I"⟩
abbrev cL_heldOf : ByteArray := method_9_code
def yL_heldOf : MethodName := ⟨RL, "heldOf", "(LFogBellMarket;I[J)I"⟩
abbrev cL_soldOf : ByteArray := method_10_code
def yL_soldOf : MethodName := ⟨RL, "soldOf", "(LFogBellMarket;I[J)I"⟩
abbrev cL_lostOf : ByteArray := method_11_code
def yL_lostOf : MethodName := ⟨RL, "lostOf", "(LFogBellMarket;I[J)I"⟩
abbrev cL_earnings : ByteArray := method_12_code
def yL_earnings : MethodName := ⟨RL, "earnings", "(LFogBellMarket;I[J)I"⟩
abbrev cL_reach : ByteArray := method_13_code
def yL_reach : MethodName := ⟨RL, "reach", "(LFogBellMarket;II[J)I"⟩
abbrev cL_seenFrom : ByteArray := method_14_code
def yL_seenFrom : MethodName := ⟨RL, "seenFrom", "(LFogBellMarket;I[J)I"⟩
abbrev cL_placeOf : ByteArray := method_15_code
def yL_placeOf : MethodName := ⟨RL, "placeOf", "(LFogBellMarket;I[J)I"⟩
abbrev cL_coinsOf : ByteArray := method_16_code
def yL_coinsOf : MethodName := ⟨RL, "coinsOf", "(LFogBellMarket;I[J)I"⟩
abbrev cL_wantedTexture : ByteArray := method_17_code
def yL_wantedTexture : MethodName := ⟨RL, "wantedTexture", "(LFogBellMarket;I[J)I"⟩
abbrev cL_speedOf : ByteArray := method_18_code
def yL_speedOf : MethodName := ⟨RL, "speedOf", "(LFogBellMarket;I[J)I"⟩
abbrev cL_heldFrom : ByteArray := method_19_code
def yL_heldFrom : MethodName := ⟨RL, "heldFrom", "(LFogBellMarket;I[J)I"⟩
abbrev cL_debtOf : ByteArray := method_20_code
def yL_debtOf : MethodName := ⟨RL, "debtOf", "(LFogBellMarket;I[J)I"⟩
abbrev cL_avoidedBy : ByteArray := method_21_code
def yL_avoidedBy : MethodName := ⟨RL, "avoidedBy", "(LFogBellMarket;I[J)I"⟩
abbrev cL_boughtBy : ByteArray := method_22_code
def yL_boughtBy : MethodName := ⟨RL, "boughtBy", "(LFogBellMarket;I[J)I"⟩
abbrev cL_targetOf : ByteArray := method_23_code
def yL_targetOf : MethodName := ⟨RL, "targetOf", "(LFogBellMarket;I[J)I"⟩
abbrev cL_touch : ByteArray := method_24_code
def yL_touch : MethodName := ⟨RL, "touch", "(LFogBellMarket;II[J)I"⟩
abbrev cL_minutesToPay : ByteArray := method_25_code
def yL_minutesToPay : MethodName := ⟨RL, "minutesToPay", "(LFogBellMarket;I[J)I"⟩
abbrev cL_earningsAfter : ByteArray := method_26_code
def yL_earningsAfter : MethodName := ⟨RL, "earningsAfter", "(LFogBellMarket;II[J)I"⟩
abbrev cL_bestPrice : ByteArray := method_27_code
def yL_bestPrice : MethodName := ⟨RL, "bestPrice", "(LFogBellMarket;I[J)I"⟩
abbrev cL_bestLantern : ByteArray := method_28_code
def yL_bestLantern : MethodName := ⟨RL, "bestLantern", "(LFogBellMarket;I[J)I"⟩
abbrev cL_addStall : ByteArray := method_29_code
def yL_addStall : MethodName := ⟨RL, "addStall", "(LFogBellMarket;IIIII[J)I"⟩
abbrev cL_addBuyer : ByteArray := method_30_code
def yL_addBuyer : MethodName := ⟨RL, "addBuyer", "(LFogBellMarket;IIII[J)I"⟩
abbrev cL_setPrice : ByteArray := method_31_code
def yL_setPrice : MethodName := ⟨RL, "setPrice", "(LFogBellMarket;II[J)I"⟩
abbrev cL_addStock : ByteArray := method_32_code
def yL_addStock : MethodName := ⟨RL, "addStock", "(LFogBellMarket;II[J)I"⟩
abbrev cL_setLantern : ByteArray := method_33_code
def yL_setLantern : MethodName := ⟨RL, "setLantern", "(LFogBellMarket;II[J)I"⟩
abbrev cL_moveStall : ByteArray := method_34_code
def yL_moveStall : MethodName := ⟨RL, "moveStall", "(LFogBellMarket;II[J)I"⟩
abbrev cL_setFog : ByteArray := method_35_code
def yL_setFog : MethodName := ⟨RL, "setFog", "(LFogBellMarket;II[J)I"⟩
abbrev cL_putBack : ByteArray := method_36_code
def yL_putBack : MethodName := ⟨RL, "putBack", "(LFogBellMarket;I[J)I"⟩
abbrev cL_passMinutes : ByteArray := method_37_code
def yL_passMinutes : MethodName := ⟨RL, "passMinutes", "(LFogBellMarket;I[J)I"⟩
abbrev cL_undo : ByteArray := method_38_code
def yL_undo : MethodName := ⟨RL, "undo", "(LFogBellMarket;[J)I"⟩
abbrev cL_save : ByteArray := method_39_code
def yL_save : MethodName := ⟨RL, "save", "(LFogBellMarket;I[J)I"⟩
abbrev cL_restore : ByteArray := method_40_code
def yL_restore : MethodName := ⟨RL, "restore", "(LFogBellMarket;I[J)I"⟩
abbrev cL_law : ByteArray := code
def yL_law : MethodName := ⟨RL, "law", "([I)Z"⟩
end
section
/-! ===== BEGIN words of one list among another's, by their places ===== -/
theorem goodIn_r {big : List Cond} (ws : List Cond) (ps : List Nat) (hp : ws = ps.filterMap (fun i => big[i]?)) (h : ws.all goodWord = true) : GoodIn big ws := by
  intro w hw
  have h1 := List.all_eq_true.mp h w hw
  rw [hp] at hw
  obtain ⟨i, -, hi⟩ := List.mem_filterMap.mp hw
  have hm : w ∈ big := by first | exact List.mem_of_getElem? hi | exact List.getElem?_mem hi
  exact ⟨hm, good_of_word h1⟩
theorem goodIn_app {big a b : List Cond} (ha : GoodIn big a) (hb : GoodIn big b) : GoodIn big (a ++ b) := fun w h => (List.mem_append.mp h).elim (ha w) (hb w)
theorem goodIn_ca {big a b : List Cond} {c : Cond} (ha : GoodIn big (c :: a)) (hb : GoodIn big b) : GoodIn big (c :: (a ++ b)) := fun w h => (List.mem_cons.mp h).elim (fun e => ha w (List.mem_cons.mpr (Or.inl e))) (fun h => (List.mem_append.mp h).elim (fun h => ha w (List.mem_cons.mpr (Or.inr h))) (hb w))
theorem goodIn_sub {big ws : List Cond} (hm : ∀ w ∈ ws, w ∈ big) (h : ws.all goodWord = true) : GoodIn big ws := fun w hw => ⟨hm w hw, good_of_word (List.all_eq_true.mp h w hw)⟩
/-! ===== END ===== -/

/-! ===== BEGIN exceptions that leave a method, and their catching by the caller (launches without stack traces) ===== -/
section VXA
/-! The laws vx_back, vx_callV, vx_callS, vx_callSW, vx_throw0, vx_throwS follow proofs of the library, with one case more: JvmDerived/Free/Laws.lean (Back.of_free), Shelf42/LK1.lean (callV, callS), Shelf/KitTraced.lean (throwNew0V, throwNewS). -/
/-- where a method has thrown q: the class by its name, the cell, what was written, the world -/
def vx_T (XC : String → State → State → Prop) (st : State) (q : Addr) (t : State) (mc ms : Nat) (free : Addr → Prop) : Prop :=
  ∃ (E : String) (ce : Cell) (L : List Loc), XC E st t ∧ t.heap[q]? = some ce ∧ ce.vm = .none ∧ st.vm.findClass E = some ce.cls ∧ st.WarmedH t.vm ∧ st.sameButNew ({ t with vm := st.vm } : State) L mc ms ∧ ∀ z ∈ L, free z.base
def vx_Q (Qc : Array Value → State → Outcome → State → Prop) (XC : String → State → State → Prop) (mc ms : Nat) (free : Addr → Prop) : Array Value → State → Outcome → State → Prop := fun a st o t =>
  (Qc a st o t ∧ ∃ L, FrameEnd st o t L mc ms ∧ ∀ q ∈ L, free q.base) ∨ ∃ q, o = .threw q ∧ vx_T XC st q t mc ms free
/-- a callee that returns or throws -/
def vx_Met (l : Launch) (y : MethodName) (ws : List Cond) (rm : Room) (Pc : Array Value → State → Prop) (Qc : Array Value → State → Outcome → State → Prop) (XC : String → State → State → Prop) (mc ms : Nat) (free : Addr → Prop) : Prop :=
  MetFree l y (headSpec ws rm) Pc (fun _ _ _ _ _ => True) (vx_Q Qc XC mc ms free)
def vx_Post (XC : String → State → State → Prop) (mc ms : Nat) (free : Addr → Prop) : Pt → Array Value → Addr → Pt → Prop := fun A a q B =>
  ∃ (g : JFrame) (mk : MethodId) (t : State) (L : List Loc) (E : String) (ce : Cell), B.U.heap = t.heap ∧ B.U.vm = t.vm ∧ XC E (A.U.calling g mk a) t ∧ t.heap[q]? = some ce ∧ ce.vm = .none ∧ A.U.vm.findClass E = some ce.cls ∧ B.locs = A.locs ++ L ∧ (∀ z ∈ L, free z.base) ∧ B.cells = A.cells + mc ∧ B.slots = A.slots + ms
def vx_Back (l : Launch) (R : Room) (p : Program) (e : Env) (below : List Frame) (s : State) (sargs : Array Value) (y : MethodName) (len W9 : Nat)
    (Pre : Pt → Array Value → Prop) (Post : Pt → Array Value → Option Value → Pt → Prop) (PostX : Pt → Array Value → Addr → Pt → Prop) : Prop :=
  ∀ (m : MethodId) (meth : Method) (c : Code) (A : Pt) (g : JFrame) (ig : Instr) (mk : MethodId) (a : Array Value),
    Stand p l e R s m sargs below meth c A.U A.locs A.cells A.slots → g.method = m → g.locals.size = c.maxLocals → decode c.code g.pc = .ok (ig, len) →
    2 * g.monitorRoom + (g.stack.map fun v => v.category).sum ≤ W9 → A.U.methodNamed? y = some mk → Pre A a →
    (∃ (v : Option Value) (B : Pt), Stand p l e R s m sargs below meth c B.U B.locs B.cells B.slots ∧ Post A a v B ∧
      Steps p.tables e below (doInvoke e (A.U.setTop g) [] mk a).1 (B.U.setTop { g with pc := g.pc + len, stack := v.toList ++ g.stack })) ∨
    (∃ (q : Addr) (B : Pt), Stand p l e R s m sargs below meth c B.U B.locs B.cells B.slots ∧ PostX A a q B ∧
      Steps p.tables e below (doInvoke e (A.U.setTop g) [] mk a).1 ((B.U.setTop g).pushFrame (.throwing q)))
section Payer
variable {l : Launch} {R : Room} {p : Program} {e : Env} {below : List Frame} {s : State} {sargs : Array Value} {y : MethodName} {len W9 : Nat}
theorem vx_back {ws : List Cond} {rm : Room} {Pc : Array Value → State → Prop} {Qc : Array Value → State → Outcome → State → Prop} {XC : String → State → State → Prop} {mc ms : Nat} {free : Addr → Prop} {bytes : ByteArray} {maxL : Nat} {ret : Option FieldType}
    (hM : vx_Met l y ws rm Pc Qc XC mc ms free) (hblind : FrameBlind Pc) (hrc : rm.cells = mc) (hrs : rm.slots = ms)
    (hframes : rm.frames + 1 ≤ R.frames) (hlocals : W9 + (maxL + 11) + rm.locals ≤ R.locals)
    (hws : ∀ w ∈ ws, ∀ a' U, s.WarmedH U.vm → w.before a' U = true) (hcode : Cond.code y bytes maxL ret ∈ ws) (hinit : ∀ a' U, s.WarmedH U.vm → (Cond.initialized y.cls).before a' U = true) :
    vx_Back l R p e below s sargs y len W9 (PreOf R mc ms Pc) (PostOf Qc mc ms free) (vx_Post XC mc ms free) := by
  intro m meth c A g ig mk a X hg hsize hdg hW hn hp
  have h1 : (headSpec ws rm).pre.before a A.U = true := atoms_intro fun w hw => hws w hw _ _ X.warmed
  have h2 : (Cond.code y bytes maxL ret).before a A.U = true := hws _ hcode _ _ X.warmed
  have h3 : (Cond.initialized y.cls).before a A.U = true := hinit _ _ X.warmed
  have h4 : A.cells + (headSpec ws rm).room.cells ≤ R.cells := by rw [show (headSpec ws rm).room.cells = mc from hrc]; exact hp.1
  have h5 : A.slots + (headSpec ws rm).room.slots ≤ R.slots := by rw [show (headSpec ws rm).room.slots = ms from hrs]; exact hp.2.1
  have hPc : Pc a (A.U.calling g mk a) := hblind _ _ _ _ hp.2.2
  obtain ⟨U, Ls, c0, s0⟩ := A
  dsimp only [Pt.U, Pt.locs, Pt.cells, Pt.slots] at h1 h2 h3 h4 h5 X hn hPc ⊢
  obtain ⟨methY, cY, hmY, hcY, -, hlY, -, -, -, -⟩ := Cond.code_spec hn h2
  obtain ⟨kY, hkY, -⟩ := className_of_methodNamed hn
  have hinitY : kY.init = .initialized := Cond.initialized_spec (findClass_of_methodNamed hn) hkY h3
  have h : At U g.method c below := by rw [hg]; exact X.here
  have hlocals9 : W9 + (maxL + 11) + (headSpec ws rm).room.locals ≤ R.locals := hlocals
  have happ : (headSpec ws rm).appliesLoose y e.platform (U.calling g mk a) = true :=
    Spec.appliesLoose_calling (g := g) h hdg hn hkY hinitY
      (X.room_calling (g := g) (R' := (headSpec ws rm).room) hsize hmY hcY hframes (by rw [hlY]; omega) h4 h5) h1
  obtain ⟨mid, hmid⟩ := h.above
  have hfr : (U.setTop g).frames = (.java g :: mid) ++ below := by rw [State.frames_setTop' g h.top, hmid]; rfl
  obtain ⟨o, s₂, hsteps, -, hend, hq⟩ := Steps.callFree hM p X.admits X.cas X.clock (acts := []) hfr happ hPc trivial
  have hq' : vx_Q Qc XC mc ms free a (U.calling g mk a) o s₂ := hq
  rw [State.frames_setTop' g h.top] at hend
  obtain ⟨g₀, hg0⟩ := Option.isSome_iff_exists.mp h.top
  obtain ⟨r, hr⟩ := State.topJava?_eq_some.mp hg0
  have hr' : (({ U with heap := s₂.heap, slotsUsed := s₂.slotsUsed } : State).setVm s₂.vm).frames = .java g₀ :: r := hr
  rcases hq' with ⟨hqc, L, hfe, hL⟩ | ⟨q, rfl, E, ce, L, hx, hce, hcv, hcl, hW₂, hsm, hL⟩
  · obtain ⟨⟨v, rfl⟩, hW₂, e2, q2, q3, q4, q5, q6⟩ := id hfe
    have e3 : s₂ = ({ (U.calling g mk a).setFrames s₂.frames with heap := s₂.heap, slotsUsed := s₂.slotsUsed } : State).setVm s₂.vm := by
      have : s₂ = ({ s₂ with vm := (U.calling g mk a).vm } : State).setVm s₂.vm := rfl
      rw [e2] at this
      exact this
    obtain ⟨c₂, i₂, len₂, hc₂, hd₂, hf₂⟩ := hend
    have hW' : U.WarmedH s₂.vm := hW₂
    have hcc : c₂ = c := by
      have h1 : s₂.code? g.method = U.code? g.method := by
        rw [State.code?_eq, State.code?_eq, hW'.alike.method?]
      exact Option.some.inj (hc₂.symm.trans (h1.trans h.code))
    subst hcc
    have hlen : len₂ = len := by rw [hdg] at hd₂; cases hd₂; rfl
    subst hlen
    have hs₂ : s₂ = (({ U with heap := s₂.heap, slotsUsed := s₂.slotsUsed } : State).setVm s₂.vm).setTop { g with pc := g.pc + len₂, stack := v.toList ++ g.stack } := by
      refine e3.trans ?_
      rw [hf₂, State.calling_eq h.top, State.setFrames_setFrames, State.setTop_of_frames _ hr', hr]
      rfl
    have hsame : U.sameButNew ({ U with heap := s₂.heap, slotsUsed := s₂.slotsUsed } : State) L mc ms := by
      refine ⟨?_, q2, q3, q4, q5, q6⟩
      obtain ⟨t, ht, -⟩ := State.frames_cons hr
      show ({ U with heap := s₂.heap, slotsUsed := s₂.slotsUsed } : State) = { U.setFrames U.frames with heap := s₂.heap, slotsUsed := s₂.slotsUsed }
      rw [State.setFrames_self ht]
    subst hg
    refine Or.inl ⟨v, ⟨(({ U with heap := s₂.heap, slotsUsed := s₂.slotsUsed } : State).setVm s₂.vm), Ls ++ L, c0 + mc, s0 + ms⟩,
      ⟨X.admits, X.cas, X.clock, X.frames, X.room, X.hears, X.method, X.code, (X.here.setHeapUsed s₂.heap s₂.slotsUsed).setVm hW'.alike, X.tail, State.WarmedH.trans X.warmed hW', X.limits, X.bytes, X.same.trans (hsame.setVm s.vm)⟩,
      ⟨g, mk, s₂, L, rfl, rfl, hqc, rfl, hL, rfl, rfl⟩, ?_⟩
    show Steps p.tables e below _ ((({ U with heap := s₂.heap, slotsUsed := s₂.slotsUsed } : State).setVm s₂.vm).setTop { g with pc := g.pc + len₂, stack := v.toList ++ g.stack })
    rw [← hs₂]
    exact hsteps
  · obtain ⟨e2, q2, q3, q4, q5, q6⟩ := id hsm
    have e3 : s₂ = ({ (U.calling g mk a).setFrames s₂.frames with heap := s₂.heap, slotsUsed := s₂.slotsUsed } : State).setVm s₂.vm := by
      have : s₂ = ({ s₂ with vm := (U.calling g mk a).vm } : State).setVm s₂.vm := rfl
      rw [e2] at this
      exact this
    have hf₂ : s₂.frames = .throwing q :: .java g :: U.frames.tail := hend
    have hW' : U.WarmedH s₂.vm := hW₂
    have hs₂ : s₂ = ((({ U with heap := s₂.heap, slotsUsed := s₂.slotsUsed } : State).setVm s₂.vm).setTop g).pushFrame (.throwing q) := by
      refine e3.trans ?_
      rw [hf₂, State.calling_eq h.top, State.setFrames_setFrames, State.pushFrame, State.frames_setTop _ hr', State.setTop_of_frames _ hr', State.setFrames_setFrames, hr]
      rfl
    have hsame : U.sameButNew ({ U with heap := s₂.heap, slotsUsed := s₂.slotsUsed } : State) L mc ms := by
      refine ⟨?_, q2, q3, q4, q5, q6⟩
      obtain ⟨t, ht, -⟩ := State.frames_cons hr
      show ({ U with heap := s₂.heap, slotsUsed := s₂.slotsUsed } : State) = { U.setFrames U.frames with heap := s₂.heap, slotsUsed := s₂.slotsUsed }
      rw [State.setFrames_self ht]
    subst hg
    refine Or.inr ⟨q, ⟨(({ U with heap := s₂.heap, slotsUsed := s₂.slotsUsed } : State).setVm s₂.vm), Ls ++ L, c0 + mc, s0 + ms⟩,
      ⟨X.admits, X.cas, X.clock, X.frames, X.room, X.hears, X.method, X.code, (X.here.setHeapUsed s₂.heap s₂.slotsUsed).setVm hW'.alike, X.tail, State.WarmedH.trans X.warmed hW', X.limits, X.bytes, X.same.trans (hsame.setVm s.vm)⟩,
      ⟨g, mk, s₂, L, E, ce, rfl, rfl, hx, hce, hcv, hcl, rfl, hL, rfl, rfl⟩, ?_⟩
    show Steps p.tables e below _ (((({ U with heap := s₂.heap, slotsUsed := s₂.slotsUsed } : State).setVm s₂.vm).setTop g).pushFrame (.throwing q))
    rw [← hs₂]
    exact hsteps
end Payer
section Calls
variable {p : Program} {l : Launch} {e : Env} {R : Room} {s : State} {m : MethodId} {args : Array Value} {below : List Frame} {meth : Method} {c : Code} {T : State} {locs : List Loc} {cells slots : Nat}
theorem vx_callV (X : Stand p l e R s m args below meth c T locs cells slots) (hexec : p.tables.exec = Jvm.exec) {own C : String} {index : Nat} {y : MethodName} {bytes : ByteArray} {maxL : Nat} {ret : Option FieldType}
    (hown : s.vm.findClass own = some m.cls) (hlink : (Cond.methodLink own index y).before args s = true) (hinst : (Cond.instanceMethod y).before args s = true) (hsel : (Cond.selects C y y).before args s = true)
    (hcode : (Cond.code y bytes maxL ret).before args s = true) (hy : y.cls ≠ "java/lang/invoke/MethodHandle" ∧ y.cls ≠ "java/lang/invoke/VarHandle")
    {W9 : Nat} {Pre : Pt → Array Value → Prop} {Post : Pt → Array Value → Option Value → Pt → Prop} {PostX : Pt → Array Value → Addr → Pt → Prop} (hK : vx_Back l R p e below s args y 3 W9 Pre Post PostX)
    {b : Addr} {cellB : Cell} (hcell : T.heap[b]? = some cellB) (hobj : cellB.vm.isStatics = false) (hcls : s.vm.findClass C = some cellB.cls)
    {g : JFrame} (hg : g.method = m) (hsize : g.locals.size = c.maxLocals) {argsL rest : List Value} (hlen : ∀ sig, parseMethodDescriptor y.desc = some sig → argsL.length = sig.parameters.length)
    (hstack : g.stack = argsL.reverse ++ .ref b :: rest) (hW : 2 * g.monitorRoom + (rest.map fun v => v.category).sum ≤ W9) (hdg : decode c.code g.pc = .ok (.invokevirtual index, 3))
    (hpre : ∀ vm₁, s.WarmedH vm₁ → Pre ⟨T.setVm vm₁, locs, cells, slots⟩ (Value.ref b :: argsL).toArray) :
    (∃ (v : Option Value) (vm₁ : Vm) (B : Pt), s.WarmedH vm₁ ∧ Stand p l e R s m args below meth c B.U B.locs B.cells B.slots ∧ Post ⟨T.setVm vm₁, locs, cells, slots⟩ (Value.ref b :: argsL).toArray v B ∧
      ∀ target, Steps p.tables e below (B.U.setTop { g with pc := g.pc + 3, stack := v.toList ++ rest }) target → Steps p.tables e below (T.setTop g) target) ∨
    (∃ (q : Addr) (vm₁ : Vm) (B : Pt), s.WarmedH vm₁ ∧ Stand p l e R s m args below meth c B.U B.locs B.cells B.slots ∧ PostX ⟨T.setVm vm₁, locs, cells, slots⟩ (Value.ref b :: argsL).toArray q B ∧
      Steps p.tables e below (T.setTop g) ((B.U.setTop { g with stack := rest }).pushFrame (.throwing q))) := by
  obtain ⟨mk, methM, hnamed, hmethM, hstM, habM⟩ := Cond.instanceMethod_spec hinst
  obtain ⟨methM', cM, hmethM', -, -, -, -, -, -, hsigM⟩ := Cond.code_spec hnamed hcode
  cases hmethM.symm.trans hmethM'
  obtain ⟨c2, r2, m2, q1, q2, q3, q4, kP, hkP, hkPi⟩ := Cond.selects_spec hsel
  cases hcls.symm.trans q1
  cases (State.methodFound?_of_named hnamed hy).symm.trans q2
  cases hnamed.symm.trans q3
  have hselP : selectMethod e.platform s.vm cellB.cls mk = .method mk := by rw [Launch.admits_selectMethod X.admits]; exact q4
  obtain ⟨vm₁, X₁, hstep₁⟩ := X.invokevirtual hexec hown hlink hnamed hmethM hstM hkP hkPi hy (a := b) (cell := cellB) hcell
    (fun z h => by rw [h] at hobj; cases hobj) hselP hmethM habM hkP hkPi (g := g) hg (argsL := argsL) (rest := rest) (hlen _ hsigM) hstack hdg
  rcases hK m meth c ⟨T.setVm vm₁, locs, cells, slots⟩ { g with stack := rest } (.invokevirtual index) mk (Value.ref b :: argsL).toArray X₁ hg hsize hdg hW (X₁.named hnamed) (hpre vm₁ X₁.warmed) with ⟨v, B, X', hpost, hsteps⟩ | ⟨q, B, X', hpost, hsteps⟩
  · exact Or.inl ⟨v, vm₁, B, X₁.warmed, X', hpost, fun target h => hstep₁ _ fun acts => by rw [doInvoke_state]; exact hsteps.trans h⟩
  · exact Or.inr ⟨q, vm₁, B, X₁.warmed, X', hpost, hstep₁ _ fun acts => by rw [doInvoke_state]; exact hsteps⟩
theorem vx_callS (X : Stand p l e R s m args below meth c T locs cells slots) (hexec : p.tables.exec = Jvm.exec) {own : String} {index : Nat} {y : MethodName} {bytes : ByteArray} {maxL : Nat} {ret : Option FieldType}
    (hown : s.vm.findClass own = some m.cls) (hlink : (Cond.methodLink own index y).before args s = true) (hstat : (Cond.static y).before args s = true) (hinit : (Cond.initialized y.cls).before args s = true)
    (hcode : (Cond.code y bytes maxL ret).before args s = true) (hy : y.cls ≠ "java/lang/invoke/MethodHandle" ∧ y.cls ≠ "java/lang/invoke/VarHandle")
    {W9 : Nat} {Pre : Pt → Array Value → Prop} {Post : Pt → Array Value → Option Value → Pt → Prop} {PostX : Pt → Array Value → Addr → Pt → Prop} (hK : vx_Back l R p e below s args y 3 W9 Pre Post PostX)
    {g : JFrame} (hg : g.method = m) (hsize : g.locals.size = c.maxLocals) {argsL rest : List Value} (hlen : ∀ sig, parseMethodDescriptor y.desc = some sig → argsL.length = sig.parameters.length)
    (hstack : g.stack = argsL.reverse ++ rest) (hW : 2 * g.monitorRoom + (rest.map fun v => v.category).sum ≤ W9) (hdg : decode c.code g.pc = .ok (.invokestatic index, 3))
    (hpre : ∀ vm₁, s.WarmedH vm₁ → Pre ⟨T.setVm vm₁, locs, cells, slots⟩ argsL.toArray) :
    (∃ (v : Option Value) (vm₁ : Vm) (B : Pt), s.WarmedH vm₁ ∧ Stand p l e R s m args below meth c B.U B.locs B.cells B.slots ∧ Post ⟨T.setVm vm₁, locs, cells, slots⟩ argsL.toArray v B ∧
      ∀ target, Steps p.tables e below (B.U.setTop { g with pc := g.pc + 3, stack := v.toList ++ rest }) target → Steps p.tables e below (T.setTop g) target) ∨
    (∃ (q : Addr) (vm₁ : Vm) (B : Pt), s.WarmedH vm₁ ∧ Stand p l e R s m args below meth c B.U B.locs B.cells B.slots ∧ PostX ⟨T.setVm vm₁, locs, cells, slots⟩ argsL.toArray q B ∧
      Steps p.tables e below (T.setTop g) ((B.U.setTop { g with stack := rest }).pushFrame (.throwing q))) := by
  obtain ⟨mk, hnamed⟩ := Cond.code_named hcode
  obtain ⟨methM, cM, hmethM, -, -, -, -, -, -, hsigM⟩ := Cond.code_spec hnamed hcode
  have hstatic : methM.isStatic = true := Cond.static_spec hnamed hmethM hstat
  obtain ⟨kP, hkP, -⟩ := className_of_methodNamed hnamed
  have hinitP : kP.init = .initialized := Cond.initialized_spec (findClass_of_methodNamed hnamed) hkP hinit
  obtain ⟨vm₁, X₁, hstep₁⟩ := X.invokestatic hexec hown hlink hnamed hmethM hstatic hkP hinitP hy (g := g) hg (argsL := argsL) (rest := rest) (hlen _ hsigM) hstack hdg
  rcases hK m meth c ⟨T.setVm vm₁, locs, cells, slots⟩ { g with stack := rest } (.invokestatic index) mk argsL.toArray X₁ hg hsize hdg hW (X₁.named hnamed) (hpre vm₁ X₁.warmed) with ⟨v, B, X', hpost, hsteps⟩ | ⟨q, B, X', hpost, hsteps⟩
  · exact Or.inl ⟨v, vm₁, B, X₁.warmed, X', hpost, fun target h => hstep₁ _ fun acts => by rw [doInvoke_state]; exact hsteps.trans h⟩
  · exact Or.inr ⟨q, vm₁, B, X₁.warmed, X', hpost, hstep₁ _ fun acts => by rw [doInvoke_state]; exact hsteps⟩
end Calls
theorem vx_cls {s : State} {T : State} {vm₁ : Vm} {E : String} {k : ClassId} (hW : s.WarmedH vm₁) (h : (T.setVm vm₁).vm.findClass E = some k) : s.vm.findClass E = some k := by
  have h1 : vm₁.findClass E = some k := h
  rw [hW.alike.findClass] at h1
  exact h1
/-- the method's frame g, with q thrown over it -/
def vx_W (p : Program) (l : Launch) (e : Env) (R : Room) (s : State) (m : MethodId) (args : Array Value) (below : List Frame) (meth : Method) (c : Code) (H : Heap) (locs : List Loc) (cells slots : Nat) (Q : State → Prop) (g : JFrame) (q : Addr) : Prop :=
  ∀ T : State, T.heap = H → Stand p l e R s m args below meth c T locs cells slots → ∃ t, Steps p.tables e below ((T.setTop g).pushFrame (.throwing q)) t ∧ Q t
def vx_Run (p : Program) (l : Launch) (e : Env) (R : Room) (s : State) (m : MethodId) (args : Array Value) (below : List Frame) (meth : Method) (c : Code) (H : Heap) (locs : List Loc) (cells slots mc ms : Nat) (g : JFrame) (rest : List Value) (Qa : State → Outcome → State → Prop) (XC : String → State → State → Prop) (free : Addr → Prop) : Prop :=
  ∀ T : State, T.heap = H → Stand p l e R s m args below meth c T locs cells slots →
    (∃ (v : Option Value) (st₀ t T' : State) (L : List Loc), st₀.heap = H ∧ Stand p l e R s m args below meth c T' (locs ++ L) (cells + mc) (slots + ms) ∧ (∀ q ∈ L, free q.base) ∧ T'.heap = t.heap ∧ T'.vm = t.vm ∧ Qa st₀ (.returned v) t ∧
      Goes p e below T g T' { g with pc := g.pc + 3, stack := v.toList ++ rest }) ∨
    (∃ (q : Addr) (st₀ t T' : State) (L : List Loc) (E : String) (ce : Cell), st₀.heap = H ∧ Stand p l e R s m args below meth c T' (locs ++ L) (cells + mc) (slots + ms) ∧ (∀ z ∈ L, free z.base) ∧ T'.heap = t.heap ∧ T'.vm = t.vm ∧ XC E st₀ t ∧ t.heap[q]? = some ce ∧ ce.vm = .none ∧ s.vm.findClass E = some ce.cls ∧
      Steps p.tables e below (T.setTop g) ((T'.setTop { g with stack := rest }).pushFrame (.throwing q)))
def vx_X {S : Type} (px : S → Prop) (B : String → S → State → Prop) (A : Nat → Prop) : String → State → State → Prop := fun E st t => ∃ u : S, px u ∧ B E u t ∧ va_F A st t
section Runs
variable {p : Program} {l : Launch} {e : Env} {R : Room} {s : State} {m : MethodId} {args : Array Value} {below : List Frame} {meth : Method} {c : Code} {H : Heap} {locs : List Loc} {cells slots : Nat}
variable {y : MethodName} {bytes cc : ByteArray} {maxL nL mc ms n index : Nat} {ret : Option FieldType} {ws : List Cond} {rm : Room} {Pc : Array Value → State → Prop} {Qc : Array Value → State → Outcome → State → Prop} {XC : String → State → State → Prop} {free : Addr → Prop} {Ts : List Cond} {own C : String} {b : Addr} {As rest : List Value} {g : JFrame}
theorem vx_callBack (cb : CallB R s args own index y bytes maxL ret ws rm mc ms n) (hM : vx_Met l y ws rm Pc Qc XC mc ms free) (hbl : FrameBlind Pc) : vx_Back l R p e below s args y 3 8 (PreOf R mc ms Pc) (PostOf Qc mc ms free) (vx_Post XC mc ms free) := by
  obtain ⟨hrc, hrs, hfr, hlo, hws, hcw, -, hini, -⟩ := cb
  exact vx_back (bytes := bytes) (maxL := maxL) (ret := ret) hM hbl hrc hrs hfr hlo hws hcw (fun a' U hW => word_at hW (Or.inl (by first | rfl | simp [Cond.onTables, Cond.keeps, Cond.steady])) hini)
theorem vx_runV (S : CallFix p m c cc nL s args Ts own) (hM : vx_Met l y ws rm Pc Qc XC mc ms free) (cw : CallW R s args own C index y bytes maxL ret ws rm mc ms n) (hp : PreV s H C b Pc As)
    (hg : g.method = m) (hn : As.length = n) (hsize : g.locals.size = nL) (hstack : g.stack = As.reverse ++ .ref b :: rest) (hW : 2 * g.monitorRoom + (rest.map fun v => v.category).sum ≤ 8) (hdg : decode cc g.pc = .ok (.invokevirtual index, 3)) (hf : cells + mc ≤ R.cells ∧ slots + ms ≤ R.slots) :
    vx_Run p l e R s m args below meth c H locs cells slots mc ms g rest (Qc (Value.ref b :: As).toArray) XC free := by
  have hK : vx_Back l R p e below s args y 3 8 (PreOf R mc ms Pc) (PostOf Qc mc ms free) (vx_Post XC mc ms free) := vx_callBack cw.1 hM hp.1
  obtain ⟨⟨-, -, -, -, -, -, hcode, -, hy, hlen, hl⟩, hin, hse⟩ := cw
  obtain ⟨hx, hb, hml, ho, -⟩ := S
  obtain ⟨-, ⟨cellB, hcB, hoB, hclB⟩, hPc⟩ := hp
  intro T hT X
  rcases vx_callV X hx (C := C) (bytes := bytes) (maxL := maxL) (ret := ret) ho hl hin hse hcode hy hK (by rw [hT]; exact hcB) hoB hclB hg (hsize.trans hml.symm) (argsL := As) (rest := rest) (fun sig h => hn.trans (hlen sig h)) hstack hW (by rw [hb]; exact hdg)
    (fun vm₁ hW₁ => ⟨hf.1, hf.2, hPc (T.setVm vm₁) hT hW₁⟩) with ⟨v, vm₁, ⟨U', l2, c2, s2⟩, hW₁, X', ⟨g', mk, t, L, e1, e2, hq, h1, hL, h2, h3⟩, st⟩ | ⟨q, vm₁, ⟨U', l2, c2, s2⟩, hW₁, X', ⟨g', mk, t, L, E, ce, e1, e2, hq, hce, hcv, hcl, h1, hL, h2, h3⟩, st⟩
  · dsimp only [Pt.U, Pt.locs, Pt.cells, Pt.slots] at X' e1 e2 h1 h2 h3 st
    subst h1; subst h2; subst h3
    exact Or.inl ⟨v, (T.setVm vm₁).calling g' mk (Value.ref b :: As).toArray, t, U', L, hT, X', hL, e1, e2, hq, st⟩
  · dsimp only [Pt.U, Pt.locs, Pt.cells, Pt.slots] at X' e1 e2 h1 h2 h3 st hcl
    subst h1; subst h2; subst h3
    exact Or.inr ⟨q, (T.setVm vm₁).calling g' mk (Value.ref b :: As).toArray, t, U', L, E, ce, hT, X', hL, e1, e2, hq, hce, hcv, vx_cls hW₁ hcl, st⟩
theorem vx_runS (S : CallFix p m c cc nL s args Ts own) (hM : vx_Met l y ws rm Pc Qc XC mc ms free) (cw : CallB R s args own index y bytes maxL ret ws rm mc ms n ∧ (Cond.static y).before args s = true) (hp : PreS s H Pc As)
    (hg : g.method = m) (hn : As.length = n) (hsize : g.locals.size = nL) (hstack : g.stack = As.reverse ++ rest) (hW : 2 * g.monitorRoom + (rest.map fun v => v.category).sum ≤ 8) (hdg : decode cc g.pc = .ok (.invokestatic index, 3)) (hf : cells + mc ≤ R.cells ∧ slots + ms ≤ R.slots) :
    vx_Run p l e R s m args below meth c H locs cells slots mc ms g rest (Qc As.toArray) XC free := by
  have hK : vx_Back l R p e below s args y 3 8 (PreOf R mc ms Pc) (PostOf Qc mc ms free) (vx_Post XC mc ms free) := vx_callBack cw.1 hM hp.1
  obtain ⟨⟨-, -, -, -, -, -, hcode, hini, hy, hlen, hl⟩, hstt⟩ := cw
  obtain ⟨hx, hb, hml, ho, -⟩ := S
  intro T hT X
  rcases vx_callS X hx (bytes := bytes) (maxL := maxL) (ret := ret) ho hl hstt hini hcode hy hK hg (hsize.trans hml.symm) (argsL := As) (rest := rest) (fun sig h => hn.trans (hlen sig h)) hstack hW (by rw [hb]; exact hdg)
    (fun vm₁ hW₁ => ⟨hf.1, hf.2, hp.2 (T.setVm vm₁) hT hW₁⟩) with ⟨v, vm₁, ⟨U', l2, c2, s2⟩, hW₁, X', ⟨g', mk, t, L, e1, e2, hq, h1, hL, h2, h3⟩, st⟩ | ⟨q, vm₁, ⟨U', l2, c2, s2⟩, hW₁, X', ⟨g', mk, t, L, E, ce, e1, e2, hq, hce, hcv, hcl, h1, hL, h2, h3⟩, st⟩
  · dsimp only [Pt.U, Pt.locs, Pt.cells, Pt.slots] at X' e1 e2 h1 h2 h3 st
    subst h1; subst h2; subst h3
    exact Or.inl ⟨v, (T.setVm vm₁).calling g' mk As.toArray, t, U', L, hT, X', hL, e1, e2, hq, st⟩
  · dsimp only [Pt.U, Pt.locs, Pt.cells, Pt.slots] at X' e1 e2 h1 h2 h3 st hcl
    subst h1; subst h2; subst h3
    exact Or.inr ⟨q, (T.setVm vm₁).calling g' mk As.toArray, t, U', L, E, ce, hT, X', hL, e1, e2, hq, hce, hcv, vx_cls hW₁ hcl, st⟩
end Runs
section Rows
variable {p : Program} {l : Launch} {e : Env} {R : Room} {s : State} {m : MethodId} {args : Array Value} {below : List Frame} {meth : Method} {c : Code} {H : Heap} {locs : List Loc} {cells slots : Nat} {Q : State → Prop}
variable {mc ms : Nat} {free : Addr → Prop} {A0 A1 : Nat → Prop} {H0 : Heap} {a : Array Value} {pc : Nat} {ls : Array Slot} {st0 rest : List Value}
theorem vx_keep {st₀ t T' : State} {L : List Loc} (h0 : st₀.heap = H) (e1 : T'.heap = t.heap) (hS : va_S A0 H0 H locs) (hA : ∀ q, q < H.size → A1 q → A0 q) (hf : ∀ q, free q → A0 q) (hL : ∀ q ∈ L, free q.base) (hF : va_F A1 st₀ t) :
    H.size ≤ T'.heap.size ∧ (∀ q : Nat, q < H.size → ¬ A1 q → T'.heap[q]? = H[q]?) ∧ va_S A0 H0 T'.heap (locs ++ L) := by
  obtain ⟨hz, hk⟩ := hF
  rw [h0] at hz hk
  exact ⟨by rw [e1]; exact hz, fun q h1 h2 => by rw [e1]; exact hk q h1 h2,
    ⟨Nat.le_trans hS.1 (by rw [e1]; exact hz), fun q h1 h2 => by rw [e1, hk q (Nat.lt_of_lt_of_le h1 hS.1) (fun z => h2 (hA q (Nat.lt_of_lt_of_le h1 hS.1) z))]; exact hS.2.1 q h1 h2, fun q hq => by
      rcases List.mem_append.mp hq with h | h
      · exact hS.2.2 q h
      · exact hf _ (hL q h)⟩⟩
theorem vx_calli {S SX : Type} {post : Int32 → S → Prop} {px : SX → Prop} {B : S → State → Prop} {BX : String → SX → State → Prop} {AX : Nat → Prop} (hr : vx_Run p l e R s m args below meth c H locs cells slots mc ms (F0 m pc ls st0) rest (va_Qi post B A1 a) (vx_X px BX AX) free) (hS : va_S A0 H0 H locs) (hA : ∀ q, q < H.size → A1 q → A0 q) (hf : ∀ q, free q → A0 q) (hAX : ∀ q, q < H.size → AX q → A0 q)
    (kx : ∀ (E : String) (ce : Cell) (q9 : Addr) (u : SX) (t : State) (H1 : Heap) (locs1 : List Loc), t.heap = H1 → s.vm.Alike t.vm → px u → BX E u t → H.size ≤ H1.size → (∀ q : Nat, q < H.size → ¬ AX q → H1[q]? = H[q]?) → va_S A0 H0 H1 locs1 → H1[q9]? = some ce → ce.vm = .none → s.vm.findClass E = some ce.cls → vx_W p l e R s m args below meth c H1 locs1 (cells + mc) (slots + ms) Q (F0 m pc ls rest) q9)
    (kk : ∀ (r : Int32) (u : S) (t : State) (H1 : Heap) (locs1 : List Loc), t.heap = H1 → s.vm.Alike t.vm → post r u → B u t → H.size ≤ H1.size → (∀ q : Nat, q < H.size → ¬ A1 q → H1[q]? = H[q]?) → va_S A0 H0 H1 locs1 → W p l e R s m args below meth c H1 locs1 (cells + mc) (slots + ms) Q (F0 m (pc + 3) ls (.int r :: rest))) : W p l e R s m args below meth c H locs cells slots Q (F0 m pc ls st0) := by
  intro T hT X
  rcases hr T hT X with ⟨v, st₀, t, T', L, h0, X', hL, e1, e2, ⟨⟨r, u, hv, hp, hb⟩, hF⟩, st⟩ | ⟨q, st₀, t, T', L, E, ce, h0, X', hL, e1, e2, ⟨u, hp, hb, hF⟩, hce, hcv, hcl, st⟩
  · cases hv
    obtain ⟨k1, k2, k3⟩ := vx_keep h0 e1 hS hA hf hL hF
    obtain ⟨t2, a1, b1⟩ := kk r u t T'.heap (locs ++ L) e1.symm (by rw [← e2]; exact X'.warmed.alike) hp hb k1 k2 k3 T' rfl X'
    exact ⟨t2, st t2 a1, b1⟩
  · obtain ⟨k1, k2, k3⟩ := vx_keep h0 e1 hS hAX hf hL hF
    obtain ⟨t2, a1, b1⟩ := kx E ce q u t T'.heap (locs ++ L) e1.symm (by rw [← e2]; exact X'.warmed.alike) hp hb k1 k2 k3 (by rw [e1]; exact hce) hcv hcl T' rfl X'
    exact ⟨t2, st.trans a1, b1⟩
theorem vx_calll {S SX : Type} {post : Int64 → S → Prop} {px : SX → Prop} {B : S → State → Prop} {BX : String → SX → State → Prop} {AX : Nat → Prop} (hr : vx_Run p l e R s m args below meth c H locs cells slots mc ms (F0 m pc ls st0) rest (va_Ql post B A1 a) (vx_X px BX AX) free) (hS : va_S A0 H0 H locs) (hA : ∀ q, q < H.size → A1 q → A0 q) (hf : ∀ q, free q → A0 q) (hAX : ∀ q, q < H.size → AX q → A0 q)
    (kx : ∀ (E : String) (ce : Cell) (q9 : Addr) (u : SX) (t : State) (H1 : Heap) (locs1 : List Loc), t.heap = H1 → s.vm.Alike t.vm → px u → BX E u t → H.size ≤ H1.size → (∀ q : Nat, q < H.size → ¬ AX q → H1[q]? = H[q]?) → va_S A0 H0 H1 locs1 → H1[q9]? = some ce → ce.vm = .none → s.vm.findClass E = some ce.cls → vx_W p l e R s m args below meth c H1 locs1 (cells + mc) (slots + ms) Q (F0 m pc ls rest) q9)
    (kk : ∀ (r : Int64) (u : S) (t : State) (H1 : Heap) (locs1 : List Loc), t.heap = H1 → s.vm.Alike t.vm → post r u → B u t → H.size ≤ H1.size → (∀ q : Nat, q < H.size → ¬ A1 q → H1[q]? = H[q]?) → va_S A0 H0 H1 locs1 → W p l e R s m args below meth c H1 locs1 (cells + mc) (slots + ms) Q (F0 m (pc + 3) ls (.long r :: rest))) : W p l e R s m args below meth c H locs cells slots Q (F0 m pc ls st0) := by
  intro T hT X
  rcases hr T hT X with ⟨v, st₀, t, T', L, h0, X', hL, e1, e2, ⟨⟨r, u, hv, hp, hb⟩, hF⟩, st⟩ | ⟨q, st₀, t, T', L, E, ce, h0, X', hL, e1, e2, ⟨u, hp, hb, hF⟩, hce, hcv, hcl, st⟩
  · cases hv
    obtain ⟨k1, k2, k3⟩ := vx_keep h0 e1 hS hA hf hL hF
    obtain ⟨t2, a1, b1⟩ := kk r u t T'.heap (locs ++ L) e1.symm (by rw [← e2]; exact X'.warmed.alike) hp hb k1 k2 k3 T' rfl X'
    exact ⟨t2, st t2 a1, b1⟩
  · obtain ⟨k1, k2, k3⟩ := vx_keep h0 e1 hS hAX hf hL hF
    obtain ⟨t2, a1, b1⟩ := kx E ce q u t T'.heap (locs ++ L) e1.symm (by rw [← e2]; exact X'.warmed.alike) hp hb k1 k2 k3 (by rw [e1]; exact hce) hcv hcl T' rfl X'
    exact ⟨t2, st.trans a1, b1⟩
theorem vx_callf {S SX : Type} {post : UInt32 → S → Prop} {px : SX → Prop} {B : S → State → Prop} {BX : String → SX → State → Prop} {AX : Nat → Prop} (hr : vx_Run p l e R s m args below meth c H locs cells slots mc ms (F0 m pc ls st0) rest (va_Qf post B A1 a) (vx_X px BX AX) free) (hS : va_S A0 H0 H locs) (hA : ∀ q, q < H.size → A1 q → A0 q) (hf : ∀ q, free q → A0 q) (hAX : ∀ q, q < H.size → AX q → A0 q)
    (kx : ∀ (E : String) (ce : Cell) (q9 : Addr) (u : SX) (t : State) (H1 : Heap) (locs1 : List Loc), t.heap = H1 → s.vm.Alike t.vm → px u → BX E u t → H.size ≤ H1.size → (∀ q : Nat, q < H.size → ¬ AX q → H1[q]? = H[q]?) → va_S A0 H0 H1 locs1 → H1[q9]? = some ce → ce.vm = .none → s.vm.findClass E = some ce.cls → vx_W p l e R s m args below meth c H1 locs1 (cells + mc) (slots + ms) Q (F0 m pc ls rest) q9)
    (kk : ∀ (r : UInt32) (u : S) (t : State) (H1 : Heap) (locs1 : List Loc), t.heap = H1 → s.vm.Alike t.vm → post r u → B u t → H.size ≤ H1.size → (∀ q : Nat, q < H.size → ¬ A1 q → H1[q]? = H[q]?) → va_S A0 H0 H1 locs1 → W p l e R s m args below meth c H1 locs1 (cells + mc) (slots + ms) Q (F0 m (pc + 3) ls (.float r :: rest))) : W p l e R s m args below meth c H locs cells slots Q (F0 m pc ls st0) := by
  intro T hT X
  rcases hr T hT X with ⟨v, st₀, t, T', L, h0, X', hL, e1, e2, ⟨⟨r, u, hv, hp, hb⟩, hF⟩, st⟩ | ⟨q, st₀, t, T', L, E, ce, h0, X', hL, e1, e2, ⟨u, hp, hb, hF⟩, hce, hcv, hcl, st⟩
  · cases hv
    obtain ⟨k1, k2, k3⟩ := vx_keep h0 e1 hS hA hf hL hF
    obtain ⟨t2, a1, b1⟩ := kk r u t T'.heap (locs ++ L) e1.symm (by rw [← e2]; exact X'.warmed.alike) hp hb k1 k2 k3 T' rfl X'
    exact ⟨t2, st t2 a1, b1⟩
  · obtain ⟨k1, k2, k3⟩ := vx_keep h0 e1 hS hAX hf hL hF
    obtain ⟨t2, a1, b1⟩ := kx E ce q u t T'.heap (locs ++ L) e1.symm (by rw [← e2]; exact X'.warmed.alike) hp hb k1 k2 k3 (by rw [e1]; exact hce) hcv hcl T' rfl X'
    exact ⟨t2, st.trans a1, b1⟩
theorem vx_calld {S SX : Type} {post : UInt64 → S → Prop} {px : SX → Prop} {B : S → State → Prop} {BX : String → SX → State → Prop} {AX : Nat → Prop} (hr : vx_Run p l e R s m args below meth c H locs cells slots mc ms (F0 m pc ls st0) rest (va_Qd post B A1 a) (vx_X px BX AX) free) (hS : va_S A0 H0 H locs) (hA : ∀ q, q < H.size → A1 q → A0 q) (hf : ∀ q, free q → A0 q) (hAX : ∀ q, q < H.size → AX q → A0 q)
    (kx : ∀ (E : String) (ce : Cell) (q9 : Addr) (u : SX) (t : State) (H1 : Heap) (locs1 : List Loc), t.heap = H1 → s.vm.Alike t.vm → px u → BX E u t → H.size ≤ H1.size → (∀ q : Nat, q < H.size → ¬ AX q → H1[q]? = H[q]?) → va_S A0 H0 H1 locs1 → H1[q9]? = some ce → ce.vm = .none → s.vm.findClass E = some ce.cls → vx_W p l e R s m args below meth c H1 locs1 (cells + mc) (slots + ms) Q (F0 m pc ls rest) q9)
    (kk : ∀ (r : UInt64) (u : S) (t : State) (H1 : Heap) (locs1 : List Loc), t.heap = H1 → s.vm.Alike t.vm → post r u → B u t → H.size ≤ H1.size → (∀ q : Nat, q < H.size → ¬ A1 q → H1[q]? = H[q]?) → va_S A0 H0 H1 locs1 → W p l e R s m args below meth c H1 locs1 (cells + mc) (slots + ms) Q (F0 m (pc + 3) ls (.double r :: rest))) : W p l e R s m args below meth c H locs cells slots Q (F0 m pc ls st0) := by
  intro T hT X
  rcases hr T hT X with ⟨v, st₀, t, T', L, h0, X', hL, e1, e2, ⟨⟨r, u, hv, hp, hb⟩, hF⟩, st⟩ | ⟨q, st₀, t, T', L, E, ce, h0, X', hL, e1, e2, ⟨u, hp, hb, hF⟩, hce, hcv, hcl, st⟩
  · cases hv
    obtain ⟨k1, k2, k3⟩ := vx_keep h0 e1 hS hA hf hL hF
    obtain ⟨t2, a1, b1⟩ := kk r u t T'.heap (locs ++ L) e1.symm (by rw [← e2]; exact X'.warmed.alike) hp hb k1 k2 k3 T' rfl X'
    exact ⟨t2, st t2 a1, b1⟩
  · obtain ⟨k1, k2, k3⟩ := vx_keep h0 e1 hS hAX hf hL hF
    obtain ⟨t2, a1, b1⟩ := kx E ce q u t T'.heap (locs ++ L) e1.symm (by rw [← e2]; exact X'.warmed.alike) hp hb k1 k2 k3 (by rw [e1]; exact hce) hcv hcl T' rfl X'
    exact ⟨t2, st.trans a1, b1⟩
theorem vx_callv {S SX : Type} {post : S → Prop} {px : SX → Prop} {B : S → State → Prop} {BX : String → SX → State → Prop} {AX : Nat → Prop} (hr : vx_Run p l e R s m args below meth c H locs cells slots mc ms (F0 m pc ls st0) rest (va_Qv post B A1 a) (vx_X px BX AX) free) (hS : va_S A0 H0 H locs) (hA : ∀ q, q < H.size → A1 q → A0 q) (hf : ∀ q, free q → A0 q) (hAX : ∀ q, q < H.size → AX q → A0 q)
    (kx : ∀ (E : String) (ce : Cell) (q9 : Addr) (u : SX) (t : State) (H1 : Heap) (locs1 : List Loc), t.heap = H1 → s.vm.Alike t.vm → px u → BX E u t → H.size ≤ H1.size → (∀ q : Nat, q < H.size → ¬ AX q → H1[q]? = H[q]?) → va_S A0 H0 H1 locs1 → H1[q9]? = some ce → ce.vm = .none → s.vm.findClass E = some ce.cls → vx_W p l e R s m args below meth c H1 locs1 (cells + mc) (slots + ms) Q (F0 m pc ls rest) q9)
    (kk : ∀ (u : S) (t : State) (H1 : Heap) (locs1 : List Loc), t.heap = H1 → s.vm.Alike t.vm → post u → B u t → H.size ≤ H1.size → (∀ q : Nat, q < H.size → ¬ A1 q → H1[q]? = H[q]?) → va_S A0 H0 H1 locs1 → W p l e R s m args below meth c H1 locs1 (cells + mc) (slots + ms) Q (F0 m (pc + 3) ls (rest))) : W p l e R s m args below meth c H locs cells slots Q (F0 m pc ls st0) := by
  intro T hT X
  rcases hr T hT X with ⟨v, st₀, t, T', L, h0, X', hL, e1, e2, ⟨⟨u, hv, hp, hb⟩, hF⟩, st⟩ | ⟨q, st₀, t, T', L, E, ce, h0, X', hL, e1, e2, ⟨u, hp, hb, hF⟩, hce, hcv, hcl, st⟩
  · cases hv
    obtain ⟨k1, k2, k3⟩ := vx_keep h0 e1 hS hA hf hL hF
    obtain ⟨t2, a1, b1⟩ := kk u t T'.heap (locs ++ L) e1.symm (by rw [← e2]; exact X'.warmed.alike) hp hb k1 k2 k3 T' rfl X'
    exact ⟨t2, st t2 a1, b1⟩
  · obtain ⟨k1, k2, k3⟩ := vx_keep h0 e1 hS hAX hf hL hF
    obtain ⟨t2, a1, b1⟩ := kx E ce q u t T'.heap (locs ++ L) e1.symm (by rw [← e2]; exact X'.warmed.alike) hp hb k1 k2 k3 (by rw [e1]; exact hce) hcv hcl T' rfl X'
    exact ⟨t2, st.trans a1, b1⟩
/-- caught by the row x of this method's table; the rows ahead don't take it -/
theorem vx_catch {own name : String} {E : String} {ce : Cell} {q : Addr} (hown : s.vm.findClass own = some m.cls) (pre : List ExceptionTableEntry) (x : ExceptionTableEntry) (suf : List ExceptionTableEntry) (hsplit : c.exceptionTable.toList = pre ++ x :: suf)
    (hpass : ∀ z ∈ pre, covers z pc = false ∨ (z.catchType ≠ 0 ∧ ∃ nm : String, (Cond.classLink own z.catchType nm).before args s = true ∧ va_Nc E nm s)) (hx : covers x pc = true) (h0 : x.catchType ≠ 0)
    (hlink : (Cond.classLink own x.catchType name).before args s = true) (hcast : (Cond.castable E name).before args s = true) (hcell : H[q]? = some ce) (hv : ce.vm = .none) (hcl : s.vm.findClass E = some ce.cls)
    (kk : W p l e R s m args below meth c H locs cells slots Q (F0 m x.handlerPc ls [.ref q])) : vx_W p l e R s m args below meth c H locs cells slots Q (F0 m pc ls rest) q := by
  intro T hT X
  have hpl : e.platform.magicAccessors = ({} : Platform).magicAccessors := by rw [X.admits.platform]
  obtain ⟨c3, c4, hc3, hc4, hasg⟩ := Cond.castable_spec hcast
  cases Option.some.inj (hc3.symm.trans hcl)
  obtain ⟨c5, hc5, hcl5⟩ := Cond.classLink_spec hown hlink e.platform hpl
  cases Option.some.inj (hc4.symm.trans hc5)
  obtain ⟨vm', X', st⟩ := X.thenCaughtThrough q (g := F0 m pc ls rest) rfl (Steps.refl _) (by rw [hT]; exact hcell) (by rw [hv]; rfl) (by obtain ⟨k9, h9, -⟩ := Vm.findClass_spec hcl; exact ⟨k9, h9⟩) pre x suf hsplit
    (fun z hz => by
      rcases hpass z hz with h | ⟨hz0, nm, hl1, hn1⟩
      · exact Or.inl h
      · obtain ⟨c6, hc6, hcl6⟩ := Cond.classLink_spec hown hl1 e.platform hpl
        obtain ⟨a8, b8, h1, h2, h3⟩ := hn1
        cases Option.some.inj (h1.symm.trans hcl)
        cases Option.some.inj (h2.symm.trans hc6)
        exact Or.inr ⟨hz0, _, hcl6, h3⟩) hx (Or.inr ⟨h0, c4, hcl5, hasg⟩)
  obtain ⟨t, a1, b1⟩ := kk (T.setVm vm') hT X'
  exact ⟨t, st.trans a1, b1⟩
end Rows
section Ends
variable {p : Program} {l : Launch} {e : Env} {R : Room} {s : State} {m : MethodId} {args : Array Value} {below : List Frame} {meth : Method} {c : Code} {H : Heap} {locs : List Loc} {cells slots : Nat} {Q : State → Prop}
variable {mc ms : Nat} {free : Addr → Prop} {A0 A1 : Nat → Prop} {H0 : Heap} {a : Array Value} {ls : Array Slot} {st0 rest : List Value}
variable {Qc : Array Value → State → Outcome → State → Prop} {XC : String → State → State → Prop}
/-- what a body that may throw owes at its end -/
def vx_MQ (below : List Frame) (Qc : Array Value → State → Outcome → State → Prop) (XC : String → State → State → Prop) (a : Array Value) (s : State) (mc ms : Nat) (free : Addr → Prop) : State → Prop := fun t =>
  ∃ o, t.status = .running ∧ Ended t below o ∧ vx_Q Qc XC mc ms free a s o t
theorem vx_ret {g : JFrame} {mc ms : Nat} (k : W p l e R s m args below meth c H locs cells slots (MQ below Qc args s mc ms free) g) : W p l e R s m args below meth c H locs cells slots (vx_MQ below Qc XC args s mc ms free) g := by
  intro T hT X
  obtain ⟨t, a1, o, b1, b2, b3, b4⟩ := k T hT X
  exact ⟨t, a1, o, b1, b2, Or.inl ⟨b3, b4⟩⟩
/-- not caught here: it goes on to the caller -/
theorem vx_widen {g : JFrame} {q : Addr} {k n : Nat} (h1 : cells ≤ k) (h2 : slots ≤ n) (kk : vx_W p l e R s m args below meth c H locs k n Q g q) : vx_W p l e R s m args below meth c H locs cells slots Q g q := fun T hT X => kk T hT (stand_widen X h1 h2)
theorem vx_out {pc : Nat} {E : String} {ce : Cell} {q : Addr} {mc ms : Nat} (hout : ∀ x ∈ c.exceptionTable.toList, covers x pc = false) (hlocks : meth.locks = false) (hcell : H[q]? = some ce) (hv : ce.vm = .none) (hcl : s.vm.findClass E = some ce.cls)
    (hx : ∀ t : State, t.heap = H → s.vm.Alike t.vm → XC E s t) (hf : ∀ z ∈ locs, free z.base) (hc : cells ≤ mc) (hs : slots ≤ ms) :
    vx_W p l e R s m args below meth c H locs cells slots (vx_MQ below Qc XC args s mc ms free) (F0 m pc ls rest) q := by
  intro T hT X
  obtain ⟨st1, hrun, hend, hW, hsm⟩ := X.leaveThrown q (g := F0 m pc ls rest) rfl rfl rfl hout hlocks
  have hcell9 : (T.setFrames (.throwing q :: below)).heap[q]? = some ce := by
    show T.heap[q]? = some ce
    rw [hT]; exact hcell
  exact ⟨_, st1, .threw q, hrun, hend, Or.inr ⟨q, rfl, E, ce, locs, hx _ hT hW.alike, hcell9, hv, hcl, hW, hsm.mono hc hs, hf⟩⟩
theorem vx_frame {U : State} {k n : Nat} (h : s.sameButNew ({ U with vm := s.vm } : State) locs k n) : s.heap.size ≤ U.heap.size ∧ ∀ q : Nat, q < s.heap.size → (∀ z ∈ locs, z.base ≠ q) → U.heap[q]? = s.heap[q]? := by
  obtain ⟨-, h2, -, -, -, h6⟩ := h
  refine ⟨h2, fun q hq hz => ?_⟩
  obtain ⟨c9, e1, e2, e3, e4⟩ := h6 q _ (Array.getElem?_eq_getElem hq)
  have hs : c9.slots = (s.heap[q]).slots := Array.ext_getElem? fun i => e4 i fun hm => hz _ hm rfl
  have h9 : c9 = s.heap[q] := by
    rw [hs] at e2
    exact e2
  have e5 : U.heap[q]? = some c9 := e1
  rw [e5, h9, Array.getElem?_eq_getElem hq]
/-- the words of a throw but the four that speak of the heap -/
def vx_no (w : Cond) : Bool := decide (w ≠ .isRef (.static Bundle.tN "UNASSIGNED_STACK" Bundle.steD)) && decide (w ≠ .isRef (.static Bundle.tN "SUPPRESSED_SENTINEL" Bundle.listD)) && decide (w ≠ .laysStatic Bundle.tN "UNASSIGNED_STACK" Bundle.steD) && decide (w ≠ .laysStatic Bundle.tN "SUPPRESSED_SENTINEL" Bundle.listD)
def vx_at0 (own : String) (ic : Nat) (X : String) (names : List String) : List Cond := (Bundle.ownAtoms0 own ic X names).filter vx_no
def vx_atS (own : String) (ic : Nat) (X : String) (names : List String) : List Cond := (Bundle.ownAtoms own ic X names).filter vx_no
/-- a word that the tables alone decide, or a good one -/
def vx_ot (w : Cond) : Bool := w.onTables || goodWord w
theorem vx_ot_at {args a' : Array Value} {s U : State} {w : Cond} (hW : s.WarmedH U.vm) (hvm : s.vm = U.vm) (hg : vx_ot w = true) (h : w.before args s = true) : w.before a' U = true := by
  simp only [vx_ot, Bool.or_eq_true] at hg
  rcases hg with hg | hg
  · exact va_tabs hg hvm h
  · exact word_at hW (good_of_word hg) h
/-- a list's words: the good ones out of the method's own list, the others by premises of their own -/
theorem vx_hat {args : Array Value} {s : State} {L B : List Cond} (h1 : ∀ w ∈ L.filter goodWord, w.before args s = true) (h2 : ∀ w ∈ L.filter (fun w => !goodWord w), w ∈ B) (h3 : ∀ w ∈ B, w.before args s = true) : ∀ w ∈ L, w.before args s = true := by
  intro w hw
  by_cases g : goodWord w = true
  · exact h1 w (List.mem_filter.mpr ⟨hw, g⟩)
  · refine h3 w (h2 w (List.mem_filter.mpr ⟨hw, ?_⟩))
    show (!goodWord w) = true
    cases hgw : goodWord w
    · rfl
    · exact absurd hgw g
theorem vx_c {args : Array Value} {s : State} {w : Cond} {B : List Cond} (h : w.before args s = true) (t : ∀ w ∈ B, w.before args s = true) : ∀ w' ∈ w :: B, w'.before args s = true := fun w' h' => (List.mem_cons.mp h').elim (fun e => by rw [e]; exact h) (t w')
theorem vx_n {args : Array Value} {s : State} : ∀ w ∈ ([] : List Cond), w.before args s = true := fun _ h => nomatch h
theorem vx_own {args : Array Value} {s : State} {L : List Cond} (h1 : ∀ w ∈ L.filter vx_no, w.before args s = true)
    (hU : (Cond.isRef (.static Bundle.tN "UNASSIGNED_STACK" Bundle.steD)).before args s = true) (hN : (Cond.isRef (.static Bundle.tN "SUPPRESSED_SENTINEL" Bundle.listD)).before args s = true)
    (lU : (Cond.laysStatic Bundle.tN "UNASSIGNED_STACK" Bundle.steD).before args s = true) (lN : (Cond.laysStatic Bundle.tN "SUPPRESSED_SENTINEL" Bundle.listD).before args s = true) : ∀ w ∈ L, w.before args s = true := by
  intro w hw
  by_cases e1 : w = .isRef (.static Bundle.tN "UNASSIGNED_STACK" Bundle.steD)
  · rw [e1]; exact hU
  · by_cases e2 : w = .isRef (.static Bundle.tN "SUPPRESSED_SENTINEL" Bundle.listD)
    · rw [e2]; exact hN
    · by_cases e3 : w = .laysStatic Bundle.tN "UNASSIGNED_STACK" Bundle.steD
      · rw [e3]; exact lU
      · by_cases e4 : w = .laysStatic Bundle.tN "SUPPRESSED_SENTINEL" Bundle.listD
        · rw [e4]; exact lN
        · exact h1 w (List.mem_filter.mpr ⟨hw, by unfold vx_no; rw [decide_eq_true e1, decide_eq_true e2, decide_eq_true e3, decide_eq_true e4]; rfl⟩)
/-- where a static field lies, its class's statics cell in H -/
def vx_L (C n d : String) (A : Nat → Prop) (U : State) (H : Heap) : Prop := ∃ (c : ClassId) (k : Class) (i : Nat) (f : Field) (a : Nat) (cell : Cell), U.vm.findClass C = some c ∧ U.fieldFound? C n d = some (c, k, i, f) ∧ f.isStatic = true ∧ k.statics = some a ∧ H[a]? = some cell ∧ cell.vm.isStatics = true ∧ cell.cls = c ∧ f.slot < cell.slots.size ∧ k.staticTypes[f.slot]? = some f.type ∧ ¬ A a
theorem vx_L.moved {C n d : String} {A : Nat → Prop} {u U : State} {H : Heap} (hvm : u.vm.Alike U.vm) (h : vx_L C n d A u H) : vx_L C n d A U H := by
  obtain ⟨c, k, i, f, a, cell, h1, h2, h3, h4, h5, h6, h7, h8, h9, h10⟩ := h
  obtain ⟨k', hi', he⟩ := State.fieldFound?_setVm hvm h2
  exact ⟨c, k', i, f, a, cell, by rw [hvm.findClass]; exact h1, hi', h3, by rw [he]; exact h4, h5, h6, h7, h8, by rw [he]; exact h9, h10⟩
theorem vx_L.kept {C n d : String} {A : Nat → Prop} {U : State} {H H1 : Heap} (h : vx_L C n d A U H) (hq : ∀ a : Nat, a < H.size → ¬ A a → H1[a]? = H[a]?) : vx_L C n d A U H1 := by
  obtain ⟨c, k, i, f, a, cell, h1, h2, h3, h4, h5, h6, h7, h8, h9, h10⟩ := h
  exact ⟨c, k, i, f, a, cell, h1, h2, h3, h4, by rw [hq a (Array.getElem?_eq_some_iff.mp h5).1 h10]; exact h5, h6, h7, h8, h9, h10⟩
theorem vx_L.narrow {C n d : String} {A B : Nat → Prop} {U : State} {H : Heap} (h : vx_L C n d A U H) (hAB : ∀ q, B q → A q) : vx_L C n d B U H := by
  obtain ⟨c, k, i, f, a, cell, h1, h2, h3, h4, h5, h6, h7, h8, h9, h10⟩ := h
  exact ⟨c, k, i, f, a, cell, h1, h2, h3, h4, h5, h6, h7, h8, h9, fun z => h10 (hAB _ z)⟩
theorem vx_L.word {C n d : String} {A : Nat → Prop} {s : State} {args : Array Value} (h : vx_L C n d A s s.heap) : (Cond.laysStatic C n d).before args s = true := by
  obtain ⟨c, k, i, f, a, cell, h1, h2, h3, h4, h5, h6, h7, h8, h9, -⟩ := h
  show (Cond.laysStatic C n d).holds args s none s [] = true
  exact Cond.laysStatic_of h1 h2 h3 h4 h5 h6 h7 h8 h9
/-- .. and what it holds: null or some reference -/
def vx_Zq (C n d : String) (A : Nat → Prop) (U : State) (H : Heap) : Prop := va_Zq C n d A U H ∧ vx_L C n d A U H
theorem vx_Zq.moved {C n d : String} {A : Nat → Prop} {u U : State} {H : Heap} (hvm : u.vm.Alike U.vm) (h : vx_Zq C n d A u H) : vx_Zq C n d A U H := ⟨va_Zq.moved hvm h.1, vx_L.moved hvm h.2⟩
theorem vx_Zq.kept {C n d : String} {A : Nat → Prop} {U : State} {H H1 : Heap} (h : vx_Zq C n d A U H) (hq : ∀ a : Nat, a < H.size → ¬ A a → H1[a]? = H[a]?) : vx_Zq C n d A U H1 := ⟨va_Zq.kept h.1 hq, vx_L.kept h.2 hq⟩
theorem vx_Zq.narrow {C n d : String} {A B : Nat → Prop} {U : State} {H : Heap} (h : vx_Zq C n d A U H) (hAB : ∀ q, B q → A q) : vx_Zq C n d B U H := ⟨va_Zq.narrow h.1 hAB, vx_L.narrow h.2 hAB⟩
theorem vx_Zqof {args : Array Value} {s : State} {C n d : String} {A : Nat → Prop} (hl : (Cond.laysStatic C n d).before args s = true) (hini : (Cond.initialized C).before args s = true) (h : (Cond.isRef (.static C n d)).before args s = true) (hA : ∀ a : Nat, a < s.heap.size → ¬ A a) : vx_Zq C n d A s s.heap := by
  refine ⟨va_Zqof hl hini h hA, ?_⟩
  obtain ⟨c, k, i, f, a, cell, h1, h2, h3, h4, h5, h6, h7, h8, h9⟩ := Cond.laysStatic_spec hl
  exact ⟨c, k, i, f, a, cell, h1, h2, h3, h4, h5, h6, h7, h8, h9, hA a (Array.getElem?_eq_some_iff.mp h5).1⟩
theorem vx_isRef {C n d : String} {v : Value} {A : Nat → Prop} {s : State} {args : Array Value} (h : va_Z C n d v A s s.heap) (hv : v.isRef = true) : (Cond.isRef (.static C n d)).before args s = true := by
  obtain ⟨cf, kf, fi, f, a, cell, h1, h2, h3, h4, h5, h6, h7, -⟩ := h
  have he : (Term.static C n d).eval args s none [] s = some v := by
    simp [Term.eval, State.fieldNamed?, h1, h2, h4, h5, h6, h7]
  simp only [Cond.before, Cond.holds, Cond.value, he]
  cases v <;> simp_all [Value.isRef]
theorem vx_isRefq {C n d : String} {A : Nat → Prop} {s : State} {args : Array Value} (h : va_Zq C n d A s s.heap) : (Cond.isRef (.static C n d)).before args s = true := by
  rcases h with h | ⟨t, h⟩
  · exact vx_isRef h rfl
  · exact vx_isRef h rfl
/-- the same frame, seen from here: as if the method were called anew in this heap -/
theorem vx_rebase {T : State} (X : Stand p l e R s m args below meth c T locs cells slots) {R' : Room} (hf : R'.frames ≤ R.frames) (hl : R'.locals ≤ R.locals) (hc : cells + R'.cells ≤ R.cells) (hs : slots + R'.slots ≤ R.slots) :
    Stand p l e R' ((T.setVm s.vm).setFrames (.invoking m args :: below)) m args below meth c T [] 0 0 := by
  have htop : (T.setVm s.vm).topJava?.isSome := X.here.top
  have hF : ((T.setVm s.vm).setFrames (.invoking m args :: below)).frames = .invoking m args :: below := State.frames_setFrames _ (State.cur_lt_of_top htop)
  obtain ⟨g₀, hg0⟩ := Option.isSome_iff_exists.mp htop
  obtain ⟨r, hr⟩ := State.topJava?_eq_some.mp hg0
  have hl9 : e.platform.stackLimits (T.setVm s.vm).me = e.platform.stackLimits s.me := X.limits
  have hb9 : (T.setVm s.vm).me.stackBytes = s.me.stackBytes := X.bytes
  refine ⟨X.admits, X.cas, X.clock, hF, ?_, X.hears, X.method, X.code, X.here, X.tail, X.warmed, ?_, ?_, ?_⟩
  · have h := X.room
    have hU : ((T.setVm s.vm).setFrames (.invoking m args :: below)).localsInUse = s.localsInUse := by
      rw [State.localsInUse_invoking hF (meth := meth) (c := c) X.method X.code, State.localsInUse_invoking X.frames X.method X.code]
    simp only [State.hasRoom, Bool.and_eq_true, decide_eq_true_eq] at h ⊢
    obtain ⟨⟨⟨⟨h1, h2, h3, h4, h5, h6⟩, h7⟩, h8⟩, h9⟩ := h
    rw [X.frames, List.length_cons] at h2 h3
    have q1 := X.heapSize
    have q2 := X.used
    simp only [hF, hU, List.length_cons, State.stackLimits_setFrames, State.stackBytes_setFrames, hl9, hb9]
    refine ⟨⟨⟨⟨by omega, by omega, by omega, by omega, by omega, h6⟩, ?_⟩, ?_⟩, X.book⟩
    · show T.heap.size + R'.cells ≤ e.platform.maxCells
      omega
    · show T.slotsUsed + R'.slots ≤ e.platform.maxSlots
      omega
  · rw [State.stackLimits_setFrames]; rfl
  · rw [State.stackBytes_setFrames]; rfl
  · refine ⟨?_, Nat.le_refl _, Nat.le_refl _, ?_, ?_, fun a c9 h9 => ⟨c9, h9, rfl, rfl, fun _ _ => rfl⟩⟩
    · obtain ⟨t, ht, -⟩ := State.frames_cons hr
      show T.setVm s.vm = { ((T.setVm s.vm).setFrames (.invoking m args :: below)).setFrames (T.setVm s.vm).frames with heap := T.heap, slotsUsed := T.slotsUsed }
      rw [State.setFrames_setFrames, State.setFrames_self ht]
      rfl
    · show T.slotsUsed = T.slotsUsed + ((T.heap.toList.drop T.heap.size).map (·.slots.size)).sum
      rw [List.drop_eq_nil_of_le (Nat.le_of_eq Array.length_toList)]
      rfl
    · show ((T.heap.toList.drop T.heap.size).map (·.slots.size)).sum ≤ 0
      rw [List.drop_eq_nil_of_le (Nat.le_of_eq Array.length_toList)]
      exact Nat.le_refl _
/-- 'throw new E()': new; dup; invokespecial; athrow -/
theorem vx_throw0 {cc : ByteArray} {pc : Nat} (hexec : p.tables.exec = Jvm.exec) (hb : c.code = cc) (hl : l.stackTraces = false) {own cls : String} {names : List String} {ik ic mc ms : Nat} {A : Nat → Prop}
    (hown : s.vm.findClass own = some m.cls) (hcls : Bundle.fit cls = true) (hnames : ∀ n ∈ names, Bundle.fit n = true)
    (hk : (Cond.classLink own ik cls).before args s = true) (hini : (Cond.initialized cls).before args s = true) (hat : ∀ w ∈ vx_at0 own ic cls names, w.before args s = true)
    (hgood : ∀ w ∈ Cond.classLink own ik cls :: Cond.initialized cls :: vx_at0 own ic cls names, vx_ot w = true)
    (hU : vx_Zq Bundle.tN "UNASSIGNED_STACK" Bundle.steD A s s.heap) (hN : vx_Zq Bundle.tN "SUPPRESSED_SENTINEL" Bundle.listD A s s.heap) (hS : va_S A s.heap H locs) (hsize : ls.size = c.maxLocals)
    (d0 : decode cc pc = .ok (.new ik, 3)) (d3 : decode cc (pc + 3) = .ok (.dup, 1)) (d4 : decode cc (pc + 4) = .ok (.invokespecial ic, 3)) (d7 : decode cc (pc + 7) = .ok (.athrow, 1))
    (hout : ∀ x ∈ c.exceptionTable.toList, covers x (pc + 7) = false)
    (hRframes : names.length + 3 < R.frames) (hRlocals : (rest.map fun v => v.category).sum + (13 * (names.length + 1) + 42) ≤ R.locals) (hRcells : cells + 1 ≤ R.cells) (hRslots : slots + 6 ≤ R.slots) (hlocks : meth.locks = false)
    (hx : ∀ t : State, s.vm.Alike t.vm → H.size ≤ t.heap.size → (∀ q : Nat, q < H.size → t.heap[q]? = H[q]?) → XC cls s t)
    (hf : ∀ z ∈ locs, free z.base) (hc : cells + 1 ≤ mc) (hs : slots + 6 ≤ ms) :
    W p l e R s m args below meth c H locs cells slots (vx_MQ below Qc XC args s mc ms free) (F0 m pc ls rest) := by
  intro T hT X
  have htr : e.platform.stackTraces = false := (show e.platform.stackTraces = l.stackTraces by rw [X.admits.platform]).trans hl
  have Y := vx_rebase X (R' := { frames := R.frames, locals := R.locals, cells := 1, slots := 6 }) (Nat.le_refl _) (Nat.le_refl _) hRcells hRslots
  obtain ⟨s', hA⟩ : ∃ z, z = (T.setVm s.vm).setFrames (.invoking m args :: below) := ⟨_, rfl⟩
  rw [← hA] at Y
  have hvm : s'.vm = s.vm := by rw [hA]; rfl
  have hhp : s'.heap = H := by rw [hA]; exact hT
  have hW0 : s.WarmedH s'.vm := by rw [hvm]; exact State.WarmedH.refl s
  have hat' : ∀ w ∈ vx_at0 own ic cls names, w.before args s' = true := fun w hw => vx_ot_at hW0 hvm.symm (hgood w (List.mem_cons_of_mem _ (List.mem_cons_of_mem _ hw))) (hat w hw)
  have hk' : (Cond.classLink own ik cls).before args s' = true := vx_ot_at hW0 hvm.symm (hgood _ List.mem_cons_self) hk
  have hini' : (Cond.initialized cls).before args s' = true := vx_ot_at hW0 hvm.symm (hgood _ (List.mem_cons_of_mem _ List.mem_cons_self)) hini
  have hU' : vx_Zq Bundle.tN "UNASSIGNED_STACK" Bundle.steD A s' s'.heap := by rw [hhp]; exact vx_Zq.moved hW0.alike (hU.kept hS.2.1)
  have hN' : vx_Zq Bundle.tN "SUPPRESSED_SENTINEL" Bundle.listD A s' s'.heap := by rw [hhp]; exact vx_Zq.moved hW0.alike (hN.kept hS.2.1)
  have h : ∀ w ∈ Bundle.ownAtoms0 own ic cls names, w.before args s' = true := vx_own hat' (vx_isRefq hU'.1) (vx_isRefq hN'.1) hU'.2.word hN'.2.word
  have hown' : s'.vm.findClass own = some m.cls := by rw [hvm]; exact hown
  have hins : (Cond.instantiable cls 6).before args s' = true := h _ (by simp [Bundle.ownAtoms0])
  obtain ⟨vm₁, cX, kX, hfX, hkX, -, -, X₁, st1⟩ := Y.newCold hexec (own := own) (C := cls) (index := ik) (n := 6) hown' hk' hins hini'
    (g := F0 m pc ls rest) rfl (by rw [hb]; exact d0) (Nat.le_refl _) (Nat.le_refl _)
  generalize hT1 : (T.setVm vm₁).pushCell { cls := cX, slots := kX.instanceTypes.map defaultValue, vm := .none } = T1 at X₁ st1
  have hcat : (Value.ref T.heap.size).category = 1 := rfl
  have hcellA : T1.heap[T.heap.size]? = some (freshCell cX kX) := by rw [← hT1]; exact State.heap_pushCell_size _ _
  have d3' : decode c.code (pc + 3) = .ok (.dup, 1) := by rw [hb]; exact d3
  obtain ⟨U, hsteps, hrun, hend, hW, hsame, ce, hce, hO⟩ := X₁.ctorThrow0 hexec htr (own := own) (cls := cls) (names := names) (ic := ic) hown' hcls hnames h (fun x hx => nomatch hx) hfX hkX hcellA (by rw [hhp, hT]; exact Nat.le_refl _)
    (g := { method := m, pc := pc + 4, locals := ls, stack := .ref T.heap.size :: .ref T.heap.size :: rest, locked := none }) rfl hsize rfl rfl (rest := rest) rfl
    (by rw [hb]; exact d4) (by rw [hb]; exact d7) hout hRframes (by simp only [List.map_cons, List.sum_cons, hcat]; omega) hlocks
  obtain ⟨f1, f2⟩ := vx_frame hsame
  rw [hhp] at f1 f2
  have hWs : s.WarmedH U.vm := State.WarmedH.trans hW0 hW
  have hcl : s.vm.findClass cls = some ce.cls := by
    have h9 := hO.cls
    rw [hvm] at h9
    exact h9
  have hall : s.sameButNew ({ U with vm := s.vm } : State) locs mc ms := by
    subst hA
    obtain ⟨e1, e2⟩ := hsame
    rw [State.setFrames_setFrames] at e1
    have h2 : (T.setVm s.vm).sameButNew ({ U with vm := s.vm } : State) [] (0 + 1) (0 + 6) := ⟨e1, e2⟩
    have h3 := X.same.trans h2
    rw [List.append_nil] at h3
    exact h3.mono hc hs
  refine ⟨U, ?_, .threw T.heap.size, hrun, hend, Or.inr ⟨T.heap.size, rfl, cls, ce, locs, hx U hWs.alike f1 (fun q hq => f2 q hq (fun z hz => nomatch hz)), hce, hO.vm, hcl, hWs, hall, hf⟩⟩
  refine st1 _ ?_
  show Steps p.tables e below (T1.setTop { method := m, pc := pc + 3, locals := ls, stack := .ref T.heap.size :: rest, locked := none }) _
  jvm_step X₁.here [X₁.here.top, hexec, d3', Value.category]
  exact hsteps
/-- 'throw new E("text")': new; dup; ldc; invokespecial; athrow -/
theorem vx_throwS {cc : ByteArray} {pc : Nat} (hexec : p.tables.exec = Jvm.exec) (hb : c.code = cc) (hl : l.stackTraces = false) {own cls text : String} {names : List String} {ik is ic mc ms sa : Nat} {A : Nat → Prop}
    (hown : s.vm.findClass own = some m.cls) (hcls : Bundle.fit cls = true) (hnames : ∀ n ∈ names, Bundle.fit n = true)
    (hk : (Cond.classLink own ik cls).before args s = true) (hini : (Cond.initialized cls).before args s = true) (hstr : vk_R own is text sa s) (hat : ∀ w ∈ vx_atS own ic cls names, w.before args s = true)
    (hgood : ∀ w ∈ Cond.classLink own ik cls :: Cond.initialized cls :: vx_atS own ic cls names, vx_ot w = true)
    (hU : vx_Zq Bundle.tN "UNASSIGNED_STACK" Bundle.steD A s s.heap) (hN : vx_Zq Bundle.tN "SUPPRESSED_SENTINEL" Bundle.listD A s s.heap) (hS : va_S A s.heap H locs) (hsize : ls.size = c.maxLocals)
    (d0 : decode cc pc = .ok (.new ik, 3)) (d3 : decode cc (pc + 3) = .ok (.dup, 1)) (d4 : decode cc (pc + 4) = .ok (.ldc is, 2)) (d6 : decode cc (pc + 6) = .ok (.invokespecial ic, 3)) (d9 : decode cc (pc + 9) = .ok (.athrow, 1))
    (hout : ∀ x ∈ c.exceptionTable.toList, covers x (pc + 9) = false)
    (hRframes : names.length + 3 < R.frames) (hRlocals : (rest.map fun v => v.category).sum + (13 * (names.length + 1) + 43) ≤ R.locals) (hRcells : cells + 1 ≤ R.cells) (hRslots : slots + 6 ≤ R.slots) (hlocks : meth.locks = false)
    (hx : ∀ t : State, s.vm.Alike t.vm → H.size ≤ t.heap.size → (∀ q : Nat, q < H.size → t.heap[q]? = H[q]?) → XC cls s t)
    (hf : ∀ z ∈ locs, free z.base) (hc : cells + 1 ≤ mc) (hs : slots + 6 ≤ ms) :
    W p l e R s m args below meth c H locs cells slots (vx_MQ below Qc XC args s mc ms free) (F0 m pc ls rest) := by
  intro T hT X
  have htr : e.platform.stackTraces = false := (show e.platform.stackTraces = l.stackTraces by rw [X.admits.platform]).trans hl
  have Y := vx_rebase X (R' := { frames := R.frames, locals := R.locals, cells := 1, slots := 6 }) (Nat.le_refl _) (Nat.le_refl _) hRcells hRslots
  obtain ⟨s', hA⟩ : ∃ z, z = (T.setVm s.vm).setFrames (.invoking m args :: below) := ⟨_, rfl⟩
  rw [← hA] at Y
  have hvm : s'.vm = s.vm := by rw [hA]; rfl
  have hhp : s'.heap = H := by rw [hA]; exact hT
  have hW0 : s.WarmedH s'.vm := by rw [hvm]; exact State.WarmedH.refl s
  have hat' : ∀ w ∈ vx_atS own ic cls names, w.before args s' = true := fun w hw => vx_ot_at hW0 hvm.symm (hgood w (List.mem_cons_of_mem _ (List.mem_cons_of_mem _ hw))) (hat w hw)
  have hk' : (Cond.classLink own ik cls).before args s' = true := vx_ot_at hW0 hvm.symm (hgood _ List.mem_cons_self) hk
  have hini' : (Cond.initialized cls).before args s' = true := vx_ot_at hW0 hvm.symm (hgood _ (List.mem_cons_of_mem _ List.mem_cons_self)) hini
  have hU' : vx_Zq Bundle.tN "UNASSIGNED_STACK" Bundle.steD A s' s'.heap := by rw [hhp]; exact vx_Zq.moved hW0.alike (hU.kept hS.2.1)
  have hN' : vx_Zq Bundle.tN "SUPPRESSED_SENTINEL" Bundle.listD A s' s'.heap := by rw [hhp]; exact vx_Zq.moved hW0.alike (hN.kept hS.2.1)
  have h : ∀ w ∈ Bundle.ownAtoms own ic cls names, w.before args s' = true := vx_own hat' (vx_isRefq hU'.1) (vx_isRefq hN'.1) hU'.2.word hN'.2.word
  have hown' : s'.vm.findClass own = some m.cls := by rw [hvm]; exact hown
  have hins : (Cond.instantiable cls 6).before args s' = true := h _ (by simp [Bundle.ownAtoms])
  obtain ⟨vm₁, cX, kX, hfX, hkX, -, -, X₁, st1⟩ := Y.newCold hexec (own := own) (C := cls) (index := ik) (n := 6) hown' hk' hins hini'
    (g := F0 m pc ls rest) rfl (by rw [hb]; exact d0) (Nat.le_refl _) (Nat.le_refl _)
  generalize hT1 : (T.setVm vm₁).pushCell { cls := cX, slots := kX.instanceTypes.map defaultValue, vm := .none } = T1 at X₁ st1
  have hcat : (Value.ref T.heap.size).category = 1 := rfl
  have hcellA : T1.heap[T.heap.size]? = some (freshCell cX kX) := by rw [← hT1]; exact State.heap_pushCell_size _ _
  have d3' : decode c.code (pc + 3) = .ok (.dup, 1) := by rw [hb]; exact d3
  have d4' : decode c.code (pc + 4) = .ok (.ldc is, 2) := by rw [hb]; exact d4
  have hstr' : vk_R own is text sa s' := vk_R.warm hW0 hstr
  obtain ⟨U, hsteps, hrun, hend, hW, hsame, ce, hce, hO⟩ := X₁.ctorThrowS hexec htr (own := own) (cls := cls) (names := names) (ic := ic) hown' hcls hnames h (fun x hx => nomatch hx) hfX hkX hcellA (by rw [hhp, hT]; exact Nat.le_refl _) (msg := .ref sa) rfl
    (g := { method := m, pc := pc + 6, locals := ls, stack := .ref sa :: .ref T.heap.size :: .ref T.heap.size :: rest, locked := none }) rfl hsize rfl rfl (rest := rest) rfl
    (by rw [hb]; exact d6) (by rw [hb]; exact d9) hout hRframes (by simp only [List.map_cons, List.sum_cons, hcat]; omega) hlocks
  obtain ⟨f1, f2⟩ := vx_frame hsame
  rw [hhp] at f1 f2
  have hWs : s.WarmedH U.vm := State.WarmedH.trans hW0 hW
  have hcl : s.vm.findClass cls = some ce.cls := by
    have h9 := hO.cls
    rw [hvm] at h9
    exact h9
  have hall : s.sameButNew ({ U with vm := s.vm } : State) locs mc ms := by
    subst hA
    obtain ⟨e1, e2⟩ := hsame
    rw [State.setFrames_setFrames] at e1
    have h2 : (T.setVm s.vm).sameButNew ({ U with vm := s.vm } : State) [] (0 + 1) (0 + 6) := ⟨e1, e2⟩
    have h3 := X.same.trans h2
    rw [List.append_nil] at h3
    exact h3.mono hc hs
  refine ⟨U, ?_, .threw T.heap.size, hrun, hend, Or.inr ⟨T.heap.size, rfl, cls, ce, locs, hx U hWs.alike f1 (fun q hq => f2 q hq (fun z hz => nomatch hz)), hce, hO.vm, hcl, hWs, hall, hf⟩⟩
  refine st1 _ ?_
  show Steps p.tables e below (T1.setTop { method := m, pc := pc + 3, locals := ls, stack := .ref T.heap.size :: rest, locked := none }) _
  jvm_step X₁.here [X₁.here.top, hexec, d3', Value.category]
  exact X₁.ldcString hexec (own := own) (text := text) (index := is) (a := sa) hown' hstr'.1 hstr'.2
    (g := { method := m, pc := pc + 4, locals := ls, stack := .ref T.heap.size :: .ref T.heap.size :: rest, locked := none }) rfl d4' _ hsteps
/-- 'throw new E("text")', the text by a wide index -/
theorem vx_throwSW {cc : ByteArray} {pc : Nat} (hexec : p.tables.exec = Jvm.exec) (hb : c.code = cc) (hl : l.stackTraces = false) {own cls text : String} {names : List String} {ik is ic mc ms sa : Nat} {A : Nat → Prop}
    (hown : s.vm.findClass own = some m.cls) (hcls : Bundle.fit cls = true) (hnames : ∀ n ∈ names, Bundle.fit n = true)
    (hk : (Cond.classLink own ik cls).before args s = true) (hini : (Cond.initialized cls).before args s = true) (hstr : vk_R own is text sa s) (hat : ∀ w ∈ vx_atS own ic cls names, w.before args s = true)
    (hgood : ∀ w ∈ Cond.classLink own ik cls :: Cond.initialized cls :: vx_atS own ic cls names, vx_ot w = true)
    (hU : vx_Zq Bundle.tN "UNASSIGNED_STACK" Bundle.steD A s s.heap) (hN : vx_Zq Bundle.tN "SUPPRESSED_SENTINEL" Bundle.listD A s s.heap) (hS : va_S A s.heap H locs) (hsize : ls.size = c.maxLocals)
    (d0 : decode cc pc = .ok (.new ik, 3)) (d3 : decode cc (pc + 3) = .ok (.dup, 1)) (d4 : decode cc (pc + 4) = .ok (.ldc_w is, 3)) (d7 : decode cc (pc + 7) = .ok (.invokespecial ic, 3)) (d10 : decode cc (pc + 10) = .ok (.athrow, 1))
    (hout : ∀ x ∈ c.exceptionTable.toList, covers x (pc + 10) = false)
    (hRframes : names.length + 3 < R.frames) (hRlocals : (rest.map fun v => v.category).sum + (13 * (names.length + 1) + 43) ≤ R.locals) (hRcells : cells + 1 ≤ R.cells) (hRslots : slots + 6 ≤ R.slots) (hlocks : meth.locks = false)
    (hx : ∀ t : State, s.vm.Alike t.vm → H.size ≤ t.heap.size → (∀ q : Nat, q < H.size → t.heap[q]? = H[q]?) → XC cls s t)
    (hf : ∀ z ∈ locs, free z.base) (hc : cells + 1 ≤ mc) (hs : slots + 6 ≤ ms) :
    W p l e R s m args below meth c H locs cells slots (vx_MQ below Qc XC args s mc ms free) (F0 m pc ls rest) := by
  intro T hT X
  have htr : e.platform.stackTraces = false := (show e.platform.stackTraces = l.stackTraces by rw [X.admits.platform]).trans hl
  have Y := vx_rebase X (R' := { frames := R.frames, locals := R.locals, cells := 1, slots := 6 }) (Nat.le_refl _) (Nat.le_refl _) hRcells hRslots
  obtain ⟨s', hA⟩ : ∃ z, z = (T.setVm s.vm).setFrames (.invoking m args :: below) := ⟨_, rfl⟩
  rw [← hA] at Y
  have hvm : s'.vm = s.vm := by rw [hA]; rfl
  have hhp : s'.heap = H := by rw [hA]; exact hT
  have hW0 : s.WarmedH s'.vm := by rw [hvm]; exact State.WarmedH.refl s
  have hat' : ∀ w ∈ vx_atS own ic cls names, w.before args s' = true := fun w hw => vx_ot_at hW0 hvm.symm (hgood w (List.mem_cons_of_mem _ (List.mem_cons_of_mem _ hw))) (hat w hw)
  have hk' : (Cond.classLink own ik cls).before args s' = true := vx_ot_at hW0 hvm.symm (hgood _ List.mem_cons_self) hk
  have hini' : (Cond.initialized cls).before args s' = true := vx_ot_at hW0 hvm.symm (hgood _ (List.mem_cons_of_mem _ List.mem_cons_self)) hini
  have hU' : vx_Zq Bundle.tN "UNASSIGNED_STACK" Bundle.steD A s' s'.heap := by rw [hhp]; exact vx_Zq.moved hW0.alike (hU.kept hS.2.1)
  have hN' : vx_Zq Bundle.tN "SUPPRESSED_SENTINEL" Bundle.listD A s' s'.heap := by rw [hhp]; exact vx_Zq.moved hW0.alike (hN.kept hS.2.1)
  have h : ∀ w ∈ Bundle.ownAtoms own ic cls names, w.before args s' = true := vx_own hat' (vx_isRefq hU'.1) (vx_isRefq hN'.1) hU'.2.word hN'.2.word
  have hown' : s'.vm.findClass own = some m.cls := by rw [hvm]; exact hown
  have hins : (Cond.instantiable cls 6).before args s' = true := h _ (by simp [Bundle.ownAtoms])
  obtain ⟨vm₁, cX, kX, hfX, hkX, -, -, X₁, st1⟩ := Y.newCold hexec (own := own) (C := cls) (index := ik) (n := 6) hown' hk' hins hini'
    (g := F0 m pc ls rest) rfl (by rw [hb]; exact d0) (Nat.le_refl _) (Nat.le_refl _)
  generalize hT1 : (T.setVm vm₁).pushCell { cls := cX, slots := kX.instanceTypes.map defaultValue, vm := .none } = T1 at X₁ st1
  have hcat : (Value.ref T.heap.size).category = 1 := rfl
  have hcellA : T1.heap[T.heap.size]? = some (freshCell cX kX) := by rw [← hT1]; exact State.heap_pushCell_size _ _
  have d3' : decode c.code (pc + 3) = .ok (.dup, 1) := by rw [hb]; exact d3
  have d4' : decode c.code (pc + 4) = .ok (.ldc_w is, 3) := by rw [hb]; exact d4
  have hstr' : vk_R own is text sa s' := vk_R.warm hW0 hstr
  obtain ⟨U, hsteps, hrun, hend, hW, hsame, ce, hce, hO⟩ := X₁.ctorThrowS hexec htr (own := own) (cls := cls) (names := names) (ic := ic) hown' hcls hnames h (fun x hx => nomatch hx) hfX hkX hcellA (by rw [hhp, hT]; exact Nat.le_refl _) (msg := .ref sa) rfl
    (g := { method := m, pc := pc + 7, locals := ls, stack := .ref sa :: .ref T.heap.size :: .ref T.heap.size :: rest, locked := none }) rfl hsize rfl rfl (rest := rest) rfl
    (by rw [hb]; exact d7) (by rw [hb]; exact d10) hout hRframes (by simp only [List.map_cons, List.sum_cons, hcat]; omega) hlocks
  obtain ⟨f1, f2⟩ := vx_frame hsame
  rw [hhp] at f1 f2
  have hWs : s.WarmedH U.vm := State.WarmedH.trans hW0 hW
  have hcl : s.vm.findClass cls = some ce.cls := by
    have h9 := hO.cls
    rw [hvm] at h9
    exact h9
  have hall : s.sameButNew ({ U with vm := s.vm } : State) locs mc ms := by
    subst hA
    obtain ⟨e1, e2⟩ := hsame
    rw [State.setFrames_setFrames] at e1
    have h2 : (T.setVm s.vm).sameButNew ({ U with vm := s.vm } : State) [] (0 + 1) (0 + 6) := ⟨e1, e2⟩
    have h3 := X.same.trans h2
    rw [List.append_nil] at h3
    exact h3.mono hc hs
  refine ⟨U, ?_, .threw T.heap.size, hrun, hend, Or.inr ⟨T.heap.size, rfl, cls, ce, locs, hx U hWs.alike f1 (fun q hq => f2 q hq (fun z hz => nomatch hz)), hce, hO.vm, hcl, hWs, hall, hf⟩⟩
  refine st1 _ ?_
  show Steps p.tables e below (T1.setTop { method := m, pc := pc + 3, locals := ls, stack := .ref T.heap.size :: rest, locked := none }) _
  jvm_step X₁.here [X₁.here.top, hexec, d3', Value.category]
  exact X₁.ldcStringW hexec (own := own) (text := text) (index := is) (a := sa) hown' hstr'.1 hstr'.2
    (g := { method := m, pc := pc + 4, locals := ls, stack := .ref T.heap.size :: .ref T.heap.size :: rest, locked := none }) rfl d4' _ hsteps
end Ends
section Bodies
variable {l : Launch}
theorem vx_ofW {y : MethodName} {ws ws' : List Cond} {rm : Room} {Pc : Array Value → State → Prop} {Qc : Array Value → State → Outcome → State → Prop} {XC : String → State → State → Prop} {mc ms : Nat} {free : Addr → Prop} {cc : ByteArray} {maxL : Nat} {ret : Option FieldType}
    (hy : plainName y.cls = true) (hw : ws = Cond.code y cc maxL ret :: ws')
    (body : ∀ p e s m args below meth c s₁, BodyLoose p l y (headSpec ws rm) cc maxL ret e s m args below meth c s₁ → c.maxLocals = maxL → (∀ x ∈ c.exceptionTable.toList, False) → Pc args s →
      W p l e (headSpec ws rm).room s m args below meth c s.heap [] 0 0 (vx_MQ below Qc XC args s mc ms free) (entryFrame m args maxL)) : vx_Met l y ws rm Pc Qc XC mc ms free := by
  refine MetFree.of_bodyS (code := cc) (maxLocals := maxL) (ret := ret) hy ?_ ?_
  · intro args s m h hn
    obtain ⟨meth, c, h1, h2, h3, h4, h5, h6, -, -⟩ := Cond.code_spec hn (atoms_spec (ws := ws) h _ (by rw [hw]; exact List.mem_cons_self))
    exact ⟨meth, c, h1, h2, h3, h4, h5, h6⟩
  · intro p e s m args below meth c s₁ B hml hP _
    have hh0 : s₁.heap = s.heap := by rw [B.state]; rfl
    have ht : ∀ x ∈ c.exceptionTable.toList, False := by
      obtain ⟨meth9, c9, h1, h2, -, -, -, -, h7, -⟩ := Cond.code_spec B.named (atoms_spec (ws := ws) B.pre _ (by rw [hw]; exact List.mem_cons_self))
      cases Option.some.inj (h1.symm.trans B.method)
      cases Option.some.inj (h2.symm.trans (Stand.of_body B).code)
      intro x hx
      rw [Array.isEmpty_iff.mp h7] at hx
      cases hx
    obtain ⟨t, a1, o, b1, b2, b3⟩ := body p e s m args below meth c s₁ B hml ht hP s₁ hh0 (Stand.of_body B)
    exact ⟨t, o, a1, b1, b2, b3⟩
/-- the table of a body with handlers -/
theorem vx_table {p : Program} {x y : MethodName} {S : Spec} {cc bytes : ByteArray} {maxL maxL' : Nat} {ret ret' : Option FieldType} {e : Env} {s s₁ : State} {m : MethodId} {args : Array Value} {below : List Frame} {meth : Method} {c : Code} {hh : List (Nat × Nat × Nat × Nat)}
    (B : BodyLoose p l y S cc maxL ret e s m args below meth c s₁) (h : (Cond.codeWith y bytes maxL' ret' hh).before args s = true) : c.exceptionTable.toList = tableOf hh := by
  obtain ⟨m9, meth9, c9, hn9, h1, h2, -, -, h6, -⟩ := Cond.codeWith_spec h
  cases Option.some.inj (hn9.symm.trans B.named)
  cases Option.some.inj (h1.symm.trans B.method)
  cases Option.some.inj (h2.symm.trans (Stand.of_body B).code)
  rw [← h6, table_eq]
end Bodies
end VXA
/-! ===== END ===== -/
/-! ===== BEGIN a static call of a method with an exception table ===== -/
section VXS
variable {p : Program} {l : Launch} {e : Env} {R : Room} {s : State} {m : MethodId} {args : Array Value} {below : List Frame} {meth : Method} {c : Code} {T : State} {H : Heap} {locs : List Loc} {cells slots : Nat}
abbrev vx_CSW (R : Room) (s : State) (args : Array Value) (own : String) (index : Nat) (y : MethodName) (bytes : ByteArray) (maxL : Nat) (ret : Option FieldType) (hh : List (Nat × Nat × Nat × Nat)) (ws : List Cond) (rm : Room) (mc ms n : Nat) : Prop :=
  (rm.cells = mc ∧ rm.slots = ms ∧ rm.frames + 1 ≤ R.frames ∧ 8 + (maxL + 11) + rm.locals ≤ R.locals ∧ (∀ w ∈ ws, ∀ (a' : Array Value) (U : State), s.WarmedH U.vm → w.before a' U = true) ∧ Cond.codeWith y bytes maxL ret hh ∈ ws) ∧
  (Cond.codeWith y bytes maxL ret hh).before args s = true ∧ (Cond.initialized y.cls).before args s = true ∧ (y.cls ≠ "java/lang/invoke/MethodHandle" ∧ y.cls ≠ "java/lang/invoke/VarHandle") ∧
  (∀ sig, parseMethodDescriptor y.desc = some sig → n = sig.parameters.length) ∧ (Cond.methodLink own index y).before args s = true ∧ (Cond.static y).before args s = true
theorem vx_cwSW {own : String} {index maxL mc ms : Nat} {y : MethodName} {bytes : ByteArray} {ret : Option FieldType} {hh : List (Nat × Nat × Nat × Nat)} {Ts ws ws' : List Cond} {rm : Room} (n : Nat) (ht : ∀ w ∈ Ts, w.before args s = true) (hT : GoodIn Ts (va_wsS own index y ws)) (hw : ws = Cond.codeWith y bytes maxL ret hh :: ws') (hrc : rm.cells = mc) (hrs : rm.slots = ms)
    (hd : y.cls ≠ "java/lang/invoke/MethodHandle" ∧ y.cls ≠ "java/lang/invoke/VarHandle" ∧ (parseMethodDescriptor y.desc).map (fun d => d.parameters.length) = some n) (hR : rm.frames + 1 ≤ R.frames ∧ 8 + (maxL + 11) + rm.locals ≤ R.locals) :
    vx_CSW R s args own index y bytes maxL ret hh ws rm mc ms n := by
  have ok : ∀ w ∈ va_wsS own index y ws, w.before args s = true := fun w h => ht w (hT w h).1
  have hG : GoodIn Ts ws := fun w h => hT w (by unfold va_wsS; exact List.mem_append_right _ h)
  have hc : Cond.codeWith y bytes maxL ret hh ∈ ws := by rw [hw]; exact List.mem_cons_self
  refine ⟨⟨hrc, hrs, hR.1, hR.2, pay_in ht hG, hc⟩, ht _ (hG _ hc).1, ok _ (by simp [va_wsS]), ⟨hd.1, hd.2.1⟩, fun sig h => ?_, ok _ (by simp [va_wsS]), ok _ (by simp [va_wsS])⟩
  have h2 := hd.2.2
  rw [h] at h2
  exact (Option.some.inj h2).symm
theorem vx_callSW (X : Stand p l e R s m args below meth c T locs cells slots) (hexec : p.tables.exec = Jvm.exec) {own : String} {index : Nat} {y : MethodName} {bytes : ByteArray} {maxL : Nat} {ret : Option FieldType} {hh : List (Nat × Nat × Nat × Nat)}
    (hown : s.vm.findClass own = some m.cls) (hlink : (Cond.methodLink own index y).before args s = true) (hstat : (Cond.static y).before args s = true) (hinit : (Cond.initialized y.cls).before args s = true)
    (hcode : (Cond.codeWith y bytes maxL ret hh).before args s = true) (hy : y.cls ≠ "java/lang/invoke/MethodHandle" ∧ y.cls ≠ "java/lang/invoke/VarHandle")
    {W9 : Nat} {Pre : Pt → Array Value → Prop} {Post : Pt → Array Value → Option Value → Pt → Prop} (hK : Back l R p e below s args y 3 W9 Pre Post)
    {g : JFrame} (hg : g.method = m) (hsize : g.locals.size = c.maxLocals) {argsL rest : List Value} (hlen : ∀ sig, parseMethodDescriptor y.desc = some sig → argsL.length = sig.parameters.length)
    (hstack : g.stack = argsL.reverse ++ rest) (hW : 2 * g.monitorRoom + (rest.map fun v => v.category).sum ≤ W9) (hdg : decode c.code g.pc = .ok (.invokestatic index, 3))
    (hpre : ∀ vm₁, s.WarmedH vm₁ → Pre ⟨T.setVm vm₁, locs, cells, slots⟩ argsL.toArray) :
    ∃ (v : Option Value) (vm₁ : Vm) (B : Pt), s.WarmedH vm₁ ∧ Stand p l e R s m args below meth c B.U B.locs B.cells B.slots ∧ Post ⟨T.setVm vm₁, locs, cells, slots⟩ argsL.toArray v B ∧
      ∀ target, Steps p.tables e below (B.U.setTop { g with pc := g.pc + 3, stack := v.toList ++ rest }) target → Steps p.tables e below (T.setTop g) target := by
  obtain ⟨mk, methM, cM, hnamed, hmethM, -, -, -, -, -, -, hsigM⟩ := Cond.codeWith_spec hcode
  have hstatic : methM.isStatic = true := Cond.static_spec hnamed hmethM hstat
  obtain ⟨kP, hkP, -⟩ := className_of_methodNamed hnamed
  have hinitP : kP.init = .initialized := Cond.initialized_spec (findClass_of_methodNamed hnamed) hkP hinit
  obtain ⟨vm₁, X₁, hstep₁⟩ := X.invokestatic hexec hown hlink hnamed hmethM hstatic hkP hinitP hy (g := g) hg (argsL := argsL) (rest := rest) (hlen _ hsigM) hstack hdg
  obtain ⟨v, B, X', hpost, hsteps⟩ := hK m meth c ⟨T.setVm vm₁, locs, cells, slots⟩ { g with stack := rest } (.invokestatic index) mk argsL.toArray X₁ hg hsize hdg hW (X₁.named hnamed) (hpre vm₁ X₁.warmed)
  exact ⟨v, vm₁, B, X₁.warmed, X', hpost, fun target h => hstep₁ _ fun acts => by rw [doInvoke_state]; exact hsteps.trans h⟩
theorem vx_runSW {y : MethodName} {bytes cc : ByteArray} {maxL nL mc ms n index : Nat} {ret : Option FieldType} {hh : List (Nat × Nat × Nat × Nat)} {ws : List Cond} {rm : Room} {Pc : Array Value → State → Prop} {Qc : Array Value → State → Outcome → State → Prop} {free : Addr → Prop} {Ts : List Cond} {own : String} {As rest : List Value} {g : JFrame}
    (S : CallFix p m c cc nL s args Ts own) (hM : Met l y ws rm Pc Qc mc ms free) (cw : vx_CSW R s args own index y bytes maxL ret hh ws rm mc ms n) (hp : PreS s H Pc As)
    (hg : g.method = m) (hn : As.length = n) (hsize : g.locals.size = nL) (hstack : g.stack = As.reverse ++ rest) (hW : 2 * g.monitorRoom + (rest.map fun v => v.category).sum ≤ 8) (hdg : decode cc g.pc = .ok (.invokestatic index, 3)) (hf : cells + mc ≤ R.cells ∧ slots + ms ≤ R.slots) :
    va_Run p l e R s m args below meth c H locs cells slots mc ms g rest (Qc As.toArray) (free) := by
  obtain ⟨⟨hrc, hrs, hfr, hlo, hws, hcw⟩, hcode, hini, hy, hlen, hl, hstt⟩ := cw
  have hK : Back l R p e below s args y 3 8 (PreOf R mc ms Pc) (PostOf Qc mc ms free) := va_backW (hh := hh) (bytes := bytes) (maxL := maxL) (ret := ret) hM hp.1 hrc hrs hfr hlo hws hcw (fun a' U hW => word_at hW (Or.inl (by first | rfl | simp [Cond.onTables, Cond.keeps, Cond.steady])) hini)
  obtain ⟨hx, hb, hml, ho, -⟩ := S
  intro T hT X
  obtain ⟨v, vm₁, ⟨U', l2, c2, s2⟩, hW₁, X', ⟨g', mk, t, L, e1, e2, hq, h1, hL, h2, h3⟩, st⟩ := vx_callSW X hx (hh := hh) (bytes := bytes) (maxL := maxL) (ret := ret) ho hl hstt hini hcode hy hK hg (hsize.trans hml.symm) (argsL := As) (rest := rest) (fun sig h => hn.trans (hlen sig h)) hstack hW (by rw [hb]; exact hdg)
    (fun vm₁ hW₁ => ⟨hf.1, hf.2, hp.2 (T.setVm vm₁) hT hW₁⟩)
  dsimp only [Pt.U, Pt.locs, Pt.cells, Pt.slots] at X' e1 e2 h1 h2 h3 st
  subst h1; subst h2; subst h3
  exact ⟨v, (T.setVm vm₁).calling g' mk As.toArray, t, U', L, hT, X', hL, e1, e2, hq, st⟩
/-- not caught here, past rows that name other classes: it goes on to the caller -/
theorem vx_outP {p : Program} {l : Launch} {e : Env} {R : Room} {s : State} {m : MethodId} {args : Array Value} {below : List Frame} {meth : Method} {c : Code} {H : Heap} {locs : List Loc} {cells slots : Nat} {free : Addr → Prop} {ls : Array Slot} {rest : List Value} {Qc : Array Value → State → Outcome → State → Prop} {XC : String → State → State → Prop}
    {pc : Nat} {own E : String} {ce : Cell} {q : Addr} {mc ms : Nat} (hown : s.vm.findClass own = some m.cls) (hlocks : meth.locks = false)
    (hpass : ∀ z ∈ c.exceptionTable.toList, covers z pc = false ∨ (z.catchType ≠ 0 ∧ ∃ nm : String, (Cond.classLink own z.catchType nm).before args s = true ∧ va_Nc E nm s)) (hcell : H[q]? = some ce) (hv : ce.vm = .none) (hcl : s.vm.findClass E = some ce.cls)
    (hx : ∀ t : State, t.heap = H → s.vm.Alike t.vm → XC E s t) (hf : ∀ z ∈ locs, free z.base) (hc : cells ≤ mc) (hs : slots ≤ ms) :
    vx_W p l e R s m args below meth c H locs cells slots (vx_MQ below Qc XC args s mc ms free) (F0 m pc ls rest) q := by
  intro T hT X
  have hpl : e.platform.magicAccessors = ({} : Platform).magicAccessors := by rw [X.admits.platform]
  obtain ⟨vm', hW', X', st⟩ := X.outThrough hlocks q (g := F0 m pc ls rest) rfl rfl rfl (cell := ce) (by rw [hT]; exact hcell) (by rw [hv]; rfl)
    (by obtain ⟨k9, h9, -⟩ := Vm.findClass_spec hcl; exact ⟨k9, h9⟩) (fun z hz => by
      rcases hpass z hz with h | ⟨hz0, nm, hl1, hn1⟩
      · exact Or.inl h
      · obtain ⟨c6, hc6, hcl6⟩ := Cond.classLink_spec hown hl1 e.platform hpl
        obtain ⟨a8, b8, h1, h2, h3⟩ := hn1
        cases Option.some.inj (h1.symm.trans hcl)
        cases Option.some.inj (h2.symm.trans hc6)
        exact Or.inr ⟨hz0, _, hcl6, h3⟩)
  obtain ⟨g₀, hfr⟩ := X'.frames_eq
  have hcell9 : ((T.setVm vm').setFrames (.throwing q :: below)).heap[q]? = some ce := by
    show T.heap[q]? = some ce
    rw [hT]; exact hcell
  have hend : Ended ((T.setVm vm').setFrames (.throwing q :: below)) below (.threw q) := State.frames_setFrames _ (State.cur_lt_of_frames hfr)
  refine ⟨(T.setVm vm').setFrames (.throwing q :: below), ?_, .threw q, X'.here.running, hend, Or.inr ⟨q, rfl, E, ce, locs, hx _ hT (X'.ends _).1.alike, hcell9, hv, hcl, (X'.ends _).1, (X'.ends _).2.mono hc hs, hf⟩⟩
  rw [X.pushThrowing_eq]
  exact st
/-- a thing of a world lies in the heap -/
theorem vx_lt {D : va_G} {cl : List vw_C} {ws : va_W} {H1 : Heap} (h : va_P D cl ws H1) {k : Nat} {q : Nat × va_E} (hk : ws[k]? = some q) : q.1 < H1.size := (h k q hk).lt
end VXS
/-! ===== END ===== -/
/-! ===== BEGIN methods with a table of their own: called by a name, returning or throwing ===== -/
section VXH
/-! vx_backW, vx_callVX, vx_callSX, vx_callVW, vx_runVW, vx_runVX, vx_runSX, vx_ofWH follow the same proofs as their sisters above (Free/Laws.lean, Shelf42/LK1.lean); vx_outP calls Shelf42/NT130.lean (outThrough). -/
section
variable {l : Launch} {R : Room} {p : Program} {e : Env} {below : List Frame} {s : State} {sargs : Array Value} {y : MethodName} {len W9 : Nat}
theorem vx_backW {ws : List Cond} {rm : Room} {Pc : Array Value → State → Prop} {Qc : Array Value → State → Outcome → State → Prop} {XC : String → State → State → Prop} {mc ms : Nat} {free : Addr → Prop} {bytes : ByteArray} {maxL : Nat} {ret : Option FieldType} {hh : List (Nat × Nat × Nat × Nat)}
    (hM : vx_Met l y ws rm Pc Qc XC mc ms free) (hblind : FrameBlind Pc) (hrc : rm.cells = mc) (hrs : rm.slots = ms)
    (hframes : rm.frames + 1 ≤ R.frames) (hlocals : W9 + (maxL + 11) + rm.locals ≤ R.locals)
    (hws : ∀ w ∈ ws, ∀ a' U, s.WarmedH U.vm → w.before a' U = true) (hcode : Cond.codeWith y bytes maxL ret hh ∈ ws) (hinit : ∀ a' U, s.WarmedH U.vm → (Cond.initialized y.cls).before a' U = true) :
    vx_Back l R p e below s sargs y len W9 (PreOf R mc ms Pc) (PostOf Qc mc ms free) (vx_Post XC mc ms free) := by
  intro m meth c A g ig mk a X hg hsize hdg hW hn hp
  have h1 : (headSpec ws rm).pre.before a A.U = true := atoms_intro fun w hw => hws w hw _ _ X.warmed
  have h2 : (Cond.codeWith y bytes maxL ret hh).before a A.U = true := hws _ hcode _ _ X.warmed
  have h3 : (Cond.initialized y.cls).before a A.U = true := hinit _ _ X.warmed
  have h4 : A.cells + (headSpec ws rm).room.cells ≤ R.cells := by rw [show (headSpec ws rm).room.cells = mc from hrc]; exact hp.1
  have h5 : A.slots + (headSpec ws rm).room.slots ≤ R.slots := by rw [show (headSpec ws rm).room.slots = ms from hrs]; exact hp.2.1
  have hPc : Pc a (A.U.calling g mk a) := hblind _ _ _ _ hp.2.2
  obtain ⟨U, Ls, c0, s0⟩ := A
  dsimp only [Pt.U, Pt.locs, Pt.cells, Pt.slots] at h1 h2 h3 h4 h5 X hn hPc ⊢
  obtain ⟨m9, methY, cY, hn9, hmY, hcY, -, hlY, -⟩ := Cond.codeWith_spec h2
  cases Option.some.inj (hn9.symm.trans hn)
  obtain ⟨kY, hkY, -⟩ := className_of_methodNamed hn
  have hinitY : kY.init = .initialized := Cond.initialized_spec (findClass_of_methodNamed hn) hkY h3
  have h : At U g.method c below := by rw [hg]; exact X.here
  have hlocals9 : W9 + (maxL + 11) + (headSpec ws rm).room.locals ≤ R.locals := hlocals
  have happ : (headSpec ws rm).appliesLoose y e.platform (U.calling g mk a) = true :=
    Spec.appliesLoose_calling (g := g) h hdg hn hkY hinitY
      (X.room_calling (g := g) (R' := (headSpec ws rm).room) hsize hmY hcY hframes (by rw [hlY]; omega) h4 h5) h1
  obtain ⟨mid, hmid⟩ := h.above
  have hfr : (U.setTop g).frames = (.java g :: mid) ++ below := by rw [State.frames_setTop' g h.top, hmid]; rfl
  obtain ⟨o, s₂, hsteps, -, hend, hq⟩ := Steps.callFree hM p X.admits X.cas X.clock (acts := []) hfr happ hPc trivial
  have hq' : vx_Q Qc XC mc ms free a (U.calling g mk a) o s₂ := hq
  rw [State.frames_setTop' g h.top] at hend
  obtain ⟨g₀, hg0⟩ := Option.isSome_iff_exists.mp h.top
  obtain ⟨r, hr⟩ := State.topJava?_eq_some.mp hg0
  have hr' : (({ U with heap := s₂.heap, slotsUsed := s₂.slotsUsed } : State).setVm s₂.vm).frames = .java g₀ :: r := hr
  rcases hq' with ⟨hqc, L, hfe, hL⟩ | ⟨q, rfl, E, ce, L, hx, hce, hcv, hcl, hW₂, hsm, hL⟩
  · obtain ⟨⟨v, rfl⟩, hW₂, e2, q2, q3, q4, q5, q6⟩ := id hfe
    have e3 : s₂ = ({ (U.calling g mk a).setFrames s₂.frames with heap := s₂.heap, slotsUsed := s₂.slotsUsed } : State).setVm s₂.vm := by
      have : s₂ = ({ s₂ with vm := (U.calling g mk a).vm } : State).setVm s₂.vm := rfl
      rw [e2] at this
      exact this
    obtain ⟨c₂, i₂, len₂, hc₂, hd₂, hf₂⟩ := hend
    have hW' : U.WarmedH s₂.vm := hW₂
    have hcc : c₂ = c := by
      have h1 : s₂.code? g.method = U.code? g.method := by
        rw [State.code?_eq, State.code?_eq, hW'.alike.method?]
      exact Option.some.inj (hc₂.symm.trans (h1.trans h.code))
    subst hcc
    have hlen : len₂ = len := by rw [hdg] at hd₂; cases hd₂; rfl
    subst hlen
    have hs₂ : s₂ = (({ U with heap := s₂.heap, slotsUsed := s₂.slotsUsed } : State).setVm s₂.vm).setTop { g with pc := g.pc + len₂, stack := v.toList ++ g.stack } := by
      refine e3.trans ?_
      rw [hf₂, State.calling_eq h.top, State.setFrames_setFrames, State.setTop_of_frames _ hr', hr]
      rfl
    have hsame : U.sameButNew ({ U with heap := s₂.heap, slotsUsed := s₂.slotsUsed } : State) L mc ms := by
      refine ⟨?_, q2, q3, q4, q5, q6⟩
      obtain ⟨t, ht, -⟩ := State.frames_cons hr
      show ({ U with heap := s₂.heap, slotsUsed := s₂.slotsUsed } : State) = { U.setFrames U.frames with heap := s₂.heap, slotsUsed := s₂.slotsUsed }
      rw [State.setFrames_self ht]
    subst hg
    refine Or.inl ⟨v, ⟨(({ U with heap := s₂.heap, slotsUsed := s₂.slotsUsed } : State).setVm s₂.vm), Ls ++ L, c0 + mc, s0 + ms⟩,
      ⟨X.admits, X.cas, X.clock, X.frames, X.room, X.hears, X.method, X.code, (X.here.setHeapUsed s₂.heap s₂.slotsUsed).setVm hW'.alike, X.tail, State.WarmedH.trans X.warmed hW', X.limits, X.bytes, X.same.trans (hsame.setVm s.vm)⟩,
      ⟨g, mk, s₂, L, rfl, rfl, hqc, rfl, hL, rfl, rfl⟩, ?_⟩
    show Steps p.tables e below _ ((({ U with heap := s₂.heap, slotsUsed := s₂.slotsUsed } : State).setVm s₂.vm).setTop { g with pc := g.pc + len₂, stack := v.toList ++ g.stack })
    rw [← hs₂]
    exact hsteps
  · obtain ⟨e2, q2, q3, q4, q5, q6⟩ := id hsm
    have e3 : s₂ = ({ (U.calling g mk a).setFrames s₂.frames with heap := s₂.heap, slotsUsed := s₂.slotsUsed } : State).setVm s₂.vm := by
      have : s₂ = ({ s₂ with vm := (U.calling g mk a).vm } : State).setVm s₂.vm := rfl
      rw [e2] at this
      exact this
    have hf₂ : s₂.frames = .throwing q :: .java g :: U.frames.tail := hend
    have hW' : U.WarmedH s₂.vm := hW₂
    have hs₂ : s₂ = ((({ U with heap := s₂.heap, slotsUsed := s₂.slotsUsed } : State).setVm s₂.vm).setTop g).pushFrame (.throwing q) := by
      refine e3.trans ?_
      rw [hf₂, State.calling_eq h.top, State.setFrames_setFrames, State.pushFrame, State.frames_setTop _ hr', State.setTop_of_frames _ hr', State.setFrames_setFrames, hr]
      rfl
    have hsame : U.sameButNew ({ U with heap := s₂.heap, slotsUsed := s₂.slotsUsed } : State) L mc ms := by
      refine ⟨?_, q2, q3, q4, q5, q6⟩
      obtain ⟨t, ht, -⟩ := State.frames_cons hr
      show ({ U with heap := s₂.heap, slotsUsed := s₂.slotsUsed } : State) = { U.setFrames U.frames with heap := s₂.heap, slotsUsed := s₂.slotsUsed }
      rw [State.setFrames_self ht]
    subst hg
    refine Or.inr ⟨q, ⟨(({ U with heap := s₂.heap, slotsUsed := s₂.slotsUsed } : State).setVm s₂.vm), Ls ++ L, c0 + mc, s0 + ms⟩,
      ⟨X.admits, X.cas, X.clock, X.frames, X.room, X.hears, X.method, X.code, (X.here.setHeapUsed s₂.heap s₂.slotsUsed).setVm hW'.alike, X.tail, State.WarmedH.trans X.warmed hW', X.limits, X.bytes, X.same.trans (hsame.setVm s.vm)⟩,
      ⟨g, mk, s₂, L, E, ce, rfl, rfl, hx, hce, hcv, hcl, rfl, hL, rfl, rfl⟩, ?_⟩
    show Steps p.tables e below _ (((({ U with heap := s₂.heap, slotsUsed := s₂.slotsUsed } : State).setVm s₂.vm).setTop g).pushFrame (.throwing q))
    rw [← hs₂]
    exact hsteps
end
variable {p : Program} {l : Launch} {e : Env} {R : Room} {s : State} {m : MethodId} {args : Array Value} {below : List Frame} {meth : Method} {c : Code} {T : State} {H : Heap} {locs : List Loc} {cells slots : Nat}
theorem vx_callVX (X : Stand p l e R s m args below meth c T locs cells slots) (hexec : p.tables.exec = Jvm.exec) {own C : String} {index : Nat} {y : MethodName} {bytes : ByteArray} {maxL : Nat} {ret : Option FieldType} {hh : List (Nat × Nat × Nat × Nat)}
    (hown : s.vm.findClass own = some m.cls) (hlink : (Cond.methodLink own index y).before args s = true) (hinst : (Cond.instanceMethod y).before args s = true) (hsel : (Cond.selects C y y).before args s = true)
    (hcode : (Cond.codeWith y bytes maxL ret hh).before args s = true) (hy : y.cls ≠ "java/lang/invoke/MethodHandle" ∧ y.cls ≠ "java/lang/invoke/VarHandle")
    {W9 : Nat} {Pre : Pt → Array Value → Prop} {Post : Pt → Array Value → Option Value → Pt → Prop} {PostX : Pt → Array Value → Addr → Pt → Prop} (hK : vx_Back l R p e below s args y 3 W9 Pre Post PostX)
    {b : Addr} {cellB : Cell} (hcell : T.heap[b]? = some cellB) (hobj : cellB.vm.isStatics = false) (hcls : s.vm.findClass C = some cellB.cls)
    {g : JFrame} (hg : g.method = m) (hsize : g.locals.size = c.maxLocals) {argsL rest : List Value} (hlen : ∀ sig, parseMethodDescriptor y.desc = some sig → argsL.length = sig.parameters.length)
    (hstack : g.stack = argsL.reverse ++ .ref b :: rest) (hW : 2 * g.monitorRoom + (rest.map fun v => v.category).sum ≤ W9) (hdg : decode c.code g.pc = .ok (.invokevirtual index, 3))
    (hpre : ∀ vm₁, s.WarmedH vm₁ → Pre ⟨T.setVm vm₁, locs, cells, slots⟩ (Value.ref b :: argsL).toArray) :
    (∃ (v : Option Value) (vm₁ : Vm) (B : Pt), s.WarmedH vm₁ ∧ Stand p l e R s m args below meth c B.U B.locs B.cells B.slots ∧ Post ⟨T.setVm vm₁, locs, cells, slots⟩ (Value.ref b :: argsL).toArray v B ∧
      ∀ target, Steps p.tables e below (B.U.setTop { g with pc := g.pc + 3, stack := v.toList ++ rest }) target → Steps p.tables e below (T.setTop g) target) ∨
    (∃ (q : Addr) (vm₁ : Vm) (B : Pt), s.WarmedH vm₁ ∧ Stand p l e R s m args below meth c B.U B.locs B.cells B.slots ∧ PostX ⟨T.setVm vm₁, locs, cells, slots⟩ (Value.ref b :: argsL).toArray q B ∧
      Steps p.tables e below (T.setTop g) ((B.U.setTop { g with stack := rest }).pushFrame (.throwing q))) := by
  obtain ⟨mk, methM, hnamed, hmethM, hstM, habM⟩ := Cond.instanceMethod_spec hinst
  obtain ⟨m8, methM', cM, hn8, hmethM', -, -, -, -, -, -, hsigM⟩ := Cond.codeWith_spec hcode
  cases Option.some.inj (hn8.symm.trans hnamed)
  cases hmethM.symm.trans hmethM'
  obtain ⟨c2, r2, m2, q1, q2, q3, q4, kP, hkP, hkPi⟩ := Cond.selects_spec hsel
  cases hcls.symm.trans q1
  cases (State.methodFound?_of_named hnamed hy).symm.trans q2
  cases hnamed.symm.trans q3
  have hselP : selectMethod e.platform s.vm cellB.cls mk = .method mk := by rw [Launch.admits_selectMethod X.admits]; exact q4
  obtain ⟨vm₁, X₁, hstep₁⟩ := X.invokevirtual hexec hown hlink hnamed hmethM hstM hkP hkPi hy (a := b) (cell := cellB) hcell
    (fun z h => by rw [h] at hobj; cases hobj) hselP hmethM habM hkP hkPi (g := g) hg (argsL := argsL) (rest := rest) (hlen _ hsigM) hstack hdg
  rcases hK m meth c ⟨T.setVm vm₁, locs, cells, slots⟩ { g with stack := rest } (.invokevirtual index) mk (Value.ref b :: argsL).toArray X₁ hg hsize hdg hW (X₁.named hnamed) (hpre vm₁ X₁.warmed) with ⟨v, B, X', hpost, hsteps⟩ | ⟨q, B, X', hpost, hsteps⟩
  · exact Or.inl ⟨v, vm₁, B, X₁.warmed, X', hpost, fun target h => hstep₁ _ fun acts => by rw [doInvoke_state]; exact hsteps.trans h⟩
  · exact Or.inr ⟨q, vm₁, B, X₁.warmed, X', hpost, hstep₁ _ fun acts => by rw [doInvoke_state]; exact hsteps⟩
theorem vx_callSX (X : Stand p l e R s m args below meth c T locs cells slots) (hexec : p.tables.exec = Jvm.exec) {own : String} {index : Nat} {y : MethodName} {bytes : ByteArray} {maxL : Nat} {ret : Option FieldType} {hh : List (Nat × Nat × Nat × Nat)}
    (hown : s.vm.findClass own = some m.cls) (hlink : (Cond.methodLink own index y).before args s = true) (hstat : (Cond.static y).before args s = true) (hinit : (Cond.initialized y.cls).before args s = true)
    (hcode : (Cond.codeWith y bytes maxL ret hh).before args s = true) (hy : y.cls ≠ "java/lang/invoke/MethodHandle" ∧ y.cls ≠ "java/lang/invoke/VarHandle")
    {W9 : Nat} {Pre : Pt → Array Value → Prop} {Post : Pt → Array Value → Option Value → Pt → Prop} {PostX : Pt → Array Value → Addr → Pt → Prop} (hK : vx_Back l R p e below s args y 3 W9 Pre Post PostX)
    {g : JFrame} (hg : g.method = m) (hsize : g.locals.size = c.maxLocals) {argsL rest : List Value} (hlen : ∀ sig, parseMethodDescriptor y.desc = some sig → argsL.length = sig.parameters.length)
    (hstack : g.stack = argsL.reverse ++ rest) (hW : 2 * g.monitorRoom + (rest.map fun v => v.category).sum ≤ W9) (hdg : decode c.code g.pc = .ok (.invokestatic index, 3))
    (hpre : ∀ vm₁, s.WarmedH vm₁ → Pre ⟨T.setVm vm₁, locs, cells, slots⟩ argsL.toArray) :
    (∃ (v : Option Value) (vm₁ : Vm) (B : Pt), s.WarmedH vm₁ ∧ Stand p l e R s m args below meth c B.U B.locs B.cells B.slots ∧ Post ⟨T.setVm vm₁, locs, cells, slots⟩ argsL.toArray v B ∧
      ∀ target, Steps p.tables e below (B.U.setTop { g with pc := g.pc + 3, stack := v.toList ++ rest }) target → Steps p.tables e below (T.setTop g) target) ∨
    (∃ (q : Addr) (vm₁ : Vm) (B : Pt), s.WarmedH vm₁ ∧ Stand p l e R s m args below meth c B.U B.locs B.cells B.slots ∧ PostX ⟨T.setVm vm₁, locs, cells, slots⟩ argsL.toArray q B ∧
      Steps p.tables e below (T.setTop g) ((B.U.setTop { g with stack := rest }).pushFrame (.throwing q))) := by
  obtain ⟨mk, methM, cM, hnamed, hmethM, -, -, -, -, -, -, hsigM⟩ := Cond.codeWith_spec hcode
  have hstatic : methM.isStatic = true := Cond.static_spec hnamed hmethM hstat
  obtain ⟨kP, hkP, -⟩ := className_of_methodNamed hnamed
  have hinitP : kP.init = .initialized := Cond.initialized_spec (findClass_of_methodNamed hnamed) hkP hinit
  obtain ⟨vm₁, X₁, hstep₁⟩ := X.invokestatic hexec hown hlink hnamed hmethM hstatic hkP hinitP hy (g := g) hg (argsL := argsL) (rest := rest) (hlen _ hsigM) hstack hdg
  rcases hK m meth c ⟨T.setVm vm₁, locs, cells, slots⟩ { g with stack := rest } (.invokestatic index) mk argsL.toArray X₁ hg hsize hdg hW (X₁.named hnamed) (hpre vm₁ X₁.warmed) with ⟨v, B, X', hpost, hsteps⟩ | ⟨q, B, X', hpost, hsteps⟩
  · exact Or.inl ⟨v, vm₁, B, X₁.warmed, X', hpost, fun target h => hstep₁ _ fun acts => by rw [doInvoke_state]; exact hsteps.trans h⟩
  · exact Or.inr ⟨q, vm₁, B, X₁.warmed, X', hpost, hstep₁ _ fun acts => by rw [doInvoke_state]; exact hsteps⟩
theorem vx_callVW (X : Stand p l e R s m args below meth c T locs cells slots) (hexec : p.tables.exec = Jvm.exec) {own C : String} {index : Nat} {y : MethodName} {bytes : ByteArray} {maxL : Nat} {ret : Option FieldType} {hh : List (Nat × Nat × Nat × Nat)}
    (hown : s.vm.findClass own = some m.cls) (hlink : (Cond.methodLink own index y).before args s = true) (hinst : (Cond.instanceMethod y).before args s = true) (hsel : (Cond.selects C y y).before args s = true)
    (hcode : (Cond.codeWith y bytes maxL ret hh).before args s = true) (hy : y.cls ≠ "java/lang/invoke/MethodHandle" ∧ y.cls ≠ "java/lang/invoke/VarHandle")
    {W9 : Nat} {Pre : Pt → Array Value → Prop} {Post : Pt → Array Value → Option Value → Pt → Prop} (hK : Back l R p e below s args y 3 W9 Pre Post)
    {b : Addr} {cellB : Cell} (hcell : T.heap[b]? = some cellB) (hobj : cellB.vm.isStatics = false) (hcls : s.vm.findClass C = some cellB.cls)
    {g : JFrame} (hg : g.method = m) (hsize : g.locals.size = c.maxLocals) {argsL rest : List Value} (hlen : ∀ sig, parseMethodDescriptor y.desc = some sig → argsL.length = sig.parameters.length)
    (hstack : g.stack = argsL.reverse ++ .ref b :: rest) (hW : 2 * g.monitorRoom + (rest.map fun v => v.category).sum ≤ W9) (hdg : decode c.code g.pc = .ok (.invokevirtual index, 3))
    (hpre : ∀ vm₁, s.WarmedH vm₁ → Pre ⟨T.setVm vm₁, locs, cells, slots⟩ (Value.ref b :: argsL).toArray) :
    ∃ (v : Option Value) (vm₁ : Vm) (B : Pt), s.WarmedH vm₁ ∧ Stand p l e R s m args below meth c B.U B.locs B.cells B.slots ∧ Post ⟨T.setVm vm₁, locs, cells, slots⟩ (Value.ref b :: argsL).toArray v B ∧
      ∀ target, Steps p.tables e below (B.U.setTop { g with pc := g.pc + 3, stack := v.toList ++ rest }) target → Steps p.tables e below (T.setTop g) target := by
  obtain ⟨mk, methM, hnamed, hmethM, hstM, habM⟩ := Cond.instanceMethod_spec hinst
  obtain ⟨m8, methM', cM, hn8, hmethM', -, -, -, -, -, -, hsigM⟩ := Cond.codeWith_spec hcode
  cases Option.some.inj (hn8.symm.trans hnamed)
  cases hmethM.symm.trans hmethM'
  obtain ⟨c2, r2, m2, q1, q2, q3, q4, kP, hkP, hkPi⟩ := Cond.selects_spec hsel
  cases hcls.symm.trans q1
  cases (State.methodFound?_of_named hnamed hy).symm.trans q2
  cases hnamed.symm.trans q3
  have hselP : selectMethod e.platform s.vm cellB.cls mk = .method mk := by rw [Launch.admits_selectMethod X.admits]; exact q4
  obtain ⟨vm₁, X₁, hstep₁⟩ := X.invokevirtual hexec hown hlink hnamed hmethM hstM hkP hkPi hy (a := b) (cell := cellB) hcell
    (fun z h => by rw [h] at hobj; cases hobj) hselP hmethM habM hkP hkPi (g := g) hg (argsL := argsL) (rest := rest) (hlen _ hsigM) hstack hdg
  obtain ⟨v, B, X', hpost, hsteps⟩ := hK m meth c ⟨T.setVm vm₁, locs, cells, slots⟩ { g with stack := rest } (.invokevirtual index) mk (Value.ref b :: argsL).toArray X₁ hg hsize hdg hW (X₁.named hnamed) (hpre vm₁ X₁.warmed)
  exact ⟨v, vm₁, B, X₁.warmed, X', hpost, fun target h => hstep₁ _ fun acts => by rw [doInvoke_state]; exact hsteps.trans h⟩
abbrev vx_CVW (R : Room) (s : State) (args : Array Value) (own C : String) (index : Nat) (y : MethodName) (bytes : ByteArray) (maxL : Nat) (ret : Option FieldType) (hh : List (Nat × Nat × Nat × Nat)) (ws : List Cond) (rm : Room) (mc ms n : Nat) : Prop :=
  (rm.cells = mc ∧ rm.slots = ms ∧ rm.frames + 1 ≤ R.frames ∧ 8 + (maxL + 11) + rm.locals ≤ R.locals ∧ (∀ w ∈ ws, ∀ (a' : Array Value) (U : State), s.WarmedH U.vm → w.before a' U = true) ∧ Cond.codeWith y bytes maxL ret hh ∈ ws) ∧
  (Cond.codeWith y bytes maxL ret hh).before args s = true ∧ (Cond.initialized y.cls).before args s = true ∧ (y.cls ≠ "java/lang/invoke/MethodHandle" ∧ y.cls ≠ "java/lang/invoke/VarHandle") ∧
  (∀ sig, parseMethodDescriptor y.desc = some sig → n = sig.parameters.length) ∧ (Cond.methodLink own index y).before args s = true ∧ (Cond.instanceMethod y).before args s = true ∧ (Cond.selects C y y).before args s = true
theorem vx_cwVW {own C : String} {index maxL mc ms : Nat} {y : MethodName} {bytes : ByteArray} {ret : Option FieldType} {hh : List (Nat × Nat × Nat × Nat)} {Ts ws ws' : List Cond} {rm : Room} (n : Nat) (ht : ∀ w ∈ Ts, w.before args s = true) (hT : GoodIn Ts (wsV own index C y ws)) (hw : ws = Cond.codeWith y bytes maxL ret hh :: ws') (hrc : rm.cells = mc) (hrs : rm.slots = ms)
    (hd : y.cls = C ∧ y.cls ≠ "java/lang/invoke/MethodHandle" ∧ y.cls ≠ "java/lang/invoke/VarHandle" ∧ (parseMethodDescriptor y.desc).map (fun d => d.parameters.length) = some n) (hR : rm.frames + 1 ≤ R.frames ∧ 8 + (maxL + 11) + rm.locals ≤ R.locals) :
    vx_CVW R s args own C index y bytes maxL ret hh ws rm mc ms n := by
  obtain ⟨hC, hd⟩ := hd
  subst hC
  have ok : ∀ w ∈ wsV own index y.cls y ws, w.before args s = true := fun w h => ht w (hT w h).1
  have hG : GoodIn Ts ws := fun w h => hT w (by unfold wsV; exact List.mem_append_right _ h)
  have hc : Cond.codeWith y bytes maxL ret hh ∈ ws := by rw [hw]; exact List.mem_cons_self
  refine ⟨⟨hrc, hrs, hR.1, hR.2, pay_in ht hG, hc⟩, ht _ (hG _ hc).1, ok _ (by simp [wsV]), ⟨hd.1, hd.2.1⟩, fun sig h => ?_, ok _ (by simp [wsV]), ok _ (by simp [wsV]), ok _ (by simp [wsV])⟩
  have h2 := hd.2.2
  rw [h] at h2
  exact (Option.some.inj h2).symm
theorem vx_runVW {y : MethodName} {bytes cc : ByteArray} {maxL nL mc ms n index : Nat} {ret : Option FieldType} {hh : List (Nat × Nat × Nat × Nat)} {ws : List Cond} {rm : Room} {Pc : Array Value → State → Prop} {Qc : Array Value → State → Outcome → State → Prop} {free : Addr → Prop} {Ts : List Cond} {own C : String} {b : Addr} {As rest : List Value} {g : JFrame}
    (S : CallFix p m c cc nL s args Ts own) (hM : Met l y ws rm Pc Qc mc ms free) (cw : vx_CVW R s args own C index y bytes maxL ret hh ws rm mc ms n) (hp : PreV s H C b Pc As)
    (hg : g.method = m) (hn : As.length = n) (hsize : g.locals.size = nL) (hstack : g.stack = As.reverse ++ .ref b :: rest) (hW : 2 * g.monitorRoom + (rest.map fun v => v.category).sum ≤ 8) (hdg : decode cc g.pc = .ok (.invokevirtual index, 3)) (hf : cells + mc ≤ R.cells ∧ slots + ms ≤ R.slots) :
    va_Run p l e R s m args below meth c H locs cells slots mc ms g rest (Qc (Value.ref b :: As).toArray) free := by
  obtain ⟨⟨hrc, hrs, hfr, hlo, hws, hcw⟩, hcode, hini, hy, hlen, hl, hin, hse⟩ := cw
  have hK : Back l R p e below s args y 3 8 (PreOf R mc ms Pc) (PostOf Qc mc ms free) := va_backW (hh := hh) (bytes := bytes) (maxL := maxL) (ret := ret) hM hp.1 hrc hrs hfr hlo hws hcw (fun a' U hW => word_at hW (Or.inl (by first | rfl | simp [Cond.onTables, Cond.keeps, Cond.steady])) hini)
  obtain ⟨hx, hb, hml, ho, -⟩ := S
  obtain ⟨-, ⟨cellB, hcB, hoB, hclB⟩, hPc⟩ := hp
  intro T hT X
  obtain ⟨v, vm₁, ⟨U', l2, c2, s2⟩, hW₁, X', ⟨g', mk, t, L, e1, e2, hq, h1, hL, h2, h3⟩, st⟩ := vx_callVW X hx (C := C) (hh := hh) (bytes := bytes) (maxL := maxL) (ret := ret) ho hl hin hse hcode hy hK (by rw [hT]; exact hcB) hoB hclB hg (hsize.trans hml.symm) (argsL := As) (rest := rest) (fun sig h => hn.trans (hlen sig h)) hstack hW (by rw [hb]; exact hdg)
    (fun vm₁ hW₁ => ⟨hf.1, hf.2, hPc (T.setVm vm₁) hT hW₁⟩)
  dsimp only [Pt.U, Pt.locs, Pt.cells, Pt.slots] at X' e1 e2 h1 h2 h3 st
  subst h1; subst h2; subst h3
  exact ⟨v, (T.setVm vm₁).calling g' mk (Value.ref b :: As).toArray, t, U', L, hT, X', hL, e1, e2, hq, st⟩
section
variable {y : MethodName} {bytes cc : ByteArray} {maxL nL mc ms n index : Nat} {ret : Option FieldType} {ws : List Cond} {rm : Room} {Pc : Array Value → State → Prop} {Qc : Array Value → State → Outcome → State → Prop} {XC : String → State → State → Prop} {free : Addr → Prop} {Ts : List Cond} {own C : String} {b : Addr} {As rest : List Value} {g : JFrame}
theorem vx_runVX {hh : List (Nat × Nat × Nat × Nat)} (S : CallFix p m c cc nL s args Ts own) (hM : vx_Met l y ws rm Pc Qc XC mc ms free) (cw : vx_CVW R s args own C index y bytes maxL ret hh ws rm mc ms n) (hp : PreV s H C b Pc As)
    (hg : g.method = m) (hn : As.length = n) (hsize : g.locals.size = nL) (hstack : g.stack = As.reverse ++ .ref b :: rest) (hW : 2 * g.monitorRoom + (rest.map fun v => v.category).sum ≤ 8) (hdg : decode cc g.pc = .ok (.invokevirtual index, 3)) (hf : cells + mc ≤ R.cells ∧ slots + ms ≤ R.slots) :
    vx_Run p l e R s m args below meth c H locs cells slots mc ms g rest (Qc (Value.ref b :: As).toArray) XC free := by
  obtain ⟨⟨hrc, hrs, hfr, hlo, hws, hcw⟩, hcode, hini, hy, hlen, hl, hin, hse⟩ := cw
  have hK : vx_Back l R p e below s args y 3 8 (PreOf R mc ms Pc) (PostOf Qc mc ms free) (vx_Post XC mc ms free) := vx_backW (hh := hh) (bytes := bytes) (maxL := maxL) (ret := ret) hM hp.1 hrc hrs hfr hlo hws hcw (fun a' U hW => word_at hW (Or.inl (by first | rfl | simp [Cond.onTables, Cond.keeps, Cond.steady])) hini)
  obtain ⟨hx, hb, hml, ho, -⟩ := S
  obtain ⟨-, ⟨cellB, hcB, hoB, hclB⟩, hPc⟩ := hp
  intro T hT X
  rcases vx_callVX X hx (C := C) (hh := hh) (bytes := bytes) (maxL := maxL) (ret := ret) ho hl hin hse hcode hy hK (by rw [hT]; exact hcB) hoB hclB hg (hsize.trans hml.symm) (argsL := As) (rest := rest) (fun sig h => hn.trans (hlen sig h)) hstack hW (by rw [hb]; exact hdg)
    (fun vm₁ hW₁ => ⟨hf.1, hf.2, hPc (T.setVm vm₁) hT hW₁⟩) with ⟨v, vm₁, ⟨U', l2, c2, s2⟩, hW₁, X', ⟨g', mk, t, L, e1, e2, hq, h1, hL, h2, h3⟩, st⟩ | ⟨q, vm₁, ⟨U', l2, c2, s2⟩, hW₁, X', ⟨g', mk, t, L, E, ce, e1, e2, hq, hce, hcv, hcl, h1, hL, h2, h3⟩, st⟩
  · dsimp only [Pt.U, Pt.locs, Pt.cells, Pt.slots] at X' e1 e2 h1 h2 h3 st
    subst h1; subst h2; subst h3
    exact Or.inl ⟨v, (T.setVm vm₁).calling g' mk (Value.ref b :: As).toArray, t, U', L, hT, X', hL, e1, e2, hq, st⟩
  · dsimp only [Pt.U, Pt.locs, Pt.cells, Pt.slots] at X' e1 e2 h1 h2 h3 st hcl
    subst h1; subst h2; subst h3
    exact Or.inr ⟨q, (T.setVm vm₁).calling g' mk (Value.ref b :: As).toArray, t, U', L, E, ce, hT, X', hL, e1, e2, hq, hce, hcv, vx_cls hW₁ hcl, st⟩
theorem vx_runSX {hh : List (Nat × Nat × Nat × Nat)} (S : CallFix p m c cc nL s args Ts own) (hM : vx_Met l y ws rm Pc Qc XC mc ms free) (cw : vx_CSW R s args own index y bytes maxL ret hh ws rm mc ms n) (hp : PreS s H Pc As)
    (hg : g.method = m) (hn : As.length = n) (hsize : g.locals.size = nL) (hstack : g.stack = As.reverse ++ rest) (hW : 2 * g.monitorRoom + (rest.map fun v => v.category).sum ≤ 8) (hdg : decode cc g.pc = .ok (.invokestatic index, 3)) (hf : cells + mc ≤ R.cells ∧ slots + ms ≤ R.slots) :
    vx_Run p l e R s m args below meth c H locs cells slots mc ms g rest (Qc As.toArray) XC free := by
  obtain ⟨⟨hrc, hrs, hfr, hlo, hws, hcw⟩, hcode, hini, hy, hlen, hl, hstt⟩ := cw
  have hK : vx_Back l R p e below s args y 3 8 (PreOf R mc ms Pc) (PostOf Qc mc ms free) (vx_Post XC mc ms free) := vx_backW (hh := hh) (bytes := bytes) (maxL := maxL) (ret := ret) hM hp.1 hrc hrs hfr hlo hws hcw (fun a' U hW => word_at hW (Or.inl (by first | rfl | simp [Cond.onTables, Cond.keeps, Cond.steady])) hini)
  obtain ⟨hx, hb, hml, ho, -⟩ := S
  intro T hT X
  rcases vx_callSX X hx (hh := hh) (bytes := bytes) (maxL := maxL) (ret := ret) ho hl hstt hini hcode hy hK hg (hsize.trans hml.symm) (argsL := As) (rest := rest) (fun sig h => hn.trans (hlen sig h)) hstack hW (by rw [hb]; exact hdg)
    (fun vm₁ hW₁ => ⟨hf.1, hf.2, hp.2 (T.setVm vm₁) hT hW₁⟩) with ⟨v, vm₁, ⟨U', l2, c2, s2⟩, hW₁, X', ⟨g', mk, t, L, e1, e2, hq, h1, hL, h2, h3⟩, st⟩ | ⟨q, vm₁, ⟨U', l2, c2, s2⟩, hW₁, X', ⟨g', mk, t, L, E, ce, e1, e2, hq, hce, hcv, hcl, h1, hL, h2, h3⟩, st⟩
  · dsimp only [Pt.U, Pt.locs, Pt.cells, Pt.slots] at X' e1 e2 h1 h2 h3 st
    subst h1; subst h2; subst h3
    exact Or.inl ⟨v, (T.setVm vm₁).calling g' mk As.toArray, t, U', L, hT, X', hL, e1, e2, hq, st⟩
  · dsimp only [Pt.U, Pt.locs, Pt.cells, Pt.slots] at X' e1 e2 h1 h2 h3 st hcl
    subst h1; subst h2; subst h3
    exact Or.inr ⟨q, (T.setVm vm₁).calling g' mk As.toArray, t, U', L, E, ce, hT, X', hL, e1, e2, hq, hce, hcv, vx_cls hW₁ hcl, st⟩
end
end VXH
theorem vx_ofWH {l : Launch} {y : MethodName} {ws ws' : List Cond} {rm : Room} {Pc : Array Value → State → Prop} {Qc : Array Value → State → Outcome → State → Prop} {XC : String → State → State → Prop} {mc ms : Nat} {free : Addr → Prop} {cc : ByteArray} {maxL : Nat} {ret : Option FieldType} {hh : List (Nat × Nat × Nat × Nat)}
    (hy : plainName y.cls = true) (hw : ws = Cond.codeWith y cc maxL ret hh :: ws')
    (body : ∀ p e s m args below meth c s₁, BodyLoose p l y (headSpec ws rm) cc maxL ret e s m args below meth c s₁ → c.maxLocals = maxL → Pc args s →
      W p l e (headSpec ws rm).room s m args below meth c s.heap [] 0 0 (vx_MQ below Qc XC args s mc ms free) (entryFrame m args maxL)) : vx_Met l y ws rm Pc Qc XC mc ms free := by
  refine MetFree.of_bodyS (code := cc) (maxLocals := maxL) (ret := ret) hy ?_ ?_
  · intro args s m h hn
    obtain ⟨m9, meth, c, hn9, h1, h2, h3, h4, -, h5, h6, -⟩ := Cond.codeWith_spec (atoms_spec (ws := ws) h _ (by rw [hw]; exact List.mem_cons_self))
    cases hn.symm.trans hn9
    exact ⟨meth, c, h1, h2, h3, h4, h5, h6⟩
  · intro p e s m args below meth c s₁ B hml hP _
    have hh0 : s₁.heap = s.heap := by rw [B.state]; rfl
    obtain ⟨t, a1, o, b1, b2, b3⟩ := body p e s m args below meth c s₁ B hml hP s₁ hh0 (Stand.of_body B)
    exact ⟨t, o, a1, b1, b2, b3⟩
/-! ===== END ===== -/
end
section
def xA : List Cond := lw_tbl.filter goodWord
theorem xA_in : ∀ {w : Cond}, w ∈ xA → w ∈ lw_tbl := fun h => (List.mem_filter.mp h).1
theorem xA_good : ∀ {w : Cond}, w ∈ xA → goodWord w = true := fun h => (List.mem_filter.mp h).2
theorem xA_of {w : Cond} (h : w ∈ tables_1) (hg : goodWord w = true) : w ∈ xA := List.mem_filter.mpr ⟨List.mem_append_right _ h, hg⟩
theorem xA_sel {w : Cond} (h : w ∈ k2_sels lw_privs) (hg : goodWord w = true) : w ∈ xA := List.mem_filter.mpr ⟨List.mem_append_left _ h, hg⟩
theorem xI1 {w : Cond} (h : w ∈ tables_1_1) (hg : goodWord w = true) : w ∈ xA := xA_of (List.mem_append_left _ h) hg
theorem xI2 {w : Cond} (h : w ∈ tables_1_2) (hg : goodWord w = true) : w ∈ xA := xA_of (List.mem_append_right _ (List.mem_append_left _ h)) hg
theorem xI3 {w : Cond} (h : w ∈ tables_1_3) (hg : goodWord w = true) : w ∈ xA := xA_of (List.mem_append_right _ (List.mem_append_right _ (List.mem_append_left _ h))) hg
theorem xI4 {w : Cond} (h : w ∈ tables_1_4) (hg : goodWord w = true) : w ∈ xA := xA_of (List.mem_append_right _ (List.mem_append_right _ (List.mem_append_right _ (List.mem_append_left _ h)))) hg
theorem xI5 {w : Cond} (h : w ∈ tables_1_5) (hg : goodWord w = true) : w ∈ xA := xA_of (List.mem_append_right _ (List.mem_append_right _ (List.mem_append_right _ (List.mem_append_right _ (List.mem_append_left _ h))))) hg
theorem xI6 {w : Cond} (h : w ∈ tables_1_6) (hg : goodWord w = true) : w ∈ xA := xA_of (List.mem_append_right _ (List.mem_append_right _ (List.mem_append_right _ (List.mem_append_right _ (List.mem_append_right _ (List.mem_append_left _ h)))))) hg
theorem xI7 {w : Cond} (h : w ∈ tables_1_7) (hg : goodWord w = true) : w ∈ xA := xA_of (List.mem_append_right _ (List.mem_append_right _ (List.mem_append_right _ (List.mem_append_right _ (List.mem_append_right _ (List.mem_append_right _ (List.mem_append_left _ h))))))) hg
theorem xI8 {w : Cond} (h : w ∈ tables_1_8) (hg : goodWord w = true) : w ∈ xA := xA_of (List.mem_append_right _ (List.mem_append_right _ (List.mem_append_right _ (List.mem_append_right _ (List.mem_append_right _ (List.mem_append_right _ (List.mem_append_right _ (h)))))))) hg
theorem xS1 {w : Cond} (h : w ∈ k2_sels lw_privs_1) (hg : goodWord w = true) : w ∈ xA := xA_sel (by rw [show k2_sels lw_privs = k2_sels lw_privs_1 ++ (k2_sels lw_privs_2 ++ (k2_sels lw_privs_3 ++ (k2_sels lw_privs_4 ++ (k2_sels lw_privs_5 ++ (k2_sels lw_privs_6))))) from by simp only [lw_privs, k2_sels, List.map_append]]; exact List.mem_append_left _ h) hg
theorem xS2 {w : Cond} (h : w ∈ k2_sels lw_privs_2) (hg : goodWord w = true) : w ∈ xA := xA_sel (by rw [show k2_sels lw_privs = k2_sels lw_privs_1 ++ (k2_sels lw_privs_2 ++ (k2_sels lw_privs_3 ++ (k2_sels lw_privs_4 ++ (k2_sels lw_privs_5 ++ (k2_sels lw_privs_6))))) from by simp only [lw_privs, k2_sels, List.map_append]]; exact List.mem_append_right _ (List.mem_append_left _ h)) hg
theorem xS3 {w : Cond} (h : w ∈ k2_sels lw_privs_3) (hg : goodWord w = true) : w ∈ xA := xA_sel (by rw [show k2_sels lw_privs = k2_sels lw_privs_1 ++ (k2_sels lw_privs_2 ++ (k2_sels lw_privs_3 ++ (k2_sels lw_privs_4 ++ (k2_sels lw_privs_5 ++ (k2_sels lw_privs_6))))) from by simp only [lw_privs, k2_sels, List.map_append]]; exact List.mem_append_right _ (List.mem_append_right _ (List.mem_append_left _ h))) hg
theorem xS4 {w : Cond} (h : w ∈ k2_sels lw_privs_4) (hg : goodWord w = true) : w ∈ xA := xA_sel (by rw [show k2_sels lw_privs = k2_sels lw_privs_1 ++ (k2_sels lw_privs_2 ++ (k2_sels lw_privs_3 ++ (k2_sels lw_privs_4 ++ (k2_sels lw_privs_5 ++ (k2_sels lw_privs_6))))) from by simp only [lw_privs, k2_sels, List.map_append]]; exact List.mem_append_right _ (List.mem_append_right _ (List.mem_append_right _ (List.mem_append_left _ h)))) hg
theorem xS5 {w : Cond} (h : w ∈ k2_sels lw_privs_5) (hg : goodWord w = true) : w ∈ xA := xA_sel (by rw [show k2_sels lw_privs = k2_sels lw_privs_1 ++ (k2_sels lw_privs_2 ++ (k2_sels lw_privs_3 ++ (k2_sels lw_privs_4 ++ (k2_sels lw_privs_5 ++ (k2_sels lw_privs_6))))) from by simp only [lw_privs, k2_sels, List.map_append]]; exact List.mem_append_right _ (List.mem_append_right _ (List.mem_append_right _ (List.mem_append_right _ (List.mem_append_left _ h))))) hg
theorem xS6 {w : Cond} (h : w ∈ k2_sels lw_privs_6) (hg : goodWord w = true) : w ∈ xA := xA_sel (by rw [show k2_sels lw_privs = k2_sels lw_privs_1 ++ (k2_sels lw_privs_2 ++ (k2_sels lw_privs_3 ++ (k2_sels lw_privs_4 ++ (k2_sels lw_privs_5 ++ (k2_sels lw_privs_6))))) from by simp only [lw_privs, k2_sels, List.map_append]]; exact List.mem_append_right _ (List.mem_append_right _ (List.mem_append_right _ (List.mem_append_right _ (List.mem_append_right _ (h)))))) hg
theorem w1_0 : (Cond.initialized RL) ∈ xA := xI1 (List.mem_of_getElem? (i := 0) rfl) rfl
theorem w1_1 : (Cond.initialized RX6) ∈ xA := xI1 (List.mem_of_getElem? (i := 1) rfl) rfl
theorem w1_2 : (Cond.initialized RX2) ∈ xA := xI1 (List.mem_of_getElem? (i := 2) rfl) rfl
theorem w1_3 : (Cond.initialized RX4) ∈ xA := xI1 (List.mem_of_getElem? (i := 3) rfl) rfl
theorem w1_4 : (Cond.initialized RX1) ∈ xA := xI1 (List.mem_of_getElem? (i := 4) rfl) rfl
theorem w1_5 : (Cond.initialized RX3) ∈ xA := xI1 (List.mem_of_getElem? (i := 5) rfl) rfl
theorem w1_6 : (Cond.initialized RJ0) ∈ xA := xI1 (List.mem_of_getElem? (i := 6) rfl) rfl
theorem w1_7 : (Cond.initialized RJ1) ∈ xA := xI1 (List.mem_of_getElem? (i := 7) rfl) rfl
theorem w1_8 : (Cond.initialized RJ3) ∈ xA := xI1 (List.mem_of_getElem? (i := 8) rfl) rfl
theorem w1_9 : (Cond.initialized RJ2) ∈ xA := xI1 (List.mem_of_getElem? (i := 9) rfl) rfl
theorem w1_10 : (Cond.initialized RJx29ce0) ∈ xA := xI1 (List.mem_of_getElem? (i := 10) rfl) rfl
theorem w1_11 : (Cond.initialized RX5) ∈ xA := xI1 (List.mem_of_getElem? (i := 11) rfl) rfl
theorem w1_12 : (Cond.initialized RX0) ∈ xA := xI1 (List.mem_of_getElem? (i := 12) rfl) rfl
theorem w1_13 : (Cond.initialized RJ9) ∈ xA := xI1 (List.mem_of_getElem? (i := 13) rfl) rfl
theorem w1_14 : (Cond.initialized RX7) ∈ xA := xI1 (List.mem_of_getElem? (i := 14) rfl) rfl
theorem w1_15 : (Cond.initialized "java/lang/Throwable") ∈ xA := xI1 (List.mem_of_getElem? (i := 15) rfl) rfl
theorem w1_16 : (Cond.initialized "java/lang/Exception") ∈ xA := xI1 (List.mem_of_getElem? (i := 16) rfl) rfl
theorem w1_17 : (Cond.initialized "java/lang/RuntimeException") ∈ xA := xI1 (List.mem_of_getElem? (i := 17) rfl) rfl
theorem w1_18 : (Cond.initialized "java/lang/IllegalArgumentException") ∈ xA := xI1 (List.mem_of_getElem? (i := 18) rfl) rfl
theorem w1_19 : (Cond.initialized "java/lang/IndexOutOfBoundsException") ∈ xA := xI1 (List.mem_of_getElem? (i := 19) rfl) rfl
theorem w1_20 : (Cond.initialized "java/lang/IllegalStateException") ∈ xA := xI1 (List.mem_of_getElem? (i := 20) rfl) rfl
theorem w1_21 : (Cond.initialized "java/util/NoSuchElementException") ∈ xA := xI1 (List.mem_of_getElem? (i := 21) rfl) rfl
theorem w1_22 : (Cond.classLink RL 8 "FogBellMarket") ∈ xA := xI1 (List.mem_of_getElem? (i := 22) rfl) rfl
theorem w1_23 : (Cond.instantiable RX6 11) ∈ xA := xI1 (List.mem_of_getElem? (i := 23) rfl) rfl
theorem w1_24 : (Cond.methodLink RL 136 yX6_init) ∈ xA := xI1 (List.mem_of_getElem? (i := 24) rfl) rfl
theorem w1_25 : (Cond.instanceMethod yX6_init) ∈ xA := xI1 (List.mem_of_getElem? (i := 25) rfl) rfl
theorem w1_26 : (Cond.code yX6_init cX6_init 2 none) ∈ xA := xI1 (List.mem_of_getElem? (i := 26) rfl) rfl
theorem w1_27 : (Cond.methodLink RX6 1 (⟨"java/lang/Object", "<init>", "()V"⟩)) ∈ xA := xI1 (List.mem_of_getElem? (i := 27) rfl) rfl
theorem w1_28 : (Cond.instanceMethod (⟨"java/lang/Object", "<init>", "()V"⟩)) ∈ xA := xI1 (List.mem_of_getElem? (i := 28) rfl) rfl
theorem w1_29 : (Cond.code (⟨"java/lang/Object", "<init>", "()V"⟩) object_method_1_code 1 none) ∈ xA := xI1 (List.mem_of_getElem? (i := 29) rfl) rfl
theorem w1_30 : (Cond.classLink RX6 7 "FogBellMarket$Market") ∈ xA := xI1 (List.mem_of_getElem? (i := 30) rfl) rfl
theorem w1_31 : (Cond.instantiable RX2 14) ∈ xA := xI1 (List.mem_of_getElem? (i := 31) rfl) rfl
theorem w1_32 : (Cond.methodLink RX6 9 yX2_init) ∈ xA := xI1 (List.mem_of_getElem? (i := 32) rfl) rfl
theorem w1_33 : (Cond.instanceMethod yX2_init) ∈ xA := xI1 (List.mem_of_getElem? (i := 33) rfl) rfl
theorem w1_34 : (Cond.code yX2_init cX2_init 2 none) ∈ xA := xI1 (List.mem_of_getElem? (i := 34) rfl) rfl
theorem w1_35 : (Cond.methodLink RX2 3 (⟨"java/lang/Object", "<init>", "()V"⟩)) ∈ xA := xI1 (List.mem_of_getElem? (i := 35) rfl) rfl
theorem w1_36 : (Cond.classLink RX2 9 "FogBellMarket$Stall") ∈ xA := xI1 (List.mem_of_getElem? (i := 36) rfl) rfl
theorem w1_38 : (Cond.classLink RX2 17 "FogBellMarket$Buyer") ∈ xA := xI1 (List.mem_of_getElem? (i := 38) rfl) rfl
theorem w1_40 : (Cond.instantiable RX4 9) ∈ xA := xI1 (List.mem_of_getElem? (i := 40) rfl) rfl
theorem w1_42 : (Cond.instanceMethod yX4_init) ∈ xA := xI1 (List.mem_of_getElem? (i := 42) rfl) rfl
theorem w1_43 : (Cond.code yX4_init cX4_init 1 none) ∈ xA := xI1 (List.mem_of_getElem? (i := 43) rfl) rfl
theorem w1_44 : (Cond.methodLink RX4 3 (⟨"java/lang/Object", "<init>", "()V"⟩)) ∈ xA := xI1 (List.mem_of_getElem? (i := 44) rfl) rfl
theorem w1_45 : (Cond.fieldLink RX4 9 "FogBellMarket$Stall" "position" "I") ∈ xA := xI1 (List.mem_of_getElem? (i := 45) rfl) rfl
theorem w1_46 : (Cond.fieldLink RX2 84 "FogBellMarket$Stall" "position" "I") ∈ xA := xI1 (List.mem_of_getElem? (i := 46) rfl) rfl
theorem w1_47 : (Cond.fieldLink RX6 156 "FogBellMarket$Stall" "position" "I") ∈ xA := xI1 (List.mem_of_getElem? (i := 47) rfl) rfl
theorem w1_48 : (Cond.fieldLink RX4 15 "FogBellMarket$Stall" "lantern" "I") ∈ xA := xI1 (List.mem_of_getElem? (i := 48) rfl) rfl
theorem w1_49 : (Cond.fieldLink RX2 93 "FogBellMarket$Stall" "lantern" "I") ∈ xA := xI1 (List.mem_of_getElem? (i := 49) rfl) rfl
theorem w1_50 : (Cond.fieldLink RX6 161 "FogBellMarket$Stall" "lantern" "I") ∈ xA := xI1 (List.mem_of_getElem? (i := 50) rfl) rfl
theorem w1_51 : (Cond.fieldLink RX4 18 "FogBellMarket$Stall" "texture" "I") ∈ xA := xI1 (List.mem_of_getElem? (i := 51) rfl) rfl
theorem w1_52 : (Cond.fieldLink RX1 36 "FogBellMarket$Stall" "texture" "I") ∈ xA := xI1 (List.mem_of_getElem? (i := 52) rfl) rfl
theorem w1_53 : (Cond.fieldLink RX6 164 "FogBellMarket$Stall" "texture" "I") ∈ xA := xI1 (List.mem_of_getElem? (i := 53) rfl) rfl
theorem w1_54 : (Cond.fieldLink RX4 21 "FogBellMarket$Stall" "price" "I") ∈ xA := xI1 (List.mem_of_getElem? (i := 54) rfl) rfl
theorem w1_55 : (Cond.fieldLink RX1 44 "FogBellMarket$Stall" "price" "I") ∈ xA := xI1 (List.mem_of_getElem? (i := 55) rfl) rfl
theorem w1_56 : (Cond.fieldLink RX2 206 "FogBellMarket$Stall" "price" "I") ∈ xA := xI1 (List.mem_of_getElem? (i := 56) rfl) rfl
theorem w1_57 : (Cond.fieldLink RX6 167 "FogBellMarket$Stall" "price" "I") ∈ xA := xI1 (List.mem_of_getElem? (i := 57) rfl) rfl
theorem w1_58 : (Cond.fieldLink RX4 24 "FogBellMarket$Stall" "stock" "I") ∈ xA := xI1 (List.mem_of_getElem? (i := 58) rfl) rfl
theorem w1_59 : (Cond.fieldLink RX1 41 "FogBellMarket$Stall" "stock" "I") ∈ xA := xI1 (List.mem_of_getElem? (i := 59) rfl) rfl
theorem w1_60 : (Cond.fieldLink RX2 116 "FogBellMarket$Stall" "stock" "I") ∈ xA := xI1 (List.mem_of_getElem? (i := 60) rfl) rfl
theorem w1_61 : (Cond.fieldLink RX6 170 "FogBellMarket$Stall" "stock" "I") ∈ xA := xI1 (List.mem_of_getElem? (i := 61) rfl) rfl
theorem w1_62 : (Cond.fieldLink RX4 27 "FogBellMarket$Stall" "sold" "I") ∈ xA := xI1 (List.mem_of_getElem? (i := 62) rfl) rfl
theorem w1_63 : (Cond.fieldLink RX2 78 "FogBellMarket$Stall" "sold" "I") ∈ xA := xI1 (List.mem_of_getElem? (i := 63) rfl) rfl
theorem w1_64 : (Cond.fieldLink RX1 50 "FogBellMarket$Stall" "sold" "I") ∈ xA := xI1 (List.mem_of_getElem? (i := 64) rfl) rfl
theorem w1_65 : (Cond.fieldLink RX6 179 "FogBellMarket$Stall" "sold" "I") ∈ xA := xI1 (List.mem_of_getElem? (i := 65) rfl) rfl
theorem w1_66 : (Cond.fieldLink RX4 30 "FogBellMarket$Stall" "lost" "I") ∈ xA := xI1 (List.mem_of_getElem? (i := 66) rfl) rfl
theorem w1_67 : (Cond.fieldLink RX6 182 "FogBellMarket$Stall" "lost" "I") ∈ xA := xI1 (List.mem_of_getElem? (i := 67) rfl) rfl
theorem w1_68 : (Cond.fieldLink RX4 33 "FogBellMarket$Stall" "earned" "I") ∈ xA := xI1 (List.mem_of_getElem? (i := 68) rfl) rfl
theorem w1_69 : (Cond.fieldLink RX2 75 "FogBellMarket$Stall" "earned" "I") ∈ xA := xI1 (List.mem_of_getElem? (i := 69) rfl) rfl
theorem w1_70 : (Cond.fieldLink RX1 47 "FogBellMarket$Stall" "earned" "I") ∈ xA := xI1 (List.mem_of_getElem? (i := 70) rfl) rfl
theorem w1_71 : (Cond.fieldLink RX6 185 "FogBellMarket$Stall" "earned" "I") ∈ xA := xI1 (List.mem_of_getElem? (i := 71) rfl) rfl
theorem w1_72 : (Cond.fieldLink RX4 36 "FogBellMarket$Stall" "came" "I") ∈ xA := xI1 (List.mem_of_getElem? (i := 72) rfl) rfl
theorem w1_73 : (Cond.fieldLink RX6 265 "FogBellMarket$Stall" "came" "I") ∈ xA := xI1 (List.mem_of_getElem? (i := 73) rfl) rfl
theorem w1_74 : (Cond.lays RX4 "FogBellMarket$Stall" "position" "I") ∈ xA := xI1 (List.mem_of_getElem? (i := 74) rfl) rfl
theorem w1_76 : (Cond.lays RX4 "FogBellMarket$Stall" "lantern" "I") ∈ xA := xI1 (List.mem_of_getElem? (i := 76) rfl) rfl
theorem w1_78 : (Cond.lays RX4 "FogBellMarket$Stall" "texture" "I") ∈ xA := xI1 (List.mem_of_getElem? (i := 78) rfl) rfl
theorem w1_80 : (Cond.lays RX4 "FogBellMarket$Stall" "price" "I") ∈ xA := xI1 (List.mem_of_getElem? (i := 80) rfl) rfl
theorem w1_82 : (Cond.lays RX4 "FogBellMarket$Stall" "stock" "I") ∈ xA := xI1 (List.mem_of_getElem? (i := 82) rfl) rfl
theorem w1_84 : (Cond.lays RX4 "FogBellMarket$Stall" "sold" "I") ∈ xA := xI1 (List.mem_of_getElem? (i := 84) rfl) rfl
theorem w1_86 : (Cond.lays RX4 "FogBellMarket$Stall" "lost" "I") ∈ xA := xI1 (List.mem_of_getElem? (i := 86) rfl) rfl
theorem w1_88 : (Cond.lays RX4 "FogBellMarket$Stall" "earned" "I") ∈ xA := xI1 (List.mem_of_getElem? (i := 88) rfl) rfl
theorem w1_90 : (Cond.lays RX4 "FogBellMarket$Stall" "came" "I") ∈ xA := xI1 (List.mem_of_getElem? (i := 90) rfl) rfl
theorem w1_93 : (Cond.arrayClass FieldType.int) ∈ xA := xI1 (List.mem_of_getElem? (i := 93) rfl) rfl
theorem w1_94 : (Cond.instantiable RX1 8) ∈ xA := xI1 (List.mem_of_getElem? (i := 94) rfl) rfl
theorem w1_96 : (Cond.instanceMethod yX1_init) ∈ xA := xI1 (List.mem_of_getElem? (i := 96) rfl) rfl
theorem w1_97 : (Cond.code yX1_init cX1_init 1 none) ∈ xA := xI1 (List.mem_of_getElem? (i := 97) rfl) rfl
theorem w1_98 : (Cond.methodLink RX1 3 (⟨"java/lang/Object", "<init>", "()V"⟩)) ∈ xA := xI1 (List.mem_of_getElem? (i := 98) rfl) rfl
theorem w1_99 : (Cond.fieldLink RX1 15 "FogBellMarket$Buyer" "position" "I") ∈ xA := xI1 (List.mem_of_getElem? (i := 99) rfl) rfl
theorem w1_100 : (Cond.fieldLink RX2 87 "FogBellMarket$Buyer" "position" "I") ∈ xA := xI1 (List.mem_of_getElem? (i := 100) rfl) rfl
theorem w1_101 : (Cond.fieldLink RX6 218 "FogBellMarket$Buyer" "position" "I") ∈ xA := xI1 (List.mem_of_getElem? (i := 101) rfl) rfl
theorem w1_102 : (Cond.fieldLink RX1 18 "FogBellMarket$Buyer" "coins" "I") ∈ xA := xI1 (List.mem_of_getElem? (i := 102) rfl) rfl
theorem w1_103 : (Cond.fieldLink RX6 221 "FogBellMarket$Buyer" "coins" "I") ∈ xA := xI1 (List.mem_of_getElem? (i := 103) rfl) rfl
theorem w1_104 : (Cond.fieldLink RX1 21 "FogBellMarket$Buyer" "wanted" "I") ∈ xA := xI1 (List.mem_of_getElem? (i := 104) rfl) rfl
theorem w1_105 : (Cond.fieldLink RX6 224 "FogBellMarket$Buyer" "wanted" "I") ∈ xA := xI1 (List.mem_of_getElem? (i := 105) rfl) rfl
theorem w1_106 : (Cond.fieldLink RX1 24 "FogBellMarket$Buyer" "speed" "I") ∈ xA := xI1 (List.mem_of_getElem? (i := 106) rfl) rfl
theorem w1_107 : (Cond.fieldLink RX6 227 "FogBellMarket$Buyer" "speed" "I") ∈ xA := xI1 (List.mem_of_getElem? (i := 107) rfl) rfl
theorem w1_108 : (Cond.fieldLink RX1 9 "FogBellMarket$Buyer" "heldStall" "I") ∈ xA := xI1 (List.mem_of_getElem? (i := 108) rfl) rfl
theorem w1_109 : (Cond.fieldLink RX2 81 "FogBellMarket$Buyer" "heldStall" "I") ∈ xA := xI1 (List.mem_of_getElem? (i := 109) rfl) rfl
theorem w1_110 : (Cond.fieldLink RX6 230 "FogBellMarket$Buyer" "heldStall" "I") ∈ xA := xI1 (List.mem_of_getElem? (i := 110) rfl) rfl
theorem w1_111 : (Cond.fieldLink RX1 27 "FogBellMarket$Buyer" "debt" "I") ∈ xA := xI1 (List.mem_of_getElem? (i := 111) rfl) rfl
theorem w1_112 : (Cond.fieldLink RX6 233 "FogBellMarket$Buyer" "debt" "I") ∈ xA := xI1 (List.mem_of_getElem? (i := 112) rfl) rfl
theorem w1_113 : (Cond.fieldLink RX1 30 "FogBellMarket$Buyer" "avoided" "I") ∈ xA := xI1 (List.mem_of_getElem? (i := 113) rfl) rfl
theorem w1_114 : (Cond.fieldLink RX2 145 "FogBellMarket$Buyer" "avoided" "I") ∈ xA := xI1 (List.mem_of_getElem? (i := 114) rfl) rfl
theorem w1_115 : (Cond.fieldLink RX6 236 "FogBellMarket$Buyer" "avoided" "I") ∈ xA := xI1 (List.mem_of_getElem? (i := 115) rfl) rfl
theorem w1_116 : (Cond.fieldLink RX1 33 "FogBellMarket$Buyer" "bought" "I") ∈ xA := xI1 (List.mem_of_getElem? (i := 116) rfl) rfl
theorem w1_117 : (Cond.fieldLink RX6 239 "FogBellMarket$Buyer" "bought" "I") ∈ xA := xI1 (List.mem_of_getElem? (i := 117) rfl) rfl
theorem w1_118 : (Cond.lays RX1 "FogBellMarket$Buyer" "position" "I") ∈ xA := xI1 (List.mem_of_getElem? (i := 118) rfl) rfl
theorem w1_120 : (Cond.lays RX1 "FogBellMarket$Buyer" "coins" "I") ∈ xA := xI1 (List.mem_of_getElem? (i := 120) rfl) rfl
theorem w1_122 : (Cond.lays RX1 "FogBellMarket$Buyer" "wanted" "I") ∈ xA := xI1 (List.mem_of_getElem? (i := 122) rfl) rfl
theorem w1_124 : (Cond.lays RX1 "FogBellMarket$Buyer" "speed" "I") ∈ xA := xI1 (List.mem_of_getElem? (i := 124) rfl) rfl
theorem w1_126 : (Cond.lays RX1 "FogBellMarket$Buyer" "heldStall" "I") ∈ xA := xI1 (List.mem_of_getElem? (i := 126) rfl) rfl
theorem w1_128 : (Cond.lays RX1 "FogBellMarket$Buyer" "debt" "I") ∈ xA := xI1 (List.mem_of_getElem? (i := 128) rfl) rfl
theorem w1_130 : (Cond.lays RX1 "FogBellMarket$Buyer" "avoided" "I") ∈ xA := xI1 (List.mem_of_getElem? (i := 130) rfl) rfl
theorem w1_132 : (Cond.lays RX1 "FogBellMarket$Buyer" "bought" "I") ∈ xA := xI1 (List.mem_of_getElem? (i := 132) rfl) rfl
theorem w1_135 : (Cond.fieldLink RX2 11 "FogBellMarket$Market" "stalls" "[LFogBellMarket$Stall;") ∈ xA := xI1 (List.mem_of_getElem? (i := 135) rfl) rfl
theorem w1_136 : (Cond.fieldLink RX3 168 "FogBellMarket$Market" "stalls" "[LFogBellMarket$Stall;") ∈ xA := xI1 (List.mem_of_getElem? (i := 136) rfl) rfl
theorem w1_137 : (Cond.fieldLink RX6 192 "FogBellMarket$Market" "stalls" "[LFogBellMarket$Stall;") ∈ xA := xI1 (List.mem_of_getElem? (i := 137) rfl) rfl
theorem w1_138 : (Cond.fieldLink RX2 29 "FogBellMarket$Market" "stallCount" "I") ∈ xA := xI1 (List.mem_of_getElem? (i := 138) rfl) rfl
theorem w1_139 : (Cond.fieldLink RX6 66 "FogBellMarket$Market" "stallCount" "I") ∈ xA := xI1 (List.mem_of_getElem? (i := 139) rfl) rfl
theorem w1_140 : (Cond.fieldLink RX3 121 "FogBellMarket$Market" "stallCount" "I") ∈ xA := xI1 (List.mem_of_getElem? (i := 140) rfl) rfl
theorem w1_141 : (Cond.fieldLink RX2 19 "FogBellMarket$Market" "buyers" "[LFogBellMarket$Buyer;") ∈ xA := xI1 (List.mem_of_getElem? (i := 141) rfl) rfl
theorem w1_142 : (Cond.fieldLink RX3 183 "FogBellMarket$Market" "buyers" "[LFogBellMarket$Buyer;") ∈ xA := xI1 (List.mem_of_getElem? (i := 142) rfl) rfl
theorem w1_143 : (Cond.fieldLink RX6 258 "FogBellMarket$Market" "buyers" "[LFogBellMarket$Buyer;") ∈ xA := xI1 (List.mem_of_getElem? (i := 143) rfl) rfl
theorem w1_144 : (Cond.fieldLink RX2 33 "FogBellMarket$Market" "buyerCount" "I") ∈ xA := xI1 (List.mem_of_getElem? (i := 144) rfl) rfl
theorem w1_145 : (Cond.fieldLink RX3 127 "FogBellMarket$Market" "buyerCount" "I") ∈ xA := xI1 (List.mem_of_getElem? (i := 145) rfl) rfl
theorem w1_146 : (Cond.fieldLink RX6 211 "FogBellMarket$Market" "buyerCount" "I") ∈ xA := xI1 (List.mem_of_getElem? (i := 146) rfl) rfl
theorem w1_147 : (Cond.fieldLink RX2 23 "FogBellMarket$Market" "fog" "[I") ∈ xA := xI1 (List.mem_of_getElem? (i := 147) rfl) rfl
theorem w1_148 : (Cond.fieldLink RX6 308 "FogBellMarket$Market" "fog" "[I") ∈ xA := xI1 (List.mem_of_getElem? (i := 148) rfl) rfl
theorem w1_149 : (Cond.fieldLink RX2 36 "FogBellMarket$Market" "fogLength" "I") ∈ xA := xI1 (List.mem_of_getElem? (i := 149) rfl) rfl
theorem w1_150 : (Cond.fieldLink RX3 155 "FogBellMarket$Market" "fogLength" "I") ∈ xA := xI1 (List.mem_of_getElem? (i := 150) rfl) rfl
theorem w1_151 : (Cond.fieldLink RX6 303 "FogBellMarket$Market" "fogLength" "I") ∈ xA := xI1 (List.mem_of_getElem? (i := 151) rfl) rfl
theorem w1_152 : (Cond.fieldLink RX2 39 "FogBellMarket$Market" "minute" "I") ∈ xA := xI1 (List.mem_of_getElem? (i := 152) rfl) rfl
theorem w1_153 : (Cond.fieldLink RX6 107 "FogBellMarket$Market" "minute" "I") ∈ xA := xI1 (List.mem_of_getElem? (i := 153) rfl) rfl
theorem w1_154 : (Cond.fieldLink RX2 42 "FogBellMarket$Market" "bell" "I") ∈ xA := xI1 (List.mem_of_getElem? (i := 154) rfl) rfl
theorem w1_155 : (Cond.fieldLink RX6 110 "FogBellMarket$Market" "bell" "I") ∈ xA := xI1 (List.mem_of_getElem? (i := 155) rfl) rfl
theorem w1_156 : (Cond.fieldLink RX2 45 "FogBellMarket$Market" "bellThreshold" "I") ∈ xA := xI1 (List.mem_of_getElem? (i := 156) rfl) rfl
theorem w1_157 : (Cond.fieldLink RX6 113 "FogBellMarket$Market" "bellThreshold" "I") ∈ xA := xI1 (List.mem_of_getElem? (i := 157) rfl) rfl
theorem w1_158 : (Cond.fieldLink RX2 48 "FogBellMarket$Market" "bellDuration" "I") ∈ xA := xI1 (List.mem_of_getElem? (i := 158) rfl) rfl
theorem w1_159 : (Cond.fieldLink RX6 116 "FogBellMarket$Market" "bellDuration" "I") ∈ xA := xI1 (List.mem_of_getElem? (i := 159) rfl) rfl
theorem w1_160 : (Cond.fieldLink RX2 51 "FogBellMarket$Market" "open" "Z") ∈ xA := xI1 (List.mem_of_getElem? (i := 160) rfl) rfl
theorem w1_161 : (Cond.fieldLink RX6 130 "FogBellMarket$Market" "open" "Z") ∈ xA := xI1 (List.mem_of_getElem? (i := 161) rfl) rfl
theorem w1_162 : (Cond.fieldLink RX2 55 "FogBellMarket$Market" "ready" "Z") ∈ xA := xI1 (List.mem_of_getElem? (i := 162) rfl) rfl
theorem w1_163 : (Cond.fieldLink RX6 134 "FogBellMarket$Market" "ready" "Z") ∈ xA := xI1 (List.mem_of_getElem? (i := 163) rfl) rfl
theorem w1_164 : (Cond.fieldLink RX2 58 "FogBellMarket$Market" "minutesOpen" "I") ∈ xA := xI1 (List.mem_of_getElem? (i := 164) rfl) rfl
theorem w1_165 : (Cond.fieldLink RX6 137 "FogBellMarket$Market" "minutesOpen" "I") ∈ xA := xI1 (List.mem_of_getElem? (i := 165) rfl) rfl
theorem w1_166 : (Cond.fieldLink RX2 61 "FogBellMarket$Market" "rings" "I") ∈ xA := xI1 (List.mem_of_getElem? (i := 166) rfl) rfl
theorem w1_167 : (Cond.fieldLink RX6 140 "FogBellMarket$Market" "rings" "I") ∈ xA := xI1 (List.mem_of_getElem? (i := 167) rfl) rfl
theorem w1_168 : (Cond.laysFinal RX2 "FogBellMarket$Market" "stalls" "[LFogBellMarket$Stall;") ∈ xA := xI1 (List.mem_of_getElem? (i := 168) rfl) rfl
theorem w1_170 : (Cond.lays RX2 "FogBellMarket$Market" "stallCount" "I") ∈ xA := xI1 (List.mem_of_getElem? (i := 170) rfl) rfl
theorem w1_172 : (Cond.laysFinal RX2 "FogBellMarket$Market" "buyers" "[LFogBellMarket$Buyer;") ∈ xA := xI1 (List.mem_of_getElem? (i := 172) rfl) rfl
theorem w1_174 : (Cond.lays RX2 "FogBellMarket$Market" "buyerCount" "I") ∈ xA := xI1 (List.mem_of_getElem? (i := 174) rfl) rfl
theorem w1_176 : (Cond.laysFinal RX2 "FogBellMarket$Market" "fog" "[I") ∈ xA := xI1 (List.mem_of_getElem? (i := 176) rfl) rfl
theorem w1_178 : (Cond.lays RX2 "FogBellMarket$Market" "fogLength" "I") ∈ xA := xI1 (List.mem_of_getElem? (i := 178) rfl) rfl
theorem w1_180 : (Cond.lays RX2 "FogBellMarket$Market" "minute" "I") ∈ xA := xI1 (List.mem_of_getElem? (i := 180) rfl) rfl
theorem w1_182 : (Cond.lays RX2 "FogBellMarket$Market" "bell" "I") ∈ xA := xI1 (List.mem_of_getElem? (i := 182) rfl) rfl
theorem w1_184 : (Cond.lays RX2 "FogBellMarket$Market" "bellThreshold" "I") ∈ xA := xI1 (List.mem_of_getElem? (i := 184) rfl) rfl
theorem w1_186 : (Cond.lays RX2 "FogBellMarket$Market" "bellDuration" "I") ∈ xA := xI1 (List.mem_of_getElem? (i := 186) rfl) rfl
theorem w1_188 : (Cond.lays RX2 "FogBellMarket$Market" "open" "Z") ∈ xA := xI1 (List.mem_of_getElem? (i := 188) rfl) rfl
theorem w1_190 : (Cond.lays RX2 "FogBellMarket$Market" "ready" "Z") ∈ xA := xI1 (List.mem_of_getElem? (i := 190) rfl) rfl
theorem w1_192 : (Cond.lays RX2 "FogBellMarket$Market" "minutesOpen" "I") ∈ xA := xI1 (List.mem_of_getElem? (i := 192) rfl) rfl
theorem w1_194 : (Cond.lays RX2 "FogBellMarket$Market" "rings" "I") ∈ xA := xI1 (List.mem_of_getElem? (i := 194) rfl) rfl
theorem w1_197 : (Cond.classLink RX6 22 "FogBellMarket$Reader") ∈ xA := xI1 (List.mem_of_getElem? (i := 197) rfl) rfl
theorem w1_198 : (Cond.instantiable RX3 10) ∈ xA := xI1 (List.mem_of_getElem? (i := 198) rfl) rfl
theorem w1_200 : (Cond.instanceMethod yX3_init) ∈ xA := xI1 (List.mem_of_getElem? (i := 200) rfl) rfl
theorem w1_201 : (Cond.code yX3_init cX3_init 1 none) ∈ xA := xI1 (List.mem_of_getElem? (i := 201) rfl) rfl
theorem w1_202 : (Cond.methodLink RX3 3 (⟨"java/lang/Object", "<init>", "()V"⟩)) ∈ xA := xI1 (List.mem_of_getElem? (i := 202) rfl) rfl
theorem w1_203 : (Cond.fieldLink RX3 9 "FogBellMarket$Reader" "bytes" "[B") ∈ xA := xI1 (List.mem_of_getElem? (i := 203) rfl) rfl
theorem w1_204 : (Cond.fieldLink RX6 58 "FogBellMarket$Reader" "length" "I") ∈ xA := xI1 (List.mem_of_getElem? (i := 204) rfl) rfl
theorem w1_205 : (Cond.fieldLink RX3 37 "FogBellMarket$Reader" "length" "I") ∈ xA := xI1 (List.mem_of_getElem? (i := 205) rfl) rfl
theorem w1_206 : (Cond.fieldLink RX6 86 "FogBellMarket$Reader" "errorCode" "I") ∈ xA := xI1 (List.mem_of_getElem? (i := 206) rfl) rfl
theorem w1_207 : (Cond.fieldLink RX3 42 "FogBellMarket$Reader" "errorCode" "I") ∈ xA := xI1 (List.mem_of_getElem? (i := 207) rfl) rfl
theorem w1_208 : (Cond.fieldLink RX3 15 "FogBellMarket$Reader" "errorPosition" "I") ∈ xA := xI1 (List.mem_of_getElem? (i := 208) rfl) rfl
theorem w1_209 : (Cond.fieldLink RX6 89 "FogBellMarket$Reader" "errorPosition" "I") ∈ xA := xI1 (List.mem_of_getElem? (i := 209) rfl) rfl
theorem w1_210 : (Cond.fieldLink RX3 91 "FogBellMarket$Reader" "verb" "LFogBellMarket$Verb;") ∈ xA := xI1 (List.mem_of_getElem? (i := 210) rfl) rfl
theorem w1_211 : (Cond.fieldLink RX2 166 "FogBellMarket$Reader" "verb" "LFogBellMarket$Verb;") ∈ xA := xI1 (List.mem_of_getElem? (i := 211) rfl) rfl
theorem w1_212 : (Cond.fieldLink RX3 19 "FogBellMarket$Reader" "arguments" "[I") ∈ xA := xI1 (List.mem_of_getElem? (i := 212) rfl) rfl
theorem w1_213 : (Cond.fieldLink RX3 39 "FogBellMarket$Reader" "next" "I") ∈ xA := xI1 (List.mem_of_getElem? (i := 213) rfl) rfl
theorem w1_214 : (Cond.fieldLink RX3 77 "FogBellMarket$Reader" "token" "I") ∈ xA := xI1 (List.mem_of_getElem? (i := 214) rfl) rfl
theorem w1_215 : (Cond.fieldLink RX3 206 "FogBellMarket$Reader" "tokenStart" "I") ∈ xA := xI1 (List.mem_of_getElem? (i := 215) rfl) rfl
theorem w1_216 : (Cond.fieldLink RX3 55 "FogBellMarket$Reader" "number" "I") ∈ xA := xI1 (List.mem_of_getElem? (i := 216) rfl) rfl
theorem w1_217 : (Cond.laysFinal RX3 "FogBellMarket$Reader" "bytes" "[B") ∈ xA := xI1 (List.mem_of_getElem? (i := 217) rfl) rfl
theorem w1_219 : (Cond.lays RX3 "FogBellMarket$Reader" "length" "I") ∈ xA := xI1 (List.mem_of_getElem? (i := 219) rfl) rfl
theorem w1_221 : (Cond.lays RX3 "FogBellMarket$Reader" "errorCode" "I") ∈ xA := xI1 (List.mem_of_getElem? (i := 221) rfl) rfl
theorem w1_223 : (Cond.lays RX3 "FogBellMarket$Reader" "errorPosition" "I") ∈ xA := xI1 (List.mem_of_getElem? (i := 223) rfl) rfl
theorem w1_225 : (Cond.lays RX3 "FogBellMarket$Reader" "verb" "LFogBellMarket$Verb;") ∈ xA := xI1 (List.mem_of_getElem? (i := 225) rfl) rfl
theorem w1_227 : (Cond.laysFinal RX3 "FogBellMarket$Reader" "arguments" "[I") ∈ xA := xI1 (List.mem_of_getElem? (i := 227) rfl) rfl
theorem w1_229 : (Cond.lays RX3 "FogBellMarket$Reader" "next" "I") ∈ xA := xI1 (List.mem_of_getElem? (i := 229) rfl) rfl
theorem w1_231 : (Cond.lays RX3 "FogBellMarket$Reader" "token" "I") ∈ xA := xI1 (List.mem_of_getElem? (i := 231) rfl) rfl
theorem w1_233 : (Cond.lays RX3 "FogBellMarket$Reader" "tokenStart" "I") ∈ xA := xI1 (List.mem_of_getElem? (i := 233) rfl) rfl
theorem w1_235 : (Cond.lays RX3 "FogBellMarket$Reader" "number" "I") ∈ xA := xI1 (List.mem_of_getElem? (i := 235) rfl) rfl
theorem w1_238 : (Cond.arrayClass FieldType.byte) ∈ xA := xI1 (List.mem_of_getElem? (i := 238) rfl) rfl
theorem w2_1 : (Cond.methodLink RX6 46 yX3_appendText) ∈ xA := xI2 (List.mem_of_getElem? (i := 1) rfl) rfl
theorem w2_2 : (Cond.instanceMethod yX3_appendText) ∈ xA := xI2 (List.mem_of_getElem? (i := 2) rfl) rfl
theorem w2_3 : (Cond.selects RX3 yX3_appendText yX3_appendText) ∈ xA := xI2 (List.mem_of_getElem? (i := 3) rfl) rfl
theorem w2_4 : (Cond.code yX3_appendText cX3_appendText 3 none) ∈ xA := xI2 (List.mem_of_getElem? (i := 4) rfl) rfl
theorem w2_5 : (Cond.methodLink RX3 23 yJ0_length_8abf5) ∈ xA := xI2 (List.mem_of_getElem? (i := 5) rfl) rfl
theorem w2_6 : (Cond.instanceMethod yJ0_length_8abf5) ∈ xA := xI2 (List.mem_of_getElem? (i := 6) rfl) rfl
theorem w2_7 : (Cond.selects RJ0 yJ0_length_8abf5 yJ0_length_8abf5) ∈ xA := xI2 (List.mem_of_getElem? (i := 7) rfl) rfl
theorem w2_8 : (Cond.code yJ0_length_8abf5 cJ0_length_8abf5 1 (some FieldType.int)) ∈ xA := xI2 (List.mem_of_getElem? (i := 8) rfl) rfl
theorem w2_9 : (Cond.methodLink RJ0 335 yJ0_coder_7d493) ∈ xA := xI2 (List.mem_of_getElem? (i := 9) rfl) rfl
theorem w2_10 : (Cond.instanceMethod yJ0_coder_7d493) ∈ xA := xI2 (List.mem_of_getElem? (i := 10) rfl) rfl
theorem w2_11 : (Cond.selects RJ0 yJ0_coder_7d493 yJ0_coder_7d493) ∈ xA := xI2 (List.mem_of_getElem? (i := 11) rfl) rfl
theorem w2_12 : (Cond.code yJ0_coder_7d493 cJ0_coder_7d493 1 (some FieldType.byte)) ∈ xA := xI2 (List.mem_of_getElem? (i := 12) rfl) rfl
theorem w2_13 : (Cond.fieldLink RJ0 38 "java/lang/String" "COMPACT_STRINGS" "Z") ∈ xA := xI2 (List.mem_of_getElem? (i := 13) rfl) rfl
theorem w2_15 : (Cond.methodLink RX3 29 yJ0_charAt_5068e) ∈ xA := xI2 (List.mem_of_getElem? (i := 15) rfl) rfl
theorem w2_16 : (Cond.instanceMethod yJ0_charAt_5068e) ∈ xA := xI2 (List.mem_of_getElem? (i := 16) rfl) rfl
theorem w2_17 : (Cond.selects RJ0 yJ0_charAt_5068e yJ0_charAt_5068e) ∈ xA := xI2 (List.mem_of_getElem? (i := 17) rfl) rfl
theorem w2_18 : (Cond.code yJ0_charAt_5068e cJ0_charAt_5068e 2 (some FieldType.char)) ∈ xA := xI2 (List.mem_of_getElem? (i := 18) rfl) rfl
theorem w2_19 : (Cond.methodLink RJ0 492 yJ0_isLatin1_aae02) ∈ xA := xI2 (List.mem_of_getElem? (i := 19) rfl) rfl
theorem w2_20 : (Cond.instanceMethod yJ0_isLatin1_aae02) ∈ xA := xI2 (List.mem_of_getElem? (i := 20) rfl) rfl
theorem w2_21 : (Cond.selects RJ0 yJ0_isLatin1_aae02 yJ0_isLatin1_aae02) ∈ xA := xI2 (List.mem_of_getElem? (i := 21) rfl) rfl
theorem w2_22 : (Cond.code yJ0_isLatin1_aae02 cJ0_isLatin1_aae02 1 (some FieldType.boolean)) ∈ xA := xI2 (List.mem_of_getElem? (i := 22) rfl) rfl
theorem w2_23 : (Cond.methodLink RJ0 495 yJ1_charAt_3b067) ∈ xA := xI2 (List.mem_of_getElem? (i := 23) rfl) rfl
theorem w2_24 : (Cond.static yJ1_charAt_3b067) ∈ xA := xI2 (List.mem_of_getElem? (i := 24) rfl) rfl
theorem w2_25 : (Cond.code yJ1_charAt_3b067 cJ1_charAt_3b067 2 (some FieldType.char)) ∈ xA := xI2 (List.mem_of_getElem? (i := 25) rfl) rfl
theorem w2_26 : (Cond.methodLink RJ1 9 yJ0_checkIndex_df160) ∈ xA := xI2 (List.mem_of_getElem? (i := 26) rfl) rfl
theorem w2_27 : (Cond.static yJ0_checkIndex_df160) ∈ xA := xI2 (List.mem_of_getElem? (i := 27) rfl) rfl
theorem w2_28 : (Cond.code yJ0_checkIndex_df160 cJ0_checkIndex_df160 2 none) ∈ xA := xI2 (List.mem_of_getElem? (i := 28) rfl) rfl
theorem w2_29 : (Cond.fieldLink RJ0 1053 "jdk/internal/util/Preconditions" "SIOOBE_FORMATTER" "Ljava/util/function/BiFunction;") ∈ xA := xI2 (List.mem_of_getElem? (i := 29) rfl) rfl
theorem w2_31 : (Cond.methodLink RJ0 1059 yJ3_checkIndex_8e157) ∈ xA := xI2 (List.mem_of_getElem? (i := 31) rfl) rfl
theorem w2_32 : (Cond.static yJ3_checkIndex_8e157) ∈ xA := xI2 (List.mem_of_getElem? (i := 32) rfl) rfl
theorem w2_33 : (Cond.code yJ3_checkIndex_8e157 cJ3_checkIndex_8e157 3 (some FieldType.int)) ∈ xA := xI2 (List.mem_of_getElem? (i := 33) rfl) rfl
theorem w2_34 : (Cond.methodLink RJ0 498 yJ2_charAt_3b067) ∈ xA := xI2 (List.mem_of_getElem? (i := 34) rfl) rfl
theorem w2_35 : (Cond.static yJ2_charAt_3b067) ∈ xA := xI2 (List.mem_of_getElem? (i := 35) rfl) rfl
theorem w2_36 : (Cond.code yJ2_charAt_3b067 cJ2_charAt_3b067 2 (some FieldType.char)) ∈ xA := xI2 (List.mem_of_getElem? (i := 36) rfl) rfl
theorem w2_37 : (Cond.methodLink RJ2 67 yJ2_checkIndex_2214a) ∈ xA := xI2 (List.mem_of_getElem? (i := 37) rfl) rfl
theorem w2_38 : (Cond.static yJ2_checkIndex_2214a) ∈ xA := xI2 (List.mem_of_getElem? (i := 38) rfl) rfl
theorem w2_39 : (Cond.code yJ2_checkIndex_2214a cJ2_checkIndex_2214a 2 none) ∈ xA := xI2 (List.mem_of_getElem? (i := 39) rfl) rfl
theorem w2_40 : (Cond.methodLink RJ2 48 yJ2_length_9d52b) ∈ xA := xI2 (List.mem_of_getElem? (i := 40) rfl) rfl
theorem w2_41 : (Cond.static yJ2_length_9d52b) ∈ xA := xI2 (List.mem_of_getElem? (i := 41) rfl) rfl
theorem w2_42 : (Cond.code yJ2_length_9d52b cJ2_length_9d52b 1 (some FieldType.int)) ∈ xA := xI2 (List.mem_of_getElem? (i := 42) rfl) rfl
theorem w2_43 : (Cond.methodLink RJ2 414 yJ0_checkIndex_df160) ∈ xA := xI2 (List.mem_of_getElem? (i := 43) rfl) rfl
theorem w2_44 : (Cond.methodLink RJ2 71 yJ2_getChar_3b067) ∈ xA := xI2 (List.mem_of_getElem? (i := 44) rfl) rfl
theorem w2_45 : (Cond.static yJ2_getChar_3b067) ∈ xA := xI2 (List.mem_of_getElem? (i := 45) rfl) rfl
theorem w2_46 : (Cond.code yJ2_getChar_3b067 cJ2_getChar_3b067 2 (some FieldType.char)) ∈ xA := xI2 (List.mem_of_getElem? (i := 46) rfl) rfl
theorem w2_47 : (Cond.fieldLink RJ2 44 "java/lang/StringUTF16" "$assertionsDisabled" "Z") ∈ xA := xI2 (List.mem_of_getElem? (i := 47) rfl) rfl
theorem w2_49 : (Cond.fieldLink RJ2 59 "java/lang/StringUTF16" "HI_BYTE_SHIFT" "I") ∈ xA := xI2 (List.mem_of_getElem? (i := 49) rfl) rfl
theorem w2_51 : (Cond.fieldLink RJ2 63 "java/lang/StringUTF16" "LO_BYTE_SHIFT" "I") ∈ xA := xI2 (List.mem_of_getElem? (i := 51) rfl) rfl
theorem w2_53 : (Cond.methodLink RX3 33 yX3_appendByte) ∈ xA := xI2 (List.mem_of_getElem? (i := 53) rfl) rfl
theorem w2_55 : (Cond.instanceMethod yX3_appendByte) ∈ xA := xI2 (List.mem_of_getElem? (i := 55) rfl) rfl
theorem w2_56 : (Cond.code yX3_appendByte cX3_appendByte 2 none) ∈ xA := xI2 (List.mem_of_getElem? (i := 56) rfl) rfl
theorem w2_57 : (Cond.methodLink RX6 50 yX6_replaceMarket) ∈ xA := xI2 (List.mem_of_getElem? (i := 57) rfl) rfl
theorem w2_59 : (Cond.instanceMethod yX6_replaceMarket) ∈ xA := xI2 (List.mem_of_getElem? (i := 59) rfl) rfl
theorem w2_60 : (Cond.code yX6_replaceMarket cX6_replaceMarket 3 (some FieldType.boolean)) ∈ xA := xI2 (List.mem_of_getElem? (i := 60) rfl) rfl
theorem w2_61 : (Cond.methodLink RX6 73 yX3_begin) ∈ xA := xI2 (List.mem_of_getElem? (i := 61) rfl) rfl
theorem w2_62 : (Cond.instanceMethod yX3_begin) ∈ xA := xI2 (List.mem_of_getElem? (i := 62) rfl) rfl
theorem w2_63 : (Cond.selects RX3 yX3_begin yX3_begin) ∈ xA := xI2 (List.mem_of_getElem? (i := 63) rfl) rfl
theorem w2_64 : (Cond.code yX3_begin cX3_begin 1 none) ∈ xA := xI2 (List.mem_of_getElem? (i := 64) rfl) rfl
theorem w2_65 : (Cond.methodLink RX6 92 yX3_readHead) ∈ xA := xI2 (List.mem_of_getElem? (i := 65) rfl) rfl
theorem w2_66 : (Cond.instanceMethod yX3_readHead) ∈ xA := xI2 (List.mem_of_getElem? (i := 66) rfl) rfl
theorem w2_67 : (Cond.selects RX3 yX3_readHead yX3_readHead) ∈ xA := xI2 (List.mem_of_getElem? (i := 67) rfl) rfl
theorem w2_68 : (Cond.code yX3_readHead cX3_readHead 4 (some FieldType.boolean)) ∈ xA := xI2 (List.mem_of_getElem? (i := 68) rfl) rfl
theorem w2_70 : (Cond.methodLink RX3 47 yX3_readWord) ∈ xA := xI2 (List.mem_of_getElem? (i := 70) rfl) rfl
theorem w2_72 : (Cond.instanceMethod yX3_readWord) ∈ xA := xI2 (List.mem_of_getElem? (i := 72) rfl) rfl
theorem w2_73 : (Cond.code yX3_readWord cX3_readWord 2 (some FieldType.boolean)) ∈ xA := xI2 (List.mem_of_getElem? (i := 73) rfl) rfl
theorem w2_74 : (Cond.methodLink RX3 74 yX3_readToken) ∈ xA := xI2 (List.mem_of_getElem? (i := 74) rfl) rfl
theorem w2_76 : (Cond.instanceMethod yX3_readToken) ∈ xA := xI2 (List.mem_of_getElem? (i := 76) rfl) rfl
theorem w2_77 : (Cond.code yX3_readToken cX3_readToken 1 none) ∈ xA := xI2 (List.mem_of_getElem? (i := 77) rfl) rfl
theorem w2_78 : (Cond.methodLink RX3 209 yX3_byteAt) ∈ xA := xI2 (List.mem_of_getElem? (i := 78) rfl) rfl
theorem w2_80 : (Cond.instanceMethod yX3_byteAt) ∈ xA := xI2 (List.mem_of_getElem? (i := 80) rfl) rfl
theorem w2_81 : (Cond.code yX3_byteAt cX3_byteAt 2 (some FieldType.int)) ∈ xA := xI2 (List.mem_of_getElem? (i := 81) rfl) rfl
theorem w2_82 : (Cond.methodLink RX3 212 yX3_isLetter) ∈ xA := xI2 (List.mem_of_getElem? (i := 82) rfl) rfl
theorem w2_83 : (Cond.static yX3_isLetter) ∈ xA := xI2 (List.mem_of_getElem? (i := 83) rfl) rfl
theorem w2_84 : (Cond.code yX3_isLetter cX3_isLetter 1 (some FieldType.boolean)) ∈ xA := xI2 (List.mem_of_getElem? (i := 84) rfl) rfl
theorem w2_85 : (Cond.methodLink RX3 215 yX3_isDigit) ∈ xA := xI2 (List.mem_of_getElem? (i := 85) rfl) rfl
theorem w2_86 : (Cond.static yX3_isDigit) ∈ xA := xI2 (List.mem_of_getElem? (i := 86) rfl) rfl
theorem w2_87 : (Cond.code yX3_isDigit cX3_isDigit 1 (some FieldType.boolean)) ∈ xA := xI2 (List.mem_of_getElem? (i := 87) rfl) rfl
theorem w2_88 : (Cond.methodLink RX3 218 yX3_readDigits) ∈ xA := xI2 (List.mem_of_getElem? (i := 88) rfl) rfl
theorem w2_90 : (Cond.instanceMethod yX3_readDigits) ∈ xA := xI2 (List.mem_of_getElem? (i := 90) rfl) rfl
theorem w2_91 : (Cond.code yX3_readDigits cX3_readDigits 1 none) ∈ xA := xI2 (List.mem_of_getElem? (i := 91) rfl) rfl
theorem w2_92 : (Cond.constant RX3 221 (100000)) ∈ xA := xI2 (List.mem_of_getElem? (i := 92) rfl) rfl
theorem w2_93 : (Cond.methodLink RX3 115 yX3_isWord) ∈ xA := xI2 (List.mem_of_getElem? (i := 93) rfl) rfl
theorem w2_95 : (Cond.instanceMethod yX3_isWord) ∈ xA := xI2 (List.mem_of_getElem? (i := 95) rfl) rfl
theorem w2_96 : (Cond.code yX3_isWord cX3_isWord 3 (some FieldType.boolean)) ∈ xA := xI2 (List.mem_of_getElem? (i := 96) rfl) rfl
theorem w2_97 : (Cond.methodLink RX3 80 yX3_fail) ∈ xA := xI2 (List.mem_of_getElem? (i := 97) rfl) rfl
theorem w2_99 : (Cond.instanceMethod yX3_fail) ∈ xA := xI2 (List.mem_of_getElem? (i := 99) rfl) rfl
theorem w2_100 : (Cond.code yX3_fail cX3_fail 2 (some FieldType.boolean)) ∈ xA := xI2 (List.mem_of_getElem? (i := 100) rfl) rfl
theorem w2_101 : (Cond.methodLink RX3 51 yX3_readNumber) ∈ xA := xI2 (List.mem_of_getElem? (i := 101) rfl) rfl
theorem w2_103 : (Cond.instanceMethod yX3_readNumber) ∈ xA := xI2 (List.mem_of_getElem? (i := 103) rfl) rfl
theorem w2_104 : (Cond.code yX3_readNumber cX3_readNumber 3 (some FieldType.boolean)) ∈ xA := xI2 (List.mem_of_getElem? (i := 104) rfl) rfl
theorem w2_105 : (Cond.methodLink RX3 148 yX3_isNumberFrom) ∈ xA := xI2 (List.mem_of_getElem? (i := 105) rfl) rfl
theorem w2_107 : (Cond.instanceMethod yX3_isNumberFrom) ∈ xA := xI2 (List.mem_of_getElem? (i := 107) rfl) rfl
theorem w2_108 : (Cond.code yX3_isNumberFrom cX3_isNumberFrom 3 (some FieldType.boolean)) ∈ xA := xI2 (List.mem_of_getElem? (i := 108) rfl) rfl
theorem w2_109 : (Cond.methodLink RX3 58 yX2_reset) ∈ xA := xI2 (List.mem_of_getElem? (i := 109) rfl) rfl
theorem w2_110 : (Cond.instanceMethod yX2_reset) ∈ xA := xI2 (List.mem_of_getElem? (i := 110) rfl) rfl
theorem w2_111 : (Cond.selects RX2 yX2_reset yX2_reset) ∈ xA := xI2 (List.mem_of_getElem? (i := 111) rfl) rfl
theorem w2_112 : (Cond.code yX2_reset cX2_reset 4 none) ∈ xA := xI2 (List.mem_of_getElem? (i := 112) rfl) rfl
theorem w2_113 : (Cond.methodLink RX3 64 yX3_readSemicolon) ∈ xA := xI2 (List.mem_of_getElem? (i := 113) rfl) rfl
theorem w2_115 : (Cond.instanceMethod yX3_readSemicolon) ∈ xA := xI2 (List.mem_of_getElem? (i := 115) rfl) rfl
theorem w2_116 : (Cond.code yX3_readSemicolon cX3_readSemicolon 1 (some FieldType.boolean)) ∈ xA := xI2 (List.mem_of_getElem? (i := 116) rfl) rfl
theorem w2_118 : (Cond.methodLink RX3 70 yX3_readFog) ∈ xA := xI2 (List.mem_of_getElem? (i := 118) rfl) rfl
theorem w2_120 : (Cond.instanceMethod yX3_readFog) ∈ xA := xI2 (List.mem_of_getElem? (i := 120) rfl) rfl
theorem w2_121 : (Cond.code yX3_readFog cX3_readFog 3 (some FieldType.boolean)) ∈ xA := xI2 (List.mem_of_getElem? (i := 121) rfl) rfl
theorem w2_122 : (Cond.methodLink RX3 84 yX2_addDensity) ∈ xA := xI2 (List.mem_of_getElem? (i := 122) rfl) rfl
theorem w2_123 : (Cond.instanceMethod yX2_addDensity) ∈ xA := xI2 (List.mem_of_getElem? (i := 123) rfl) rfl
theorem w2_124 : (Cond.selects RX2 yX2_addDensity yX2_addDensity) ∈ xA := xI2 (List.mem_of_getElem? (i := 124) rfl) rfl
theorem w2_125 : (Cond.code yX2_addDensity cX2_addDensity 2 none) ∈ xA := xI2 (List.mem_of_getElem? (i := 125) rfl) rfl
theorem w2_126 : (Cond.methodLink RX6 76 yX6_readCommands) ∈ xA := xI2 (List.mem_of_getElem? (i := 126) rfl) rfl
theorem w2_128 : (Cond.instanceMethod yX6_readCommands) ∈ xA := xI2 (List.mem_of_getElem? (i := 128) rfl) rfl
theorem w2_129 : (Cond.code yX6_readCommands cX6_readCommands 2 (some FieldType.int)) ∈ xA := xI2 (List.mem_of_getElem? (i := 129) rfl) rfl
theorem w2_130 : (Cond.methodLink RX6 99 yX3_readCommand) ∈ xA := xI2 (List.mem_of_getElem? (i := 130) rfl) rfl
theorem w2_131 : (Cond.instanceMethod yX3_readCommand) ∈ xA := xI2 (List.mem_of_getElem? (i := 131) rfl) rfl
theorem w2_132 : (Cond.selects RX3 yX3_readCommand yX3_readCommand) ∈ xA := xI2 (List.mem_of_getElem? (i := 132) rfl) rfl
theorem w2_133 : (Cond.code yX3_readCommand cX3_readCommand 4 (some FieldType.boolean)) ∈ xA := xI2 (List.mem_of_getElem? (i := 133) rfl) rfl
theorem w2_134 : (Cond.methodLink RX3 87 yX3_verbRead) ∈ xA := xI2 (List.mem_of_getElem? (i := 134) rfl) rfl
theorem w2_136 : (Cond.instanceMethod yX3_verbRead) ∈ xA := xI2 (List.mem_of_getElem? (i := 136) rfl) rfl
theorem w2_137 : (Cond.code yX3_verbRead cX3_verbRead 2 (some (FieldType.object "FogBellMarket$Verb"))) ∈ xA := xI2 (List.mem_of_getElem? (i := 137) rfl) rfl
theorem w2_138 : (Cond.fieldLink RX3 108 "FogBellMarket$Reader" "VERBS" "[LFogBellMarket$Verb;") ∈ xA := xI2 (List.mem_of_getElem? (i := 138) rfl) rfl
theorem w2_140 : (Cond.methodLink RX3 95 yX3_hasNoRoom) ∈ xA := xI2 (List.mem_of_getElem? (i := 140) rfl) rfl
theorem w2_142 : (Cond.instanceMethod yX3_hasNoRoom) ∈ xA := xI2 (List.mem_of_getElem? (i := 142) rfl) rfl
theorem w2_143 : (Cond.code yX3_hasNoRoom cX3_hasNoRoom 2 (some FieldType.boolean)) ∈ xA := xI2 (List.mem_of_getElem? (i := 143) rfl) rfl
theorem w2_144 : (Cond.fieldLink RX3 118 "FogBellMarket$Verb" "STALL" "LFogBellMarket$Verb;") ∈ xA := xI2 (List.mem_of_getElem? (i := 144) rfl) rfl
theorem w2_146 : (Cond.fieldLink RX3 124 "FogBellMarket$Verb" "BUYER" "LFogBellMarket$Verb;") ∈ xA := xI2 (List.mem_of_getElem? (i := 146) rfl) rfl
theorem w2_148 : (Cond.methodLink RX3 104 yX3_readArgument) ∈ xA := xI2 (List.mem_of_getElem? (i := 148) rfl) rfl
theorem w2_150 : (Cond.instanceMethod yX3_readArgument) ∈ xA := xI2 (List.mem_of_getElem? (i := 150) rfl) rfl
theorem w2_151 : (Cond.code yX3_readArgument cX3_readArgument 5 (some FieldType.boolean)) ∈ xA := xI2 (List.mem_of_getElem? (i := 151) rfl) rfl
theorem w2_152 : (Cond.methodLink RX3 130 yX3_lanternRead) ∈ xA := xI2 (List.mem_of_getElem? (i := 152) rfl) rfl
theorem w2_154 : (Cond.instanceMethod yX3_lanternRead) ∈ xA := xI2 (List.mem_of_getElem? (i := 154) rfl) rfl
theorem w2_155 : (Cond.code yX3_lanternRead cX3_lanternRead 1 (some FieldType.int)) ∈ xA := xI2 (List.mem_of_getElem? (i := 155) rfl) rfl
theorem w2_160 : (Cond.methodLink RX3 133 yX3_textureRead) ∈ xA := xI2 (List.mem_of_getElem? (i := 160) rfl) rfl
theorem w2_162 : (Cond.instanceMethod yX3_textureRead) ∈ xA := xI2 (List.mem_of_getElem? (i := 162) rfl) rfl
theorem w2_163 : (Cond.code yX3_textureRead cX3_textureRead 1 (some FieldType.int)) ∈ xA := xI2 (List.mem_of_getElem? (i := 163) rfl) rfl
theorem w2_167 : (Cond.methodLink RX3 136 yX3_keepArgument) ∈ xA := xI2 (List.mem_of_getElem? (i := 167) rfl) rfl
theorem w2_169 : (Cond.instanceMethod yX3_keepArgument) ∈ xA := xI2 (List.mem_of_getElem? (i := 169) rfl) rfl
theorem w2_170 : (Cond.code yX3_keepArgument cX3_keepArgument 3 none) ∈ xA := xI2 (List.mem_of_getElem? (i := 170) rfl) rfl
theorem w2_171 : (Cond.methodLink RX3 140 yX3_lowest) ∈ xA := xI2 (List.mem_of_getElem? (i := 171) rfl) rfl
theorem w2_172 : (Cond.static yX3_lowest) ∈ xA := xI2 (List.mem_of_getElem? (i := 172) rfl) rfl
theorem w2_173 : (Cond.code yX3_lowest cX3_lowest 1 (some FieldType.int)) ∈ xA := xI2 (List.mem_of_getElem? (i := 173) rfl) rfl
theorem w2_174 : (Cond.methodLink RX3 144 yX3_highest) ∈ xA := xI2 (List.mem_of_getElem? (i := 174) rfl) rfl
theorem w2_175 : (Cond.static yX3_highest) ∈ xA := xI2 (List.mem_of_getElem? (i := 175) rfl) rfl
theorem w2_176 : (Cond.code yX3_highest cX3_highest 2 (some FieldType.int)) ∈ xA := xI2 (List.mem_of_getElem? (i := 176) rfl) rfl
theorem w2_177 : (Cond.methodLink RX3 151 yX3_isRefusedBy) ∈ xA := xI2 (List.mem_of_getElem? (i := 177) rfl) rfl
theorem w2_179 : (Cond.instanceMethod yX3_isRefusedBy) ∈ xA := xI2 (List.mem_of_getElem? (i := 179) rfl) rfl
theorem w2_180 : (Cond.code yX3_isRefusedBy cX3_isRefusedBy 4 (some FieldType.boolean)) ∈ xA := xI2 (List.mem_of_getElem? (i := 180) rfl) rfl
theorem w2_181 : (Cond.fieldLink RX3 158 "FogBellMarket$Verb" "STOCK" "LFogBellMarket$Verb;") ∈ xA := xI2 (List.mem_of_getElem? (i := 181) rfl) rfl
theorem w2_183 : (Cond.methodLink RX3 161 yX3_argument) ∈ xA := xI2 (List.mem_of_getElem? (i := 183) rfl) rfl
theorem w2_184 : (Cond.instanceMethod yX3_argument) ∈ xA := xI2 (List.mem_of_getElem? (i := 184) rfl) rfl
theorem w2_185 : (Cond.selects RX3 yX3_argument yX3_argument) ∈ xA := xI2 (List.mem_of_getElem? (i := 185) rfl) rfl
theorem w2_186 : (Cond.code yX3_argument cX3_argument 2 (some FieldType.int)) ∈ xA := xI2 (List.mem_of_getElem? (i := 186) rfl) rfl
theorem w2_187 : (Cond.methodLink RX3 165 yX2_isStall) ∈ xA := xI2 (List.mem_of_getElem? (i := 187) rfl) rfl
theorem w2_188 : (Cond.instanceMethod yX2_isStall) ∈ xA := xI2 (List.mem_of_getElem? (i := 188) rfl) rfl
theorem w2_189 : (Cond.selects RX2 yX2_isStall yX2_isStall) ∈ xA := xI2 (List.mem_of_getElem? (i := 189) rfl) rfl
theorem w2_190 : (Cond.code yX2_isStall cX2_isStall 2 (some FieldType.boolean)) ∈ xA := xI2 (List.mem_of_getElem? (i := 190) rfl) rfl
theorem w2_191 : (Cond.methodLink RX3 172 yX4_hasRoomFor) ∈ xA := xI2 (List.mem_of_getElem? (i := 191) rfl) rfl
theorem w2_192 : (Cond.instanceMethod yX4_hasRoomFor) ∈ xA := xI2 (List.mem_of_getElem? (i := 192) rfl) rfl
theorem w2_193 : (Cond.selects RX4 yX4_hasRoomFor yX4_hasRoomFor) ∈ xA := xI2 (List.mem_of_getElem? (i := 193) rfl) rfl
theorem w2_194 : (Cond.code yX4_hasRoomFor cX4_hasRoomFor 2 (some FieldType.boolean)) ∈ xA := xI2 (List.mem_of_getElem? (i := 194) rfl) rfl
theorem w2_195 : (Cond.fieldLink RX3 177 "FogBellMarket$Verb" "BACK" "LFogBellMarket$Verb;") ∈ xA := xI2 (List.mem_of_getElem? (i := 195) rfl) rfl
theorem w2_197 : (Cond.methodLink RX3 180 yX2_isBuyer) ∈ xA := xI2 (List.mem_of_getElem? (i := 197) rfl) rfl
theorem w2_198 : (Cond.instanceMethod yX2_isBuyer) ∈ xA := xI2 (List.mem_of_getElem? (i := 198) rfl) rfl
theorem w2_199 : (Cond.selects RX2 yX2_isBuyer yX2_isBuyer) ∈ xA := xI2 (List.mem_of_getElem? (i := 199) rfl) rfl
theorem w2_200 : (Cond.code yX2_isBuyer cX2_isBuyer 2 (some FieldType.boolean)) ∈ xA := xI2 (List.mem_of_getElem? (i := 200) rfl) rfl
theorem w2_201 : (Cond.methodLink RX3 187 yX1_holds) ∈ xA := xI2 (List.mem_of_getElem? (i := 201) rfl) rfl
theorem w2_202 : (Cond.instanceMethod yX1_holds) ∈ xA := xI2 (List.mem_of_getElem? (i := 202) rfl) rfl
theorem w2_203 : (Cond.selects RX1 yX1_holds yX1_holds) ∈ xA := xI2 (List.mem_of_getElem? (i := 203) rfl) rfl
theorem w2_204 : (Cond.code yX1_holds cX1_holds 1 (some FieldType.boolean)) ∈ xA := xI2 (List.mem_of_getElem? (i := 204) rfl) rfl
theorem w2_205 : (Cond.methodLink RX6 103 yX2_perform) ∈ xA := xI2 (List.mem_of_getElem? (i := 205) rfl) rfl
theorem w2_206 : (Cond.instanceMethod yX2_perform) ∈ xA := xI2 (List.mem_of_getElem? (i := 206) rfl) rfl
theorem w2_207 : (Cond.selects RX2 yX2_perform yX2_perform) ∈ xA := xI2 (List.mem_of_getElem? (i := 207) rfl) rfl
theorem w2_208 : (Cond.code yX2_perform cX2_perform 4 none) ∈ xA := xI2 (List.mem_of_getElem? (i := 208) rfl) rfl
theorem w2_209 : (Cond.methodLink RX2 172 yX3_argument) ∈ xA := xI2 (List.mem_of_getElem? (i := 209) rfl) rfl
theorem w2_210 : (Cond.fieldLink RX2 175 "FogBellMarket$1" "$SwitchMap$FogBellMarket$Verb" "[I") ∈ xA := xI2 (List.mem_of_getElem? (i := 210) rfl) rfl
theorem w2_212 : (Cond.methodLink RX2 180 (⟨"FogBellMarket$Verb", "ordinal", "()I"⟩)) ∈ xA := xI2 (List.mem_of_getElem? (i := 212) rfl) rfl
theorem w2_213 : (Cond.sameMethod "FogBellMarket$Verb" "java/lang/Enum" "ordinal" "()I") ∈ xA := xI2 (List.mem_of_getElem? (i := 213) rfl) rfl
theorem w2_215 : (Cond.selects RX5 (⟨"FogBellMarket$Verb", "ordinal", "()I"⟩) yJx29ce0_ordinal_8abf5) ∈ xA := xI2 (List.mem_of_getElem? (i := 215) rfl) rfl
theorem w2_216 : (Cond.instanceMethod yJx29ce0_ordinal_8abf5) ∈ xA := xI2 (List.mem_of_getElem? (i := 216) rfl) rfl
theorem w2_217 : (Cond.code yJx29ce0_ordinal_8abf5 cJx29ce0_ordinal_8abf5 1 (some FieldType.int)) ∈ xA := xI2 (List.mem_of_getElem? (i := 217) rfl) rfl
theorem w2_218 : (Cond.methodLink RX2 185 yX2_placeStall) ∈ xA := xI2 (List.mem_of_getElem? (i := 218) rfl) rfl
theorem w2_219 : (Cond.instanceMethod yX2_placeStall) ∈ xA := xI2 (List.mem_of_getElem? (i := 219) rfl) rfl
theorem w2_220 : (Cond.selects RX2 yX2_placeStall yX2_placeStall) ∈ xA := xI2 (List.mem_of_getElem? (i := 220) rfl) rfl
theorem w2_221 : (Cond.code yX2_placeStall cX2_placeStall 7 (some FieldType.int)) ∈ xA := xI2 (List.mem_of_getElem? (i := 221) rfl) rfl
theorem w2_222 : (Cond.methodLink RX2 104 yX4_reset) ∈ xA := xI2 (List.mem_of_getElem? (i := 222) rfl) rfl
theorem w2_223 : (Cond.instanceMethod yX4_reset) ∈ xA := xI2 (List.mem_of_getElem? (i := 223) rfl) rfl
theorem w2_224 : (Cond.selects RX4 yX4_reset yX4_reset) ∈ xA := xI2 (List.mem_of_getElem? (i := 224) rfl) rfl
theorem w2_225 : (Cond.code yX4_reset cX4_reset 5 none) ∈ xA := xI2 (List.mem_of_getElem? (i := 225) rfl) rfl
theorem w2_226 : (Cond.methodLink RX2 108 yX4_receive) ∈ xA := xI2 (List.mem_of_getElem? (i := 226) rfl) rfl
theorem w2_227 : (Cond.instanceMethod yX4_receive) ∈ xA := xI2 (List.mem_of_getElem? (i := 227) rfl) rfl
theorem w2_228 : (Cond.selects RX4 yX4_receive yX4_receive) ∈ xA := xI2 (List.mem_of_getElem? (i := 228) rfl) rfl
theorem w2_229 : (Cond.code yX4_receive cX4_receive 2 none) ∈ xA := xI2 (List.mem_of_getElem? (i := 229) rfl) rfl
theorem w2_230 : (Cond.methodLink RX2 189 yX2_placeBuyer) ∈ xA := xI2 (List.mem_of_getElem? (i := 230) rfl) rfl
theorem w2_231 : (Cond.instanceMethod yX2_placeBuyer) ∈ xA := xI2 (List.mem_of_getElem? (i := 231) rfl) rfl
theorem w2_232 : (Cond.selects RX2 yX2_placeBuyer yX2_placeBuyer) ∈ xA := xI2 (List.mem_of_getElem? (i := 232) rfl) rfl
theorem w2_233 : (Cond.code yX2_placeBuyer cX2_placeBuyer 6 (some FieldType.int)) ∈ xA := xI2 (List.mem_of_getElem? (i := 233) rfl) rfl
theorem w2_234 : (Cond.methodLink RX2 112 yX1_reset) ∈ xA := xI2 (List.mem_of_getElem? (i := 234) rfl) rfl
theorem w2_235 : (Cond.instanceMethod yX1_reset) ∈ xA := xI2 (List.mem_of_getElem? (i := 235) rfl) rfl
theorem w2_236 : (Cond.selects RX1 yX1_reset yX1_reset) ∈ xA := xI2 (List.mem_of_getElem? (i := 236) rfl) rfl
theorem w2_237 : (Cond.code yX1_reset cX1_reset 5 none) ∈ xA := xI2 (List.mem_of_getElem? (i := 237) rfl) rfl
theorem w2_238 : (Cond.methodLink RX2 193 yX2_isBuyer) ∈ xA := xI2 (List.mem_of_getElem? (i := 238) rfl) rfl
theorem w2_239 : (Cond.methodLink RX2 196 yX2_returnAndAvoid) ∈ xA := xI2 (List.mem_of_getElem? (i := 239) rfl) rfl
theorem w3_0 : (Cond.instanceMethod yX2_returnAndAvoid) ∈ xA := xI3 (List.mem_of_getElem? (i := 0) rfl) rfl
theorem w3_1 : (Cond.selects RX2 yX2_returnAndAvoid yX2_returnAndAvoid) ∈ xA := xI3 (List.mem_of_getElem? (i := 1) rfl) rfl
theorem w3_2 : (Cond.code yX2_returnAndAvoid cX2_returnAndAvoid 3 none) ∈ xA := xI3 (List.mem_of_getElem? (i := 2) rfl) rfl
theorem w3_3 : (Cond.methodLink RX2 122 yX2_returnGood) ∈ xA := xI3 (List.mem_of_getElem? (i := 3) rfl) rfl
theorem w3_4 : (Cond.instanceMethod yX2_returnGood) ∈ xA := xI3 (List.mem_of_getElem? (i := 4) rfl) rfl
theorem w3_5 : (Cond.selects RX2 yX2_returnGood yX2_returnGood) ∈ xA := xI3 (List.mem_of_getElem? (i := 5) rfl) rfl
theorem w3_6 : (Cond.code yX2_returnGood cX2_returnGood 2 none) ∈ xA := xI3 (List.mem_of_getElem? (i := 6) rfl) rfl
theorem w3_7 : (Cond.methodLink RX2 113 yX2_isStall) ∈ xA := xI3 (List.mem_of_getElem? (i := 7) rfl) rfl
theorem w3_8 : (Cond.methodLink RX2 119 yX1_letGo) ∈ xA := xI3 (List.mem_of_getElem? (i := 8) rfl) rfl
theorem w3_9 : (Cond.instanceMethod yX1_letGo) ∈ xA := xI3 (List.mem_of_getElem? (i := 9) rfl) rfl
theorem w3_10 : (Cond.selects RX1 yX1_letGo yX1_letGo) ∈ xA := xI3 (List.mem_of_getElem? (i := 10) rfl) rfl
theorem w3_11 : (Cond.code yX1_letGo cX1_letGo 1 none) ∈ xA := xI3 (List.mem_of_getElem? (i := 11) rfl) rfl
theorem w3_12 : (Cond.methodLink RX2 125 yX1_avoid) ∈ xA := xI3 (List.mem_of_getElem? (i := 12) rfl) rfl
theorem w3_13 : (Cond.instanceMethod yX1_avoid) ∈ xA := xI3 (List.mem_of_getElem? (i := 13) rfl) rfl
theorem w3_14 : (Cond.selects RX1 yX1_avoid yX1_avoid) ∈ xA := xI3 (List.mem_of_getElem? (i := 14) rfl) rfl
theorem w3_15 : (Cond.code yX1_avoid cX1_avoid 2 none) ∈ xA := xI3 (List.mem_of_getElem? (i := 15) rfl) rfl
theorem w3_16 : (Cond.methodLink RX2 199 yX2_pass) ∈ xA := xI3 (List.mem_of_getElem? (i := 16) rfl) rfl
theorem w3_17 : (Cond.instanceMethod yX2_pass) ∈ xA := xI3 (List.mem_of_getElem? (i := 17) rfl) rfl
theorem w3_18 : (Cond.selects RX2 yX2_pass yX2_pass) ∈ xA := xI3 (List.mem_of_getElem? (i := 18) rfl) rfl
theorem w3_19 : (Cond.code yX2_pass cX2_pass 5 none) ∈ xA := xI3 (List.mem_of_getElem? (i := 19) rfl) rfl
theorem w3_20 : (Cond.methodLink RX2 128 yX2_densityNow) ∈ xA := xI3 (List.mem_of_getElem? (i := 20) rfl) rfl
theorem w3_21 : (Cond.instanceMethod yX2_densityNow) ∈ xA := xI3 (List.mem_of_getElem? (i := 21) rfl) rfl
theorem w3_22 : (Cond.selects RX2 yX2_densityNow yX2_densityNow) ∈ xA := xI3 (List.mem_of_getElem? (i := 22) rfl) rfl
theorem w3_23 : (Cond.code yX2_densityNow cX2_densityNow 1 (some FieldType.int)) ∈ xA := xI3 (List.mem_of_getElem? (i := 23) rfl) rfl
theorem w3_24 : (Cond.methodLink RX2 71 yX2_densityIn) ∈ xA := xI3 (List.mem_of_getElem? (i := 24) rfl) rfl
theorem w3_25 : (Cond.instanceMethod yX2_densityIn) ∈ xA := xI3 (List.mem_of_getElem? (i := 25) rfl) rfl
theorem w3_26 : (Cond.selects RX2 yX2_densityIn yX2_densityIn) ∈ xA := xI3 (List.mem_of_getElem? (i := 26) rfl) rfl
theorem w3_27 : (Cond.code yX2_densityIn cX2_densityIn 2 (some FieldType.int)) ∈ xA := xI3 (List.mem_of_getElem? (i := 27) rfl) rfl
theorem w3_28 : (Cond.methodLink RX2 132 yX2_moveBell) ∈ xA := xI3 (List.mem_of_getElem? (i := 28) rfl) rfl
theorem w3_29 : (Cond.instanceMethod yX2_moveBell) ∈ xA := xI3 (List.mem_of_getElem? (i := 29) rfl) rfl
theorem w3_30 : (Cond.selects RX2 yX2_moveBell yX2_moveBell) ∈ xA := xI3 (List.mem_of_getElem? (i := 30) rfl) rfl
theorem w3_31 : (Cond.code yX2_moveBell cX2_moveBell 4 none) ∈ xA := xI3 (List.mem_of_getElem? (i := 31) rfl) rfl
theorem w3_32 : (Cond.methodLink RX2 135 yX2_letAct) ∈ xA := xI3 (List.mem_of_getElem? (i := 32) rfl) rfl
theorem w3_34 : (Cond.instanceMethod yX2_letAct) ∈ xA := xI3 (List.mem_of_getElem? (i := 34) rfl) rfl
theorem w3_35 : (Cond.code yX2_letAct cX2_letAct 5 none) ∈ xA := xI3 (List.mem_of_getElem? (i := 35) rfl) rfl
theorem w3_36 : (Cond.methodLink RX2 148 yX1_walkTo) ∈ xA := xI3 (List.mem_of_getElem? (i := 36) rfl) rfl
theorem w3_37 : (Cond.instanceMethod yX1_walkTo) ∈ xA := xI3 (List.mem_of_getElem? (i := 37) rfl) rfl
theorem w3_38 : (Cond.selects RX1 yX1_walkTo yX1_walkTo) ∈ xA := xI3 (List.mem_of_getElem? (i := 38) rfl) rfl
theorem w3_39 : (Cond.code yX1_walkTo cX1_walkTo 2 none) ∈ xA := xI3 (List.mem_of_getElem? (i := 39) rfl) rfl
theorem w3_40 : (Cond.methodLink RX2 151 yX1_payTo) ∈ xA := xI3 (List.mem_of_getElem? (i := 40) rfl) rfl
theorem w3_41 : (Cond.instanceMethod yX1_payTo) ∈ xA := xI3 (List.mem_of_getElem? (i := 41) rfl) rfl
theorem w3_42 : (Cond.selects RX1 yX1_payTo yX1_payTo) ∈ xA := xI3 (List.mem_of_getElem? (i := 42) rfl) rfl
theorem w3_43 : (Cond.code yX1_payTo cX1_payTo 2 none) ∈ xA := xI3 (List.mem_of_getElem? (i := 43) rfl) rfl
theorem w3_44 : (Cond.methodLink RX1 53 yX1_letGo) ∈ xA := xI3 (List.mem_of_getElem? (i := 44) rfl) rfl
theorem w3_45 : (Cond.methodLink RX2 154 yX2_findTarget) ∈ xA := xI3 (List.mem_of_getElem? (i := 45) rfl) rfl
theorem w3_46 : (Cond.instanceMethod yX2_findTarget) ∈ xA := xI3 (List.mem_of_getElem? (i := 46) rfl) rfl
theorem w3_47 : (Cond.selects RX2 yX2_findTarget yX2_findTarget) ∈ xA := xI3 (List.mem_of_getElem? (i := 47) rfl) rfl
theorem w3_48 : (Cond.code yX2_findTarget cX2_findTarget 8 (some FieldType.int)) ∈ xA := xI3 (List.mem_of_getElem? (i := 48) rfl) rfl
theorem w3_49 : (Cond.methodLink RX2 88 yJ9_abs_0f7a4) ∈ xA := xI3 (List.mem_of_getElem? (i := 49) rfl) rfl
theorem w3_50 : (Cond.static yJ9_abs_0f7a4) ∈ xA := xI3 (List.mem_of_getElem? (i := 50) rfl) rfl
theorem w3_51 : (Cond.code yJ9_abs_0f7a4 cJ9_abs_0f7a4 1 (some FieldType.int)) ∈ xA := xI3 (List.mem_of_getElem? (i := 51) rfl) rfl
theorem w3_52 : (Cond.methodLink RX2 96 yX4_paces) ∈ xA := xI3 (List.mem_of_getElem? (i := 52) rfl) rfl
theorem w3_53 : (Cond.static yX4_paces) ∈ xA := xI3 (List.mem_of_getElem? (i := 53) rfl) rfl
theorem w3_54 : (Cond.code yX4_paces cX4_paces 2 (some FieldType.int)) ∈ xA := xI3 (List.mem_of_getElem? (i := 54) rfl) rfl
theorem w3_55 : (Cond.methodLink RX2 100 yX1_avoids) ∈ xA := xI3 (List.mem_of_getElem? (i := 55) rfl) rfl
theorem w3_56 : (Cond.instanceMethod yX1_avoids) ∈ xA := xI3 (List.mem_of_getElem? (i := 56) rfl) rfl
theorem w3_57 : (Cond.selects RX1 yX1_avoids yX1_avoids) ∈ xA := xI3 (List.mem_of_getElem? (i := 57) rfl) rfl
theorem w3_58 : (Cond.code yX1_avoids cX1_avoids 2 (some FieldType.boolean)) ∈ xA := xI3 (List.mem_of_getElem? (i := 58) rfl) rfl
theorem w3_59 : (Cond.methodLink RX2 158 yX1_feel) ∈ xA := xI3 (List.mem_of_getElem? (i := 59) rfl) rfl
theorem w3_60 : (Cond.instanceMethod yX1_feel) ∈ xA := xI3 (List.mem_of_getElem? (i := 60) rfl) rfl
theorem w3_61 : (Cond.selects RX1 yX1_feel yX1_feel) ∈ xA := xI3 (List.mem_of_getElem? (i := 61) rfl) rfl
theorem w3_62 : (Cond.code yX1_feel cX1_feel 2 (some FieldType.int)) ∈ xA := xI3 (List.mem_of_getElem? (i := 62) rfl) rfl
theorem w3_63 : (Cond.methodLink RX2 162 yX1_take) ∈ xA := xI3 (List.mem_of_getElem? (i := 63) rfl) rfl
theorem w3_64 : (Cond.instanceMethod yX1_take) ∈ xA := xI3 (List.mem_of_getElem? (i := 64) rfl) rfl
theorem w3_65 : (Cond.selects RX1 yX1_take yX1_take) ∈ xA := xI3 (List.mem_of_getElem? (i := 65) rfl) rfl
theorem w3_66 : (Cond.code yX1_take cX1_take 3 none) ∈ xA := xI3 (List.mem_of_getElem? (i := 66) rfl) rfl
theorem w3_67 : (Cond.methodLink RX2 139 yX4_letMistIn) ∈ xA := xI3 (List.mem_of_getElem? (i := 67) rfl) rfl
theorem w3_68 : (Cond.instanceMethod yX4_letMistIn) ∈ xA := xI3 (List.mem_of_getElem? (i := 68) rfl) rfl
theorem w3_69 : (Cond.selects RX4 yX4_letMistIn yX4_letMistIn) ∈ xA := xI3 (List.mem_of_getElem? (i := 69) rfl) rfl
theorem w3_70 : (Cond.code yX4_letMistIn cX4_letMistIn 2 none) ∈ xA := xI3 (List.mem_of_getElem? (i := 70) rfl) rfl
theorem w3_71 : (Cond.methodLink RX4 49 yX4_guardedDensity) ∈ xA := xI3 (List.mem_of_getElem? (i := 71) rfl) rfl
theorem w3_73 : (Cond.instanceMethod yX4_guardedDensity) ∈ xA := xI3 (List.mem_of_getElem? (i := 73) rfl) rfl
theorem w3_74 : (Cond.code yX4_guardedDensity cX4_guardedDensity 1 (some FieldType.int)) ∈ xA := xI3 (List.mem_of_getElem? (i := 74) rfl) rfl
theorem w3_75 : (Cond.methodLink RX2 142 yX2_countMinute) ∈ xA := xI3 (List.mem_of_getElem? (i := 75) rfl) rfl
theorem w3_76 : (Cond.instanceMethod yX2_countMinute) ∈ xA := xI3 (List.mem_of_getElem? (i := 76) rfl) rfl
theorem w3_77 : (Cond.selects RX2 yX2_countMinute yX2_countMinute) ∈ xA := xI3 (List.mem_of_getElem? (i := 77) rfl) rfl
theorem w3_78 : (Cond.code yX2_countMinute cX2_countMinute 1 none) ∈ xA := xI3 (List.mem_of_getElem? (i := 78) rfl) rfl
theorem w3_79 : (Cond.methodLink RX2 202 yX2_changeStall) ∈ xA := xI3 (List.mem_of_getElem? (i := 79) rfl) rfl
theorem w3_80 : (Cond.static yX2_changeStall) ∈ xA := xI3 (List.mem_of_getElem? (i := 80) rfl) rfl
theorem w3_81 : (Cond.code yX2_changeStall cX2_changeStall 3 none) ∈ xA := xI3 (List.mem_of_getElem? (i := 81) rfl) rfl
theorem w3_82 : (Cond.methodLink RX6 80 yX3_clear) ∈ xA := xI3 (List.mem_of_getElem? (i := 82) rfl) rfl
theorem w3_83 : (Cond.instanceMethod yX3_clear) ∈ xA := xI3 (List.mem_of_getElem? (i := 83) rfl) rfl
theorem w3_84 : (Cond.selects RX3 yX3_clear yX3_clear) ∈ xA := xI3 (List.mem_of_getElem? (i := 84) rfl) rfl
theorem w3_85 : (Cond.code yX3_clear cX3_clear 1 none) ∈ xA := xI3 (List.mem_of_getElem? (i := 85) rfl) rfl
theorem w3_86 : (Cond.methodLink RX6 69 yX2_copyFrom) ∈ xA := xI3 (List.mem_of_getElem? (i := 86) rfl) rfl
theorem w3_87 : (Cond.instanceMethod yX2_copyFrom) ∈ xA := xI3 (List.mem_of_getElem? (i := 87) rfl) rfl
theorem w3_88 : (Cond.selects RX2 yX2_copyFrom yX2_copyFrom) ∈ xA := xI3 (List.mem_of_getElem? (i := 88) rfl) rfl
theorem w3_89 : (Cond.code yX2_copyFrom cX2_copyFrom 3 none) ∈ xA := xI3 (List.mem_of_getElem? (i := 89) rfl) rfl
theorem w3_90 : (Cond.methodLink RX2 64 yX4_copyFrom) ∈ xA := xI3 (List.mem_of_getElem? (i := 90) rfl) rfl
theorem w3_91 : (Cond.instanceMethod yX4_copyFrom) ∈ xA := xI3 (List.mem_of_getElem? (i := 91) rfl) rfl
theorem w3_92 : (Cond.selects RX4 yX4_copyFrom yX4_copyFrom) ∈ xA := xI3 (List.mem_of_getElem? (i := 92) rfl) rfl
theorem w3_93 : (Cond.code yX4_copyFrom cX4_copyFrom 2 none) ∈ xA := xI3 (List.mem_of_getElem? (i := 93) rfl) rfl
theorem w3_94 : (Cond.methodLink RX2 68 yX1_copyFrom) ∈ xA := xI3 (List.mem_of_getElem? (i := 94) rfl) rfl
theorem w3_95 : (Cond.instanceMethod yX1_copyFrom) ∈ xA := xI3 (List.mem_of_getElem? (i := 95) rfl) rfl
theorem w3_96 : (Cond.selects RX1 yX1_copyFrom yX1_copyFrom) ∈ xA := xI3 (List.mem_of_getElem? (i := 96) rfl) rfl
theorem w3_97 : (Cond.code yX1_copyFrom cX1_copyFrom 2 none) ∈ xA := xI3 (List.mem_of_getElem? (i := 97) rfl) rfl
theorem w3_98 : (Cond.methodLink RX6 96 yX6_forgetChanges) ∈ xA := xI3 (List.mem_of_getElem? (i := 98) rfl) rfl
theorem w3_100 : (Cond.instanceMethod yX6_forgetChanges) ∈ xA := xI3 (List.mem_of_getElem? (i := 100) rfl) rfl
theorem w3_101 : (Cond.code yX6_forgetChanges cX6_forgetChanges 1 none) ∈ xA := xI3 (List.mem_of_getElem? (i := 101) rfl) rfl
theorem w3_102 : (Cond.fieldLink RX6 10 "FogBellMarket" "market" "LFogBellMarket$Market;") ∈ xA := xI3 (List.mem_of_getElem? (i := 102) rfl) rfl
theorem w3_103 : (Cond.fieldLink RX6 16 "FogBellMarket" "draft" "LFogBellMarket$Market;") ∈ xA := xI3 (List.mem_of_getElem? (i := 103) rfl) rfl
theorem w3_104 : (Cond.fieldLink RX6 19 "FogBellMarket" "probe" "LFogBellMarket$Market;") ∈ xA := xI3 (List.mem_of_getElem? (i := 104) rfl) rfl
theorem w3_105 : (Cond.fieldLink RX6 25 "FogBellMarket" "reader" "LFogBellMarket$Reader;") ∈ xA := xI3 (List.mem_of_getElem? (i := 105) rfl) rfl
theorem w3_106 : (Cond.fieldLink RX6 29 "FogBellMarket" "past" "[LFogBellMarket$Market;") ∈ xA := xI3 (List.mem_of_getElem? (i := 106) rfl) rfl
theorem w3_107 : (Cond.fieldLink RX6 318 "FogBellMarket" "pastNext" "I") ∈ xA := xI3 (List.mem_of_getElem? (i := 107) rfl) rfl
theorem w3_108 : (Cond.fieldLink RX6 119 "FogBellMarket" "pastCount" "I") ∈ xA := xI3 (List.mem_of_getElem? (i := 108) rfl) rfl
theorem w3_109 : (Cond.fieldLink RX6 33 "FogBellMarket" "saved" "[LFogBellMarket$Market;") ∈ xA := xI3 (List.mem_of_getElem? (i := 109) rfl) rfl
theorem w3_110 : (Cond.fieldLink RX6 36 "FogBellMarket" "hasSaved" "[Z") ∈ xA := xI3 (List.mem_of_getElem? (i := 110) rfl) rfl
theorem w3_111 : (Cond.fieldLink RX6 40 "FogBellMarket" "output" "[B") ∈ xA := xI3 (List.mem_of_getElem? (i := 111) rfl) rfl
theorem w3_112 : (Cond.fieldLink RX6 335 "FogBellMarket" "outputLength" "I") ∈ xA := xI3 (List.mem_of_getElem? (i := 112) rfl) rfl
theorem w3_113 : (Cond.laysFinal RX6 "FogBellMarket" "market" "LFogBellMarket$Market;") ∈ xA := xI3 (List.mem_of_getElem? (i := 113) rfl) rfl
theorem w3_115 : (Cond.laysFinal RX6 "FogBellMarket" "draft" "LFogBellMarket$Market;") ∈ xA := xI3 (List.mem_of_getElem? (i := 115) rfl) rfl
theorem w3_117 : (Cond.laysFinal RX6 "FogBellMarket" "probe" "LFogBellMarket$Market;") ∈ xA := xI3 (List.mem_of_getElem? (i := 117) rfl) rfl
theorem w3_119 : (Cond.laysFinal RX6 "FogBellMarket" "reader" "LFogBellMarket$Reader;") ∈ xA := xI3 (List.mem_of_getElem? (i := 119) rfl) rfl
theorem w3_121 : (Cond.laysFinal RX6 "FogBellMarket" "past" "[LFogBellMarket$Market;") ∈ xA := xI3 (List.mem_of_getElem? (i := 121) rfl) rfl
theorem w3_123 : (Cond.lays RX6 "FogBellMarket" "pastNext" "I") ∈ xA := xI3 (List.mem_of_getElem? (i := 123) rfl) rfl
theorem w3_125 : (Cond.lays RX6 "FogBellMarket" "pastCount" "I") ∈ xA := xI3 (List.mem_of_getElem? (i := 125) rfl) rfl
theorem w3_127 : (Cond.laysFinal RX6 "FogBellMarket" "saved" "[LFogBellMarket$Market;") ∈ xA := xI3 (List.mem_of_getElem? (i := 127) rfl) rfl
theorem w3_129 : (Cond.laysFinal RX6 "FogBellMarket" "hasSaved" "[Z") ∈ xA := xI3 (List.mem_of_getElem? (i := 129) rfl) rfl
theorem w3_131 : (Cond.laysFinal RX6 "FogBellMarket" "output" "[B") ∈ xA := xI3 (List.mem_of_getElem? (i := 131) rfl) rfl
theorem w3_133 : (Cond.lays RX6 "FogBellMarket" "outputLength" "I") ∈ xA := xI3 (List.mem_of_getElem? (i := 133) rfl) rfl
theorem w3_136 : (Cond.arrayClass FieldType.boolean) ∈ xA := xI3 (List.mem_of_getElem? (i := 136) rfl) rfl
theorem w3_137 : (Cond.methodLink RL 140 yX6_feed) ∈ xA := xI3 (List.mem_of_getElem? (i := 137) rfl) rfl
theorem w3_138 : (Cond.instanceMethod yX6_feed) ∈ xA := xI3 (List.mem_of_getElem? (i := 138) rfl) rfl
theorem w3_139 : (Cond.selects RX6 yX6_feed yX6_feed) ∈ xA := xI3 (List.mem_of_getElem? (i := 139) rfl) rfl
theorem w3_140 : (Cond.code yX6_feed cX6_feed 7 (some FieldType.int)) ∈ xA := xI3 (List.mem_of_getElem? (i := 140) rfl) rfl
theorem w3_141 : (Cond.methodLink RX6 54 yX6_bytesIn) ∈ xA := xI3 (List.mem_of_getElem? (i := 141) rfl) rfl
theorem w3_142 : (Cond.static yX6_bytesIn) ∈ xA := xI3 (List.mem_of_getElem? (i := 142) rfl) rfl
theorem w3_143 : (Cond.code yX6_bytesIn cX6_bytesIn 3 (some FieldType.int)) ∈ xA := xI3 (List.mem_of_getElem? (i := 143) rfl) rfl
theorem w3_144 : (Cond.methodLink RX6 62 yX3_appendWord) ∈ xA := xI3 (List.mem_of_getElem? (i := 144) rfl) rfl
theorem w3_145 : (Cond.instanceMethod yX3_appendWord) ∈ xA := xI3 (List.mem_of_getElem? (i := 145) rfl) rfl
theorem w3_146 : (Cond.selects RX3 yX3_appendWord yX3_appendWord) ∈ xA := xI3 (List.mem_of_getElem? (i := 146) rfl) rfl
theorem w3_147 : (Cond.code yX3_appendWord cX3_appendWord 4 none) ∈ xA := xI3 (List.mem_of_getElem? (i := 147) rfl) rfl
theorem w3_148 : (Cond.methodLink RL 144 yX6_loadSetup) ∈ xA := xI3 (List.mem_of_getElem? (i := 148) rfl) rfl
theorem w3_149 : (Cond.instanceMethod yX6_loadSetup) ∈ xA := xI3 (List.mem_of_getElem? (i := 149) rfl) rfl
theorem w3_150 : (Cond.selects RX6 yX6_loadSetup yX6_loadSetup) ∈ xA := xI3 (List.mem_of_getElem? (i := 150) rfl) rfl
theorem w3_151 : (Cond.code yX6_loadSetup cX6_loadSetup 1 (some FieldType.int)) ∈ xA := xI3 (List.mem_of_getElem? (i := 151) rfl) rfl
theorem w3_152 : (Cond.methodLink RL 148 yX6_runScript) ∈ xA := xI3 (List.mem_of_getElem? (i := 152) rfl) rfl
theorem w3_153 : (Cond.instanceMethod yX6_runScript) ∈ xA := xI3 (List.mem_of_getElem? (i := 153) rfl) rfl
theorem w3_154 : (Cond.selects RX6 yX6_runScript yX6_runScript) ∈ xA := xI3 (List.mem_of_getElem? (i := 154) rfl) rfl
theorem w3_155 : (Cond.code yX6_runScript cX6_runScript 2 (some FieldType.int)) ∈ xA := xI3 (List.mem_of_getElem? (i := 155) rfl) rfl
theorem w3_156 : (Cond.methodLink RX6 83 yX6_remember) ∈ xA := xI3 (List.mem_of_getElem? (i := 156) rfl) rfl
theorem w3_158 : (Cond.instanceMethod yX6_remember) ∈ xA := xI3 (List.mem_of_getElem? (i := 158) rfl) rfl
theorem w3_159 : (Cond.code yX6_remember cX6_remember 1 none) ∈ xA := xI3 (List.mem_of_getElem? (i := 159) rfl) rfl
theorem w3_160 : (Cond.methodLink RX6 321 yJ9_min_7cf53) ∈ xA := xI3 (List.mem_of_getElem? (i := 160) rfl) rfl
theorem w3_161 : (Cond.static yJ9_min_7cf53) ∈ xA := xI3 (List.mem_of_getElem? (i := 161) rfl) rfl
theorem w3_162 : (Cond.code yJ9_min_7cf53 cJ9_min_7cf53 2 (some FieldType.int)) ∈ xA := xI3 (List.mem_of_getElem? (i := 162) rfl) rfl
theorem w3_163 : (Cond.methodLink RL 152 yX6_errorCode) ∈ xA := xI3 (List.mem_of_getElem? (i := 163) rfl) rfl
theorem w3_164 : (Cond.instanceMethod yX6_errorCode) ∈ xA := xI3 (List.mem_of_getElem? (i := 164) rfl) rfl
theorem w3_165 : (Cond.selects RX6 yX6_errorCode yX6_errorCode) ∈ xA := xI3 (List.mem_of_getElem? (i := 165) rfl) rfl
theorem w3_166 : (Cond.code yX6_errorCode cX6_errorCode 1 (some FieldType.int)) ∈ xA := xI3 (List.mem_of_getElem? (i := 166) rfl) rfl
theorem w3_167 : (Cond.methodLink RL 156 yX6_errorPosition) ∈ xA := xI3 (List.mem_of_getElem? (i := 167) rfl) rfl
theorem w3_168 : (Cond.instanceMethod yX6_errorPosition) ∈ xA := xI3 (List.mem_of_getElem? (i := 168) rfl) rfl
theorem w3_169 : (Cond.selects RX6 yX6_errorPosition yX6_errorPosition) ∈ xA := xI3 (List.mem_of_getElem? (i := 169) rfl) rfl
theorem w3_170 : (Cond.code yX6_errorPosition cX6_errorPosition 1 (some FieldType.int)) ∈ xA := xI3 (List.mem_of_getElem? (i := 170) rfl) rfl
theorem w3_171 : (Cond.methodLink RL 160 yX6_minute) ∈ xA := xI3 (List.mem_of_getElem? (i := 171) rfl) rfl
theorem w3_172 : (Cond.instanceMethod yX6_minute) ∈ xA := xI3 (List.mem_of_getElem? (i := 172) rfl) rfl
theorem w3_173 : (Cond.selects RX6 yX6_minute yX6_minute) ∈ xA := xI3 (List.mem_of_getElem? (i := 173) rfl) rfl
theorem w3_174 : (Cond.code yX6_minute cX6_minute 1 (some FieldType.int)) ∈ xA := xI3 (List.mem_of_getElem? (i := 174) rfl) rfl
theorem w3_175 : (Cond.methodLink RL 164 yX6_bellPosition) ∈ xA := xI3 (List.mem_of_getElem? (i := 175) rfl) rfl
theorem w3_176 : (Cond.instanceMethod yX6_bellPosition) ∈ xA := xI3 (List.mem_of_getElem? (i := 176) rfl) rfl
theorem w3_177 : (Cond.selects RX6 yX6_bellPosition yX6_bellPosition) ∈ xA := xI3 (List.mem_of_getElem? (i := 177) rfl) rfl
theorem w3_178 : (Cond.code yX6_bellPosition cX6_bellPosition 1 (some FieldType.int)) ∈ xA := xI3 (List.mem_of_getElem? (i := 178) rfl) rfl
theorem w3_179 : (Cond.methodLink RL 168 yX6_threshold) ∈ xA := xI3 (List.mem_of_getElem? (i := 179) rfl) rfl
theorem w3_180 : (Cond.instanceMethod yX6_threshold) ∈ xA := xI3 (List.mem_of_getElem? (i := 180) rfl) rfl
theorem w3_181 : (Cond.selects RX6 yX6_threshold yX6_threshold) ∈ xA := xI3 (List.mem_of_getElem? (i := 181) rfl) rfl
theorem w3_182 : (Cond.code yX6_threshold cX6_threshold 1 (some FieldType.int)) ∈ xA := xI3 (List.mem_of_getElem? (i := 182) rfl) rfl
theorem w3_183 : (Cond.methodLink RL 172 yX6_duration) ∈ xA := xI3 (List.mem_of_getElem? (i := 183) rfl) rfl
theorem w3_184 : (Cond.instanceMethod yX6_duration) ∈ xA := xI3 (List.mem_of_getElem? (i := 184) rfl) rfl
theorem w3_185 : (Cond.selects RX6 yX6_duration yX6_duration) ∈ xA := xI3 (List.mem_of_getElem? (i := 185) rfl) rfl
theorem w3_186 : (Cond.code yX6_duration cX6_duration 1 (some FieldType.int)) ∈ xA := xI3 (List.mem_of_getElem? (i := 186) rfl) rfl
theorem w3_187 : (Cond.methodLink RL 176 yX6_undoCount) ∈ xA := xI3 (List.mem_of_getElem? (i := 187) rfl) rfl
theorem w3_188 : (Cond.instanceMethod yX6_undoCount) ∈ xA := xI3 (List.mem_of_getElem? (i := 188) rfl) rfl
theorem w3_189 : (Cond.selects RX6 yX6_undoCount yX6_undoCount) ∈ xA := xI3 (List.mem_of_getElem? (i := 189) rfl) rfl
theorem w3_190 : (Cond.code yX6_undoCount cX6_undoCount 1 (some FieldType.int)) ∈ xA := xI3 (List.mem_of_getElem? (i := 190) rfl) rfl
theorem w3_191 : (Cond.methodLink RL 189 yX6_isOpen) ∈ xA := xI3 (List.mem_of_getElem? (i := 191) rfl) rfl
theorem w3_192 : (Cond.instanceMethod yX6_isOpen) ∈ xA := xI3 (List.mem_of_getElem? (i := 192) rfl) rfl
theorem w3_193 : (Cond.selects RX6 yX6_isOpen yX6_isOpen) ∈ xA := xI3 (List.mem_of_getElem? (i := 193) rfl) rfl
theorem w3_194 : (Cond.code yX6_isOpen cX6_isOpen 1 (some FieldType.boolean)) ∈ xA := xI3 (List.mem_of_getElem? (i := 194) rfl) rfl
theorem w3_195 : (Cond.methodLink RL 194 yX6_isReady) ∈ xA := xI3 (List.mem_of_getElem? (i := 195) rfl) rfl
theorem w3_196 : (Cond.instanceMethod yX6_isReady) ∈ xA := xI3 (List.mem_of_getElem? (i := 196) rfl) rfl
theorem w3_197 : (Cond.selects RX6 yX6_isReady yX6_isReady) ∈ xA := xI3 (List.mem_of_getElem? (i := 197) rfl) rfl
theorem w3_198 : (Cond.code yX6_isReady cX6_isReady 1 (some FieldType.boolean)) ∈ xA := xI3 (List.mem_of_getElem? (i := 198) rfl) rfl
theorem w3_199 : (Cond.methodLink RL 198 yX6_openMinutes) ∈ xA := xI3 (List.mem_of_getElem? (i := 199) rfl) rfl
theorem w3_200 : (Cond.instanceMethod yX6_openMinutes) ∈ xA := xI3 (List.mem_of_getElem? (i := 200) rfl) rfl
theorem w3_201 : (Cond.selects RX6 yX6_openMinutes yX6_openMinutes) ∈ xA := xI3 (List.mem_of_getElem? (i := 201) rfl) rfl
theorem w3_202 : (Cond.code yX6_openMinutes cX6_openMinutes 1 (some FieldType.int)) ∈ xA := xI3 (List.mem_of_getElem? (i := 202) rfl) rfl
theorem w3_203 : (Cond.methodLink RL 202 yX6_ringings) ∈ xA := xI3 (List.mem_of_getElem? (i := 203) rfl) rfl
theorem w3_204 : (Cond.instanceMethod yX6_ringings) ∈ xA := xI3 (List.mem_of_getElem? (i := 204) rfl) rfl
theorem w3_205 : (Cond.selects RX6 yX6_ringings yX6_ringings) ∈ xA := xI3 (List.mem_of_getElem? (i := 205) rfl) rfl
theorem w3_206 : (Cond.code yX6_ringings cX6_ringings 1 (some FieldType.int)) ∈ xA := xI3 (List.mem_of_getElem? (i := 206) rfl) rfl
theorem w3_207 : (Cond.methodLink RL 206 yX6_minutesToBell) ∈ xA := xI3 (List.mem_of_getElem? (i := 207) rfl) rfl
theorem w3_208 : (Cond.instanceMethod yX6_minutesToBell) ∈ xA := xI3 (List.mem_of_getElem? (i := 208) rfl) rfl
theorem w3_209 : (Cond.selects RX6 yX6_minutesToBell yX6_minutesToBell) ∈ xA := xI3 (List.mem_of_getElem? (i := 209) rfl) rfl
theorem w3_210 : (Cond.code yX6_minutesToBell cX6_minutesToBell 3 (some FieldType.int)) ∈ xA := xI3 (List.mem_of_getElem? (i := 210) rfl) rfl
theorem w3_211 : (Cond.methodLink RX6 143 yX2_densityNow) ∈ xA := xI3 (List.mem_of_getElem? (i := 211) rfl) rfl
theorem w3_212 : (Cond.methodLink RX6 146 yX2_moveBell) ∈ xA := xI3 (List.mem_of_getElem? (i := 212) rfl) rfl
theorem w3_213 : (Cond.methodLink RX6 149 yX2_countMinute) ∈ xA := xI3 (List.mem_of_getElem? (i := 213) rfl) rfl
theorem w3_214 : (Cond.methodLink RL 210 yX6_minutesToEnd) ∈ xA := xI3 (List.mem_of_getElem? (i := 214) rfl) rfl
theorem w3_215 : (Cond.instanceMethod yX6_minutesToEnd) ∈ xA := xI3 (List.mem_of_getElem? (i := 215) rfl) rfl
theorem w3_216 : (Cond.selects RX6 yX6_minutesToEnd yX6_minutesToEnd) ∈ xA := xI3 (List.mem_of_getElem? (i := 216) rfl) rfl
theorem w3_217 : (Cond.code yX6_minutesToEnd cX6_minutesToEnd 2 (some FieldType.int)) ∈ xA := xI3 (List.mem_of_getElem? (i := 217) rfl) rfl
theorem w3_218 : (Cond.methodLink RL 214 yX6_stallCount) ∈ xA := xI3 (List.mem_of_getElem? (i := 218) rfl) rfl
theorem w3_219 : (Cond.instanceMethod yX6_stallCount) ∈ xA := xI3 (List.mem_of_getElem? (i := 219) rfl) rfl
theorem w3_220 : (Cond.selects RX6 yX6_stallCount yX6_stallCount) ∈ xA := xI3 (List.mem_of_getElem? (i := 220) rfl) rfl
theorem w3_221 : (Cond.code yX6_stallCount cX6_stallCount 1 (some FieldType.int)) ∈ xA := xI3 (List.mem_of_getElem? (i := 221) rfl) rfl
theorem w3_222 : (Cond.methodLink RL 252 yX6_buyerCount) ∈ xA := xI3 (List.mem_of_getElem? (i := 222) rfl) rfl
theorem w3_223 : (Cond.instanceMethod yX6_buyerCount) ∈ xA := xI3 (List.mem_of_getElem? (i := 223) rfl) rfl
theorem w3_224 : (Cond.selects RX6 yX6_buyerCount yX6_buyerCount) ∈ xA := xI3 (List.mem_of_getElem? (i := 224) rfl) rfl
theorem w3_225 : (Cond.code yX6_buyerCount cX6_buyerCount 1 (some FieldType.int)) ∈ xA := xI3 (List.mem_of_getElem? (i := 225) rfl) rfl
theorem w3_226 : (Cond.methodLink RL 286 yX6_coinsInAll) ∈ xA := xI3 (List.mem_of_getElem? (i := 226) rfl) rfl
theorem w3_227 : (Cond.instanceMethod yX6_coinsInAll) ∈ xA := xI3 (List.mem_of_getElem? (i := 227) rfl) rfl
theorem w3_228 : (Cond.selects RX6 yX6_coinsInAll yX6_coinsInAll) ∈ xA := xI3 (List.mem_of_getElem? (i := 228) rfl) rfl
theorem w3_229 : (Cond.code yX6_coinsInAll cX6_coinsInAll 3 (some FieldType.int)) ∈ xA := xI3 (List.mem_of_getElem? (i := 229) rfl) rfl
theorem w3_230 : (Cond.methodLink RX6 262 yX2_earnedInAll) ∈ xA := xI3 (List.mem_of_getElem? (i := 230) rfl) rfl
theorem w3_231 : (Cond.instanceMethod yX2_earnedInAll) ∈ xA := xI3 (List.mem_of_getElem? (i := 231) rfl) rfl
theorem w3_232 : (Cond.selects RX2 yX2_earnedInAll yX2_earnedInAll) ∈ xA := xI3 (List.mem_of_getElem? (i := 232) rfl) rfl
theorem w3_233 : (Cond.code yX2_earnedInAll cX2_earnedInAll 3 (some FieldType.int)) ∈ xA := xI3 (List.mem_of_getElem? (i := 233) rfl) rfl
theorem w3_234 : (Cond.methodLink RL 290 yX6_consistencyError) ∈ xA := xI3 (List.mem_of_getElem? (i := 234) rfl) rfl
theorem w3_235 : (Cond.instanceMethod yX6_consistencyError) ∈ xA := xI3 (List.mem_of_getElem? (i := 235) rfl) rfl
theorem w3_236 : (Cond.selects RX6 yX6_consistencyError yX6_consistencyError) ∈ xA := xI3 (List.mem_of_getElem? (i := 236) rfl) rfl
theorem w3_237 : (Cond.code yX6_consistencyError cX6_consistencyError 5 (some FieldType.int)) ∈ xA := xI3 (List.mem_of_getElem? (i := 237) rfl) rfl
theorem w3_238 : (Cond.methodLink RX6 176 yX2_countHeld) ∈ xA := xI3 (List.mem_of_getElem? (i := 238) rfl) rfl
theorem w3_239 : (Cond.instanceMethod yX2_countHeld) ∈ xA := xI3 (List.mem_of_getElem? (i := 239) rfl) rfl
theorem w4_0 : (Cond.selects RX2 yX2_countHeld yX2_countHeld) ∈ xA := xI4 (List.mem_of_getElem? (i := 0) rfl) rfl
theorem w4_1 : (Cond.code yX2_countHeld cX2_countHeld 4 (some FieldType.int)) ∈ xA := xI4 (List.mem_of_getElem? (i := 1) rfl) rfl
theorem w4_2 : (Cond.methodLink RX6 268 yJ9_abs_0f7a4) ∈ xA := xI4 (List.mem_of_getElem? (i := 2) rfl) rfl
theorem w4_3 : (Cond.methodLink RL 294 yX6_meanPaid) ∈ xA := xI4 (List.mem_of_getElem? (i := 3) rfl) rfl
theorem w4_4 : (Cond.instanceMethod yX6_meanPaid) ∈ xA := xI4 (List.mem_of_getElem? (i := 4) rfl) rfl
theorem w4_5 : (Cond.selects RX6 yX6_meanPaid yX6_meanPaid) ∈ xA := xI4 (List.mem_of_getElem? (i := 5) rfl) rfl
theorem w4_6 : (Cond.code yX6_meanPaid cX6_meanPaid 2 (some FieldType.double)) ∈ xA := xI4 (List.mem_of_getElem? (i := 6) rfl) rfl
theorem w4_7 : (Cond.methodLink RX6 273 yX2_soldInAll) ∈ xA := xI4 (List.mem_of_getElem? (i := 7) rfl) rfl
theorem w4_8 : (Cond.instanceMethod yX2_soldInAll) ∈ xA := xI4 (List.mem_of_getElem? (i := 8) rfl) rfl
theorem w4_9 : (Cond.selects RX2 yX2_soldInAll yX2_soldInAll) ∈ xA := xI4 (List.mem_of_getElem? (i := 9) rfl) rfl
theorem w4_10 : (Cond.code yX2_soldInAll cX2_soldInAll 3 (some FieldType.int)) ∈ xA := xI4 (List.mem_of_getElem? (i := 10) rfl) rfl
theorem w4_11 : (Cond.methodLink RL 299 yX6_spoiledShare) ∈ xA := xI4 (List.mem_of_getElem? (i := 11) rfl) rfl
theorem w4_12 : (Cond.instanceMethod yX6_spoiledShare) ∈ xA := xI4 (List.mem_of_getElem? (i := 12) rfl) rfl
theorem w4_13 : (Cond.selects RX6 yX6_spoiledShare yX6_spoiledShare) ∈ xA := xI4 (List.mem_of_getElem? (i := 13) rfl) rfl
theorem w4_14 : (Cond.code yX6_spoiledShare cX6_spoiledShare 4 (some FieldType.float)) ∈ xA := xI4 (List.mem_of_getElem? (i := 14) rfl) rfl
theorem w4_15 : (Cond.methodLink RL 316 yX6_nextPayer) ∈ xA := xI4 (List.mem_of_getElem? (i := 15) rfl) rfl
theorem w4_16 : (Cond.instanceMethod yX6_nextPayer) ∈ xA := xI4 (List.mem_of_getElem? (i := 16) rfl) rfl
theorem w4_17 : (Cond.selects RX6 yX6_nextPayer yX6_nextPayer) ∈ xA := xI4 (List.mem_of_getElem? (i := 17) rfl) rfl
theorem w4_18 : (Cond.code yX6_nextPayer cX6_nextPayer 3 (some FieldType.int)) ∈ xA := xI4 (List.mem_of_getElem? (i := 18) rfl) rfl
theorem w4_19 : (Cond.methodLink RX6 276 yX2_pass) ∈ xA := xI4 (List.mem_of_getElem? (i := 19) rfl) rfl
theorem w4_20 : (Cond.methodLink RL 320 yX6_bestBellPosition) ∈ xA := xI4 (List.mem_of_getElem? (i := 20) rfl) rfl
theorem w4_21 : (Cond.instanceMethod yX6_bestBellPosition) ∈ xA := xI4 (List.mem_of_getElem? (i := 21) rfl) rfl
theorem w4_22 : (Cond.selects RX6 yX6_bestBellPosition yX6_bestBellPosition) ∈ xA := xI4 (List.mem_of_getElem? (i := 22) rfl) rfl
theorem w4_23 : (Cond.code yX6_bestBellPosition cX6_bestBellPosition 5 (some FieldType.int)) ∈ xA := xI4 (List.mem_of_getElem? (i := 23) rfl) rfl
theorem w4_24 : (Cond.methodLink RL 363 yX6_writeRope) ∈ xA := xI4 (List.mem_of_getElem? (i := 24) rfl) rfl
theorem w4_25 : (Cond.instanceMethod yX6_writeRope) ∈ xA := xI4 (List.mem_of_getElem? (i := 25) rfl) rfl
theorem w4_26 : (Cond.selects RX6 yX6_writeRope yX6_writeRope) ∈ xA := xI4 (List.mem_of_getElem? (i := 26) rfl) rfl
theorem w4_27 : (Cond.code yX6_writeRope cX6_writeRope 2 (some FieldType.int)) ∈ xA := xI4 (List.mem_of_getElem? (i := 27) rfl) rfl
theorem w4_28 : (Cond.methodLink RX6 331 yX6_drawOnRope) ∈ xA := xI4 (List.mem_of_getElem? (i := 28) rfl) rfl
theorem w4_30 : (Cond.instanceMethod yX6_drawOnRope) ∈ xA := xI4 (List.mem_of_getElem? (i := 30) rfl) rfl
theorem w4_31 : (Cond.code yX6_drawOnRope cX6_drawOnRope 3 none) ∈ xA := xI4 (List.mem_of_getElem? (i := 31) rfl) rfl
theorem w4_32 : (Cond.methodLink RL 367 yX6_outputByte) ∈ xA := xI4 (List.mem_of_getElem? (i := 32) rfl) rfl
theorem w4_33 : (Cond.instanceMethod yX6_outputByte) ∈ xA := xI4 (List.mem_of_getElem? (i := 33) rfl) rfl
theorem w4_34 : (Cond.selects RX6 yX6_outputByte yX6_outputByte) ∈ xA := xI4 (List.mem_of_getElem? (i := 34) rfl) rfl
theorem w4_35 : (Cond.code yX6_outputByte cX6_outputByte 2 (some FieldType.int)) ∈ xA := xI4 (List.mem_of_getElem? (i := 35) rfl) rfl
theorem w4_36 : (Cond.methodLink RL 180 yL_fogIn) ∈ xA := xI4 (List.mem_of_getElem? (i := 36) rfl) rfl
theorem w4_37 : (Cond.static yL_fogIn) ∈ xA := xI4 (List.mem_of_getElem? (i := 37) rfl) rfl
theorem w4_38 : (Cond.codeWith yL_fogIn cL_fogIn 4 (some FieldType.int) [(0, 9, 12, 13)]) ∈ xA := xI4 (List.mem_of_getElem? (i := 38) rfl) rfl
theorem w4_39 : (Cond.classLink RL 13 "java/lang/IllegalArgumentException") ∈ xA := xI4 (List.mem_of_getElem? (i := 39) rfl) rfl
theorem w4_40 : (Cond.methodLink RL 7 yX6_fogIn) ∈ xA := xI4 (List.mem_of_getElem? (i := 40) rfl) rfl
theorem w4_41 : (Cond.instanceMethod yX6_fogIn) ∈ xA := xI4 (List.mem_of_getElem? (i := 41) rfl) rfl
theorem w4_42 : (Cond.selects RX6 yX6_fogIn yX6_fogIn) ∈ xA := xI4 (List.mem_of_getElem? (i := 42) rfl) rfl
theorem w4_43 : (Cond.code yX6_fogIn cX6_fogIn 2 (some FieldType.int)) ∈ xA := xI4 (List.mem_of_getElem? (i := 43) rfl) rfl
theorem w4_44 : (Cond.constant RX6 122 (99999)) ∈ xA := xI4 (List.mem_of_getElem? (i := 44) rfl) rfl
theorem w4_45 : (Cond.methodLink RX6 123 yX6_checkRange) ∈ xA := xI4 (List.mem_of_getElem? (i := 45) rfl) rfl
theorem w4_46 : (Cond.static yX6_checkRange) ∈ xA := xI4 (List.mem_of_getElem? (i := 46) rfl) rfl
theorem w4_47 : (Cond.code yX6_checkRange cX6_checkRange 3 none) ∈ xA := xI4 (List.mem_of_getElem? (i := 47) rfl) rfl
theorem w4_48 : (Cond.classLink RX6 206 "java/lang/IllegalArgumentException") ∈ xA := xI4 (List.mem_of_getElem? (i := 48) rfl) rfl
theorem w4_49 : (Cond.instantiable "java/lang/IllegalArgumentException" 6) ∈ xA := xI4 (List.mem_of_getElem? (i := 49) rfl) rfl
theorem w4_57 : (Cond.selects "java/lang/IllegalArgumentException" (⟨"java/lang/Throwable", "fillInStackTrace", "(I)Ljava/lang/Throwable;"⟩) (⟨"java/lang/Throwable", "fillInStackTrace", "(I)Ljava/lang/Throwable;"⟩)) ∈ xA := xI4 (List.mem_of_getElem? (i := 57) rfl) rfl
theorem w4_58 : (Cond.selects "java/lang/IllegalArgumentException" (⟨"java/lang/Throwable", "fillInStackTrace", "()Ljava/lang/Throwable;"⟩) (⟨"java/lang/Throwable", "fillInStackTrace", "()Ljava/lang/Throwable;"⟩)) ∈ xA := xI4 (List.mem_of_getElem? (i := 58) rfl) rfl
theorem w4_59 : (Cond.lays "java/lang/IllegalArgumentException" "java/lang/Throwable" "cause" "Ljava/lang/Throwable;") ∈ xA := xI4 (List.mem_of_getElem? (i := 59) rfl) rfl
theorem w4_60 : (Cond.lays "java/lang/Throwable" "java/lang/Throwable" "cause" "Ljava/lang/Throwable;") ∈ xA := xI4 (List.mem_of_getElem? (i := 60) rfl) rfl
theorem w4_61 : (Cond.lays "java/lang/IllegalArgumentException" "java/lang/Throwable" "stackTrace" "[Ljava/lang/StackTraceElement;") ∈ xA := xI4 (List.mem_of_getElem? (i := 61) rfl) rfl
theorem w4_62 : (Cond.lays "java/lang/Throwable" "java/lang/Throwable" "stackTrace" "[Ljava/lang/StackTraceElement;") ∈ xA := xI4 (List.mem_of_getElem? (i := 62) rfl) rfl
theorem w4_63 : (Cond.lays "java/lang/IllegalArgumentException" "java/lang/Throwable" "suppressedExceptions" "Ljava/util/List;") ∈ xA := xI4 (List.mem_of_getElem? (i := 63) rfl) rfl
theorem w4_64 : (Cond.lays "java/lang/Throwable" "java/lang/Throwable" "suppressedExceptions" "Ljava/util/List;") ∈ xA := xI4 (List.mem_of_getElem? (i := 64) rfl) rfl
theorem w4_65 : (Cond.lays "java/lang/IllegalArgumentException" "java/lang/Throwable" "detailMessage" "Ljava/lang/String;") ∈ xA := xI4 (List.mem_of_getElem? (i := 65) rfl) rfl
theorem w4_66 : (Cond.lays "java/lang/Throwable" "java/lang/Throwable" "detailMessage" "Ljava/lang/String;") ∈ xA := xI4 (List.mem_of_getElem? (i := 66) rfl) rfl
theorem w4_67 : (Cond.lays "java/lang/IllegalArgumentException" "java/lang/Throwable" "backtrace" "Ljava/lang/Object;") ∈ xA := xI4 (List.mem_of_getElem? (i := 67) rfl) rfl
theorem w4_68 : (Cond.lays "java/lang/Throwable" "java/lang/Throwable" "backtrace" "Ljava/lang/Object;") ∈ xA := xI4 (List.mem_of_getElem? (i := 68) rfl) rfl
theorem w4_69 : (Cond.fieldLink "java/lang/Throwable" 198 "java/lang/Throwable" "backtrace" "Ljava/lang/Object;") ∈ xA := xI4 (List.mem_of_getElem? (i := 69) rfl) rfl
theorem w4_71 : (Cond.instanceMethod (⟨"java/lang/Throwable", "<init>", "()V"⟩)) ∈ xA := xI4 (List.mem_of_getElem? (i := 71) rfl) rfl
theorem w4_72 : (Cond.code (⟨"java/lang/Throwable", "<init>", "()V"⟩) prog_23_method_1_code 1 none) ∈ xA := xI4 (List.mem_of_getElem? (i := 72) rfl) rfl
theorem w4_73 : (Cond.methodLink "java/lang/Throwable" 1 (⟨"java/lang/Object", "<init>", "()V"⟩)) ∈ xA := xI4 (List.mem_of_getElem? (i := 73) rfl) rfl
theorem w4_74 : (Cond.fieldLink "java/lang/Throwable" 13 "java/lang/Throwable" "UNASSIGNED_STACK" "[Ljava/lang/StackTraceElement;") ∈ xA := xI4 (List.mem_of_getElem? (i := 74) rfl) rfl
theorem w4_76 : (Cond.fieldLink "java/lang/Throwable" 20 "java/lang/Throwable" "SUPPRESSED_SENTINEL" "Ljava/util/List;") ∈ xA := xI4 (List.mem_of_getElem? (i := 76) rfl) rfl
theorem w4_78 : (Cond.methodLink "java/lang/Throwable" 27 (⟨"java/lang/Throwable", "fillInStackTrace", "()Ljava/lang/Throwable;"⟩)) ∈ xA := xI4 (List.mem_of_getElem? (i := 78) rfl) rfl
theorem w4_79 : (Cond.instanceMethod (⟨"java/lang/Throwable", "fillInStackTrace", "()Ljava/lang/Throwable;"⟩)) ∈ xA := xI4 (List.mem_of_getElem? (i := 79) rfl) rfl
theorem w4_80 : (Cond.sameMethod "java/lang/Throwable" "java/lang/Throwable" "fillInStackTrace" "()Ljava/lang/Throwable;") ∈ xA := xI4 (List.mem_of_getElem? (i := 80) rfl) rfl
theorem w4_81 : (Cond.selects "java/lang/IllegalStateException" (⟨"java/lang/Throwable", "fillInStackTrace", "()Ljava/lang/Throwable;"⟩) (⟨"java/lang/Throwable", "fillInStackTrace", "()Ljava/lang/Throwable;"⟩)) ∈ xA := xI4 (List.mem_of_getElem? (i := 81) rfl) rfl
theorem w4_82 : (Cond.selects "java/lang/IndexOutOfBoundsException" (⟨"java/lang/Throwable", "fillInStackTrace", "()Ljava/lang/Throwable;"⟩) (⟨"java/lang/Throwable", "fillInStackTrace", "()Ljava/lang/Throwable;"⟩)) ∈ xA := xI4 (List.mem_of_getElem? (i := 82) rfl) rfl
theorem w4_83 : (Cond.selects "java/util/NoSuchElementException" (⟨"java/lang/Throwable", "fillInStackTrace", "()Ljava/lang/Throwable;"⟩) (⟨"java/lang/Throwable", "fillInStackTrace", "()Ljava/lang/Throwable;"⟩)) ∈ xA := xI4 (List.mem_of_getElem? (i := 83) rfl) rfl
theorem w4_85 : (Cond.methodLink "java/lang/Throwable" 202 (⟨"java/lang/Throwable", "fillInStackTrace", "(I)Ljava/lang/Throwable;"⟩)) ∈ xA := xI4 (List.mem_of_getElem? (i := 85) rfl) rfl
theorem w4_87 : (Cond.instanceMethod (⟨"java/lang/Throwable", "fillInStackTrace", "(I)Ljava/lang/Throwable;"⟩)) ∈ xA := xI4 (List.mem_of_getElem? (i := 87) rfl) rfl
theorem w4_88 : (Cond.instantiable "java/lang/Throwable" 6) ∈ xA := xI4 (List.mem_of_getElem? (i := 88) rfl) rfl
theorem w4_91 : (Cond.methodLink RX6 210 (⟨"java/lang/IllegalArgumentException", "<init>", "(Ljava/lang/String;)V"⟩)) ∈ xA := xI4 (List.mem_of_getElem? (i := 91) rfl) rfl
theorem w4_92 : (Cond.instanceMethod (⟨"java/lang/IllegalArgumentException", "<init>", "(Ljava/lang/String;)V"⟩)) ∈ xA := xI4 (List.mem_of_getElem? (i := 92) rfl) rfl
theorem w4_93 : (Cond.code (⟨"java/lang/IllegalArgumentException", "<init>", "(Ljava/lang/String;)V"⟩) prog_15_method_2_code 2 none) ∈ xA := xI4 (List.mem_of_getElem? (i := 93) rfl) rfl
theorem w4_94 : (Cond.methodLink "java/lang/IllegalArgumentException" 7 (⟨"java/lang/RuntimeException", "<init>", "(Ljava/lang/String;)V"⟩)) ∈ xA := xI4 (List.mem_of_getElem? (i := 94) rfl) rfl
theorem w4_95 : (Cond.instanceMethod (⟨"java/lang/RuntimeException", "<init>", "(Ljava/lang/String;)V"⟩)) ∈ xA := xI4 (List.mem_of_getElem? (i := 95) rfl) rfl
theorem w4_96 : (Cond.code (⟨"java/lang/RuntimeException", "<init>", "(Ljava/lang/String;)V"⟩) prog_19_method_2_code 2 none) ∈ xA := xI4 (List.mem_of_getElem? (i := 96) rfl) rfl
theorem w4_97 : (Cond.methodLink "java/lang/RuntimeException" 7 (⟨"java/lang/Exception", "<init>", "(Ljava/lang/String;)V"⟩)) ∈ xA := xI4 (List.mem_of_getElem? (i := 97) rfl) rfl
theorem w4_98 : (Cond.instanceMethod (⟨"java/lang/Exception", "<init>", "(Ljava/lang/String;)V"⟩)) ∈ xA := xI4 (List.mem_of_getElem? (i := 98) rfl) rfl
theorem w4_99 : (Cond.code (⟨"java/lang/Exception", "<init>", "(Ljava/lang/String;)V"⟩) prog_14_method_2_code 2 none) ∈ xA := xI4 (List.mem_of_getElem? (i := 99) rfl) rfl
theorem w4_100 : (Cond.methodLink "java/lang/Exception" 7 (⟨"java/lang/Throwable", "<init>", "(Ljava/lang/String;)V"⟩)) ∈ xA := xI4 (List.mem_of_getElem? (i := 100) rfl) rfl
theorem w4_101 : (Cond.instanceMethod (⟨"java/lang/Throwable", "<init>", "(Ljava/lang/String;)V"⟩)) ∈ xA := xI4 (List.mem_of_getElem? (i := 101) rfl) rfl
theorem w4_102 : (Cond.code (⟨"java/lang/Throwable", "<init>", "(Ljava/lang/String;)V"⟩) prog_23_method_2_code 2 none) ∈ xA := xI4 (List.mem_of_getElem? (i := 102) rfl) rfl
theorem w4_104 : (Cond.fieldLink "java/lang/Throwable" 31 "java/lang/Throwable" "detailMessage" "Ljava/lang/String;") ∈ xA := xI4 (List.mem_of_getElem? (i := 104) rfl) rfl
theorem w4_105 : (Cond.fieldLink "java/lang/Throwable" 7 "java/lang/Throwable" "cause" "Ljava/lang/Throwable;") ∈ xA := xI4 (List.mem_of_getElem? (i := 105) rfl) rfl
theorem w4_106 : (Cond.fieldLink "java/lang/Throwable" 17 "java/lang/Throwable" "stackTrace" "[Ljava/lang/StackTraceElement;") ∈ xA := xI4 (List.mem_of_getElem? (i := 106) rfl) rfl
theorem w4_107 : (Cond.fieldLink "java/lang/Throwable" 24 "java/lang/Throwable" "suppressedExceptions" "Ljava/util/List;") ∈ xA := xI4 (List.mem_of_getElem? (i := 107) rfl) rfl
theorem w4_112 : (Cond.lays "java/lang/IllegalArgumentException" "java/lang/Throwable" "depth" "I") ∈ xA := xI4 (List.mem_of_getElem? (i := 112) rfl) rfl
theorem w4_116 : (Cond.methodLink RX6 127 yX2_densityIn) ∈ xA := xI4 (List.mem_of_getElem? (i := 116) rfl) rfl
theorem w4_117 : (Cond.methodLink RL 218 yL_positionOf) ∈ xA := xI4 (List.mem_of_getElem? (i := 117) rfl) rfl
theorem w4_118 : (Cond.static yL_positionOf) ∈ xA := xI4 (List.mem_of_getElem? (i := 118) rfl) rfl
theorem w4_119 : (Cond.codeWith yL_positionOf cL_positionOf 4 (some FieldType.int) [(0, 9, 12, 18)]) ∈ xA := xI4 (List.mem_of_getElem? (i := 119) rfl) rfl
theorem w4_120 : (Cond.classLink RL 18 "java/lang/IndexOutOfBoundsException") ∈ xA := xI4 (List.mem_of_getElem? (i := 120) rfl) rfl
theorem w4_121 : (Cond.methodLink RL 15 yX6_positionOf) ∈ xA := xI4 (List.mem_of_getElem? (i := 121) rfl) rfl
theorem w4_122 : (Cond.instanceMethod yX6_positionOf) ∈ xA := xI4 (List.mem_of_getElem? (i := 122) rfl) rfl
theorem w4_123 : (Cond.selects RX6 yX6_positionOf yX6_positionOf) ∈ xA := xI4 (List.mem_of_getElem? (i := 123) rfl) rfl
theorem w4_124 : (Cond.code yX6_positionOf cX6_positionOf 2 (some FieldType.int)) ∈ xA := xI4 (List.mem_of_getElem? (i := 124) rfl) rfl
theorem w4_125 : (Cond.methodLink RX6 152 yX6_stallAt) ∈ xA := xI4 (List.mem_of_getElem? (i := 125) rfl) rfl
theorem w4_127 : (Cond.instanceMethod yX6_stallAt) ∈ xA := xI4 (List.mem_of_getElem? (i := 127) rfl) rfl
theorem w4_128 : (Cond.code yX6_stallAt cX6_stallAt 2 (some (FieldType.object "FogBellMarket$Stall"))) ∈ xA := xI4 (List.mem_of_getElem? (i := 128) rfl) rfl
theorem w4_129 : (Cond.methodLink RX6 173 yX6_checkStall) ∈ xA := xI4 (List.mem_of_getElem? (i := 129) rfl) rfl
theorem w4_131 : (Cond.instanceMethod yX6_checkStall) ∈ xA := xI4 (List.mem_of_getElem? (i := 131) rfl) rfl
theorem w4_132 : (Cond.code yX6_checkStall cX6_checkStall 2 none) ∈ xA := xI4 (List.mem_of_getElem? (i := 132) rfl) rfl
theorem w4_133 : (Cond.classLink RX6 200 "java/lang/IndexOutOfBoundsException") ∈ xA := xI4 (List.mem_of_getElem? (i := 133) rfl) rfl
theorem w4_134 : (Cond.instantiable "java/lang/IndexOutOfBoundsException" 6) ∈ xA := xI4 (List.mem_of_getElem? (i := 134) rfl) rfl
theorem w4_136 : (Cond.selects "java/lang/IndexOutOfBoundsException" (⟨"java/lang/Throwable", "fillInStackTrace", "(I)Ljava/lang/Throwable;"⟩) (⟨"java/lang/Throwable", "fillInStackTrace", "(I)Ljava/lang/Throwable;"⟩)) ∈ xA := xI4 (List.mem_of_getElem? (i := 136) rfl) rfl
theorem w4_137 : (Cond.lays "java/lang/IndexOutOfBoundsException" "java/lang/Throwable" "cause" "Ljava/lang/Throwable;") ∈ xA := xI4 (List.mem_of_getElem? (i := 137) rfl) rfl
theorem w4_138 : (Cond.lays "java/lang/IndexOutOfBoundsException" "java/lang/Throwable" "stackTrace" "[Ljava/lang/StackTraceElement;") ∈ xA := xI4 (List.mem_of_getElem? (i := 138) rfl) rfl
theorem w4_139 : (Cond.lays "java/lang/IndexOutOfBoundsException" "java/lang/Throwable" "suppressedExceptions" "Ljava/util/List;") ∈ xA := xI4 (List.mem_of_getElem? (i := 139) rfl) rfl
theorem w4_140 : (Cond.lays "java/lang/IndexOutOfBoundsException" "java/lang/Throwable" "detailMessage" "Ljava/lang/String;") ∈ xA := xI4 (List.mem_of_getElem? (i := 140) rfl) rfl
theorem w4_141 : (Cond.lays "java/lang/IndexOutOfBoundsException" "java/lang/Throwable" "backtrace" "Ljava/lang/Object;") ∈ xA := xI4 (List.mem_of_getElem? (i := 141) rfl) rfl
theorem w4_143 : (Cond.methodLink RX6 204 (⟨"java/lang/IndexOutOfBoundsException", "<init>", "(Ljava/lang/String;)V"⟩)) ∈ xA := xI4 (List.mem_of_getElem? (i := 143) rfl) rfl
theorem w4_144 : (Cond.instanceMethod (⟨"java/lang/IndexOutOfBoundsException", "<init>", "(Ljava/lang/String;)V"⟩)) ∈ xA := xI4 (List.mem_of_getElem? (i := 144) rfl) rfl
theorem w4_145 : (Cond.code (⟨"java/lang/IndexOutOfBoundsException", "<init>", "(Ljava/lang/String;)V"⟩) prog_17_method_2_code 2 none) ∈ xA := xI4 (List.mem_of_getElem? (i := 145) rfl) rfl
theorem w4_146 : (Cond.methodLink "java/lang/IndexOutOfBoundsException" 7 (⟨"java/lang/RuntimeException", "<init>", "(Ljava/lang/String;)V"⟩)) ∈ xA := xI4 (List.mem_of_getElem? (i := 146) rfl) rfl
theorem w4_147 : (Cond.lays "java/lang/IndexOutOfBoundsException" "java/lang/Throwable" "depth" "I") ∈ xA := xI4 (List.mem_of_getElem? (i := 147) rfl) rfl
theorem w4_149 : (Cond.methodLink RL 221 yL_lanternOf) ∈ xA := xI4 (List.mem_of_getElem? (i := 149) rfl) rfl
theorem w4_150 : (Cond.static yL_lanternOf) ∈ xA := xI4 (List.mem_of_getElem? (i := 150) rfl) rfl
theorem w4_151 : (Cond.codeWith yL_lanternOf cL_lanternOf 4 (some FieldType.int) [(0, 9, 12, 18)]) ∈ xA := xI4 (List.mem_of_getElem? (i := 151) rfl) rfl
theorem w4_152 : (Cond.methodLink RL 20 yX6_lanternOf) ∈ xA := xI4 (List.mem_of_getElem? (i := 152) rfl) rfl
theorem w4_153 : (Cond.instanceMethod yX6_lanternOf) ∈ xA := xI4 (List.mem_of_getElem? (i := 153) rfl) rfl
theorem w4_154 : (Cond.selects RX6 yX6_lanternOf yX6_lanternOf) ∈ xA := xI4 (List.mem_of_getElem? (i := 154) rfl) rfl
theorem w4_155 : (Cond.code yX6_lanternOf cX6_lanternOf 2 (some FieldType.int)) ∈ xA := xI4 (List.mem_of_getElem? (i := 155) rfl) rfl
theorem w4_156 : (Cond.methodLink RL 224 yL_textureOf) ∈ xA := xI4 (List.mem_of_getElem? (i := 156) rfl) rfl
theorem w4_157 : (Cond.static yL_textureOf) ∈ xA := xI4 (List.mem_of_getElem? (i := 157) rfl) rfl
theorem w4_158 : (Cond.codeWith yL_textureOf cL_textureOf 4 (some FieldType.int) [(0, 9, 12, 18)]) ∈ xA := xI4 (List.mem_of_getElem? (i := 158) rfl) rfl
theorem w4_159 : (Cond.methodLink RL 23 yX6_textureOf) ∈ xA := xI4 (List.mem_of_getElem? (i := 159) rfl) rfl
theorem w4_160 : (Cond.instanceMethod yX6_textureOf) ∈ xA := xI4 (List.mem_of_getElem? (i := 160) rfl) rfl
theorem w4_161 : (Cond.selects RX6 yX6_textureOf yX6_textureOf) ∈ xA := xI4 (List.mem_of_getElem? (i := 161) rfl) rfl
theorem w4_162 : (Cond.code yX6_textureOf cX6_textureOf 2 (some FieldType.int)) ∈ xA := xI4 (List.mem_of_getElem? (i := 162) rfl) rfl
theorem w4_163 : (Cond.methodLink RL 227 yL_priceOf) ∈ xA := xI4 (List.mem_of_getElem? (i := 163) rfl) rfl
theorem w4_164 : (Cond.static yL_priceOf) ∈ xA := xI4 (List.mem_of_getElem? (i := 164) rfl) rfl
theorem w4_165 : (Cond.codeWith yL_priceOf cL_priceOf 4 (some FieldType.int) [(0, 9, 12, 18)]) ∈ xA := xI4 (List.mem_of_getElem? (i := 165) rfl) rfl
theorem w4_166 : (Cond.methodLink RL 26 yX6_priceOf) ∈ xA := xI4 (List.mem_of_getElem? (i := 166) rfl) rfl
theorem w4_167 : (Cond.instanceMethod yX6_priceOf) ∈ xA := xI4 (List.mem_of_getElem? (i := 167) rfl) rfl
theorem w4_168 : (Cond.selects RX6 yX6_priceOf yX6_priceOf) ∈ xA := xI4 (List.mem_of_getElem? (i := 168) rfl) rfl
theorem w4_169 : (Cond.code yX6_priceOf cX6_priceOf 2 (some FieldType.int)) ∈ xA := xI4 (List.mem_of_getElem? (i := 169) rfl) rfl
theorem w4_170 : (Cond.methodLink RL 230 yL_stockOf) ∈ xA := xI4 (List.mem_of_getElem? (i := 170) rfl) rfl
theorem w4_171 : (Cond.static yL_stockOf) ∈ xA := xI4 (List.mem_of_getElem? (i := 171) rfl) rfl
theorem w4_172 : (Cond.codeWith yL_stockOf cL_stockOf 4 (some FieldType.int) [(0, 9, 12, 18)]) ∈ xA := xI4 (List.mem_of_getElem? (i := 172) rfl) rfl
theorem w4_173 : (Cond.methodLink RL 29 yX6_stockOf) ∈ xA := xI4 (List.mem_of_getElem? (i := 173) rfl) rfl
theorem w4_174 : (Cond.instanceMethod yX6_stockOf) ∈ xA := xI4 (List.mem_of_getElem? (i := 174) rfl) rfl
theorem w4_175 : (Cond.selects RX6 yX6_stockOf yX6_stockOf) ∈ xA := xI4 (List.mem_of_getElem? (i := 175) rfl) rfl
theorem w4_176 : (Cond.code yX6_stockOf cX6_stockOf 2 (some FieldType.int)) ∈ xA := xI4 (List.mem_of_getElem? (i := 176) rfl) rfl
theorem w4_177 : (Cond.methodLink RL 233 yL_heldOf) ∈ xA := xI4 (List.mem_of_getElem? (i := 177) rfl) rfl
theorem w4_178 : (Cond.static yL_heldOf) ∈ xA := xI4 (List.mem_of_getElem? (i := 178) rfl) rfl
theorem w4_179 : (Cond.codeWith yL_heldOf cL_heldOf 4 (some FieldType.int) [(0, 9, 12, 18)]) ∈ xA := xI4 (List.mem_of_getElem? (i := 179) rfl) rfl
theorem w4_180 : (Cond.methodLink RL 32 yX6_heldOf) ∈ xA := xI4 (List.mem_of_getElem? (i := 180) rfl) rfl
theorem w4_181 : (Cond.instanceMethod yX6_heldOf) ∈ xA := xI4 (List.mem_of_getElem? (i := 181) rfl) rfl
theorem w4_182 : (Cond.selects RX6 yX6_heldOf yX6_heldOf) ∈ xA := xI4 (List.mem_of_getElem? (i := 182) rfl) rfl
theorem w4_183 : (Cond.code yX6_heldOf cX6_heldOf 2 (some FieldType.int)) ∈ xA := xI4 (List.mem_of_getElem? (i := 183) rfl) rfl
theorem w4_184 : (Cond.methodLink RL 236 yL_soldOf) ∈ xA := xI4 (List.mem_of_getElem? (i := 184) rfl) rfl
theorem w4_185 : (Cond.static yL_soldOf) ∈ xA := xI4 (List.mem_of_getElem? (i := 185) rfl) rfl
theorem w4_186 : (Cond.codeWith yL_soldOf cL_soldOf 4 (some FieldType.int) [(0, 9, 12, 18)]) ∈ xA := xI4 (List.mem_of_getElem? (i := 186) rfl) rfl
theorem w4_187 : (Cond.methodLink RL 35 yX6_soldOf) ∈ xA := xI4 (List.mem_of_getElem? (i := 187) rfl) rfl
theorem w4_188 : (Cond.instanceMethod yX6_soldOf) ∈ xA := xI4 (List.mem_of_getElem? (i := 188) rfl) rfl
theorem w4_189 : (Cond.selects RX6 yX6_soldOf yX6_soldOf) ∈ xA := xI4 (List.mem_of_getElem? (i := 189) rfl) rfl
theorem w4_190 : (Cond.code yX6_soldOf cX6_soldOf 2 (some FieldType.int)) ∈ xA := xI4 (List.mem_of_getElem? (i := 190) rfl) rfl
theorem w4_191 : (Cond.methodLink RL 239 yL_lostOf) ∈ xA := xI4 (List.mem_of_getElem? (i := 191) rfl) rfl
theorem w4_192 : (Cond.static yL_lostOf) ∈ xA := xI4 (List.mem_of_getElem? (i := 192) rfl) rfl
theorem w4_193 : (Cond.codeWith yL_lostOf cL_lostOf 4 (some FieldType.int) [(0, 9, 12, 18)]) ∈ xA := xI4 (List.mem_of_getElem? (i := 193) rfl) rfl
theorem w4_194 : (Cond.methodLink RL 38 yX6_lostOf) ∈ xA := xI4 (List.mem_of_getElem? (i := 194) rfl) rfl
theorem w4_195 : (Cond.instanceMethod yX6_lostOf) ∈ xA := xI4 (List.mem_of_getElem? (i := 195) rfl) rfl
theorem w4_196 : (Cond.selects RX6 yX6_lostOf yX6_lostOf) ∈ xA := xI4 (List.mem_of_getElem? (i := 196) rfl) rfl
theorem w4_197 : (Cond.code yX6_lostOf cX6_lostOf 2 (some FieldType.int)) ∈ xA := xI4 (List.mem_of_getElem? (i := 197) rfl) rfl
theorem w4_198 : (Cond.methodLink RL 242 yL_earnings) ∈ xA := xI4 (List.mem_of_getElem? (i := 198) rfl) rfl
theorem w4_199 : (Cond.static yL_earnings) ∈ xA := xI4 (List.mem_of_getElem? (i := 199) rfl) rfl
theorem w4_200 : (Cond.codeWith yL_earnings cL_earnings 4 (some FieldType.int) [(0, 9, 12, 18)]) ∈ xA := xI4 (List.mem_of_getElem? (i := 200) rfl) rfl
theorem w4_201 : (Cond.methodLink RL 41 yX6_earnings) ∈ xA := xI4 (List.mem_of_getElem? (i := 201) rfl) rfl
theorem w4_202 : (Cond.instanceMethod yX6_earnings) ∈ xA := xI4 (List.mem_of_getElem? (i := 202) rfl) rfl
theorem w4_203 : (Cond.selects RX6 yX6_earnings yX6_earnings) ∈ xA := xI4 (List.mem_of_getElem? (i := 203) rfl) rfl
theorem w4_204 : (Cond.code yX6_earnings cX6_earnings 2 (some FieldType.int)) ∈ xA := xI4 (List.mem_of_getElem? (i := 204) rfl) rfl
theorem w4_205 : (Cond.methodLink RL 245 yL_reach) ∈ xA := xI4 (List.mem_of_getElem? (i := 205) rfl) rfl
theorem w4_206 : (Cond.static yL_reach) ∈ xA := xI4 (List.mem_of_getElem? (i := 206) rfl) rfl
theorem w4_207 : (Cond.codeWith yL_reach cL_reach 5 (some FieldType.int) [(0, 10, 13, 13)]) ∈ xA := xI4 (List.mem_of_getElem? (i := 207) rfl) rfl
theorem w4_208 : (Cond.methodLink RL 44 yX6_reach) ∈ xA := xI4 (List.mem_of_getElem? (i := 208) rfl) rfl
theorem w4_209 : (Cond.instanceMethod yX6_reach) ∈ xA := xI4 (List.mem_of_getElem? (i := 209) rfl) rfl
theorem w4_210 : (Cond.selects RX6 yX6_reach yX6_reach) ∈ xA := xI4 (List.mem_of_getElem? (i := 210) rfl) rfl
theorem w4_211 : (Cond.code yX6_reach cX6_reach 3 (some FieldType.int)) ∈ xA := xI4 (List.mem_of_getElem? (i := 211) rfl) rfl
theorem w4_212 : (Cond.methodLink RX6 188 yX4_paces) ∈ xA := xI4 (List.mem_of_getElem? (i := 212) rfl) rfl
theorem w4_213 : (Cond.methodLink RL 249 yL_seenFrom) ∈ xA := xI4 (List.mem_of_getElem? (i := 213) rfl) rfl
theorem w4_214 : (Cond.static yL_seenFrom) ∈ xA := xI4 (List.mem_of_getElem? (i := 214) rfl) rfl
theorem w4_215 : (Cond.codeWith yL_seenFrom cL_seenFrom 4 (some FieldType.int) [(0, 9, 12, 13)]) ∈ xA := xI4 (List.mem_of_getElem? (i := 215) rfl) rfl
theorem w4_216 : (Cond.methodLink RL 48 yX6_seenFrom) ∈ xA := xI4 (List.mem_of_getElem? (i := 216) rfl) rfl
theorem w4_217 : (Cond.instanceMethod yX6_seenFrom) ∈ xA := xI4 (List.mem_of_getElem? (i := 217) rfl) rfl
theorem w4_218 : (Cond.selects RX6 yX6_seenFrom yX6_seenFrom) ∈ xA := xI4 (List.mem_of_getElem? (i := 218) rfl) rfl
theorem w4_219 : (Cond.code yX6_seenFrom cX6_seenFrom 5 (some FieldType.int)) ∈ xA := xI4 (List.mem_of_getElem? (i := 219) rfl) rfl
theorem w4_220 : (Cond.methodLink RX6 196 yX4_isSeenFrom) ∈ xA := xI4 (List.mem_of_getElem? (i := 220) rfl) rfl
theorem w4_221 : (Cond.instanceMethod yX4_isSeenFrom) ∈ xA := xI4 (List.mem_of_getElem? (i := 221) rfl) rfl
theorem w4_222 : (Cond.selects RX4 yX4_isSeenFrom yX4_isSeenFrom) ∈ xA := xI4 (List.mem_of_getElem? (i := 222) rfl) rfl
theorem w4_223 : (Cond.code yX4_isSeenFrom cX4_isSeenFrom 3 (some FieldType.boolean)) ∈ xA := xI4 (List.mem_of_getElem? (i := 223) rfl) rfl
theorem w4_224 : (Cond.methodLink RX4 39 yJ9_abs_0f7a4) ∈ xA := xI4 (List.mem_of_getElem? (i := 224) rfl) rfl
theorem w4_225 : (Cond.methodLink RX4 45 yX4_paces) ∈ xA := xI4 (List.mem_of_getElem? (i := 225) rfl) rfl
theorem w4_226 : (Cond.methodLink RL 256 yL_placeOf) ∈ xA := xI4 (List.mem_of_getElem? (i := 226) rfl) rfl
theorem w4_227 : (Cond.static yL_placeOf) ∈ xA := xI4 (List.mem_of_getElem? (i := 227) rfl) rfl
theorem w4_228 : (Cond.codeWith yL_placeOf cL_placeOf 4 (some FieldType.int) [(0, 9, 12, 18)]) ∈ xA := xI4 (List.mem_of_getElem? (i := 228) rfl) rfl
theorem w4_229 : (Cond.methodLink RL 51 yX6_placeOf) ∈ xA := xI4 (List.mem_of_getElem? (i := 229) rfl) rfl
theorem w4_230 : (Cond.instanceMethod yX6_placeOf) ∈ xA := xI4 (List.mem_of_getElem? (i := 230) rfl) rfl
theorem w4_231 : (Cond.selects RX6 yX6_placeOf yX6_placeOf) ∈ xA := xI4 (List.mem_of_getElem? (i := 231) rfl) rfl
theorem w4_232 : (Cond.code yX6_placeOf cX6_placeOf 2 (some FieldType.int)) ∈ xA := xI4 (List.mem_of_getElem? (i := 232) rfl) rfl
theorem w4_233 : (Cond.methodLink RX6 214 yX6_buyerAt) ∈ xA := xI4 (List.mem_of_getElem? (i := 233) rfl) rfl
theorem w4_235 : (Cond.instanceMethod yX6_buyerAt) ∈ xA := xI4 (List.mem_of_getElem? (i := 235) rfl) rfl
theorem w4_236 : (Cond.code yX6_buyerAt cX6_buyerAt 2 (some (FieldType.object "FogBellMarket$Buyer"))) ∈ xA := xI4 (List.mem_of_getElem? (i := 236) rfl) rfl
theorem w4_237 : (Cond.methodLink RX6 255 yX6_checkBuyer) ∈ xA := xI4 (List.mem_of_getElem? (i := 237) rfl) rfl
theorem w4_239 : (Cond.instanceMethod yX6_checkBuyer) ∈ xA := xI4 (List.mem_of_getElem? (i := 239) rfl) rfl
theorem w5_0 : (Cond.code yX6_checkBuyer cX6_checkBuyer 2 none) ∈ xA := xI5 (List.mem_of_getElem? (i := 0) rfl) rfl
theorem w5_2 : (Cond.methodLink RL 259 yL_coinsOf) ∈ xA := xI5 (List.mem_of_getElem? (i := 2) rfl) rfl
theorem w5_3 : (Cond.static yL_coinsOf) ∈ xA := xI5 (List.mem_of_getElem? (i := 3) rfl) rfl
theorem w5_4 : (Cond.codeWith yL_coinsOf cL_coinsOf 4 (some FieldType.int) [(0, 9, 12, 18)]) ∈ xA := xI5 (List.mem_of_getElem? (i := 4) rfl) rfl
theorem w5_5 : (Cond.methodLink RL 54 yX6_coinsOf) ∈ xA := xI5 (List.mem_of_getElem? (i := 5) rfl) rfl
theorem w5_6 : (Cond.instanceMethod yX6_coinsOf) ∈ xA := xI5 (List.mem_of_getElem? (i := 6) rfl) rfl
theorem w5_7 : (Cond.selects RX6 yX6_coinsOf yX6_coinsOf) ∈ xA := xI5 (List.mem_of_getElem? (i := 7) rfl) rfl
theorem w5_8 : (Cond.code yX6_coinsOf cX6_coinsOf 2 (some FieldType.int)) ∈ xA := xI5 (List.mem_of_getElem? (i := 8) rfl) rfl
theorem w5_9 : (Cond.methodLink RL 262 yL_wantedTexture) ∈ xA := xI5 (List.mem_of_getElem? (i := 9) rfl) rfl
theorem w5_10 : (Cond.static yL_wantedTexture) ∈ xA := xI5 (List.mem_of_getElem? (i := 10) rfl) rfl
theorem w5_11 : (Cond.codeWith yL_wantedTexture cL_wantedTexture 4 (some FieldType.int) [(0, 9, 12, 18)]) ∈ xA := xI5 (List.mem_of_getElem? (i := 11) rfl) rfl
theorem w5_12 : (Cond.methodLink RL 57 yX6_wantedTexture) ∈ xA := xI5 (List.mem_of_getElem? (i := 12) rfl) rfl
theorem w5_13 : (Cond.instanceMethod yX6_wantedTexture) ∈ xA := xI5 (List.mem_of_getElem? (i := 13) rfl) rfl
theorem w5_14 : (Cond.selects RX6 yX6_wantedTexture yX6_wantedTexture) ∈ xA := xI5 (List.mem_of_getElem? (i := 14) rfl) rfl
theorem w5_15 : (Cond.code yX6_wantedTexture cX6_wantedTexture 2 (some FieldType.int)) ∈ xA := xI5 (List.mem_of_getElem? (i := 15) rfl) rfl
theorem w5_16 : (Cond.methodLink RL 265 yL_speedOf) ∈ xA := xI5 (List.mem_of_getElem? (i := 16) rfl) rfl
theorem w5_17 : (Cond.static yL_speedOf) ∈ xA := xI5 (List.mem_of_getElem? (i := 17) rfl) rfl
theorem w5_18 : (Cond.codeWith yL_speedOf cL_speedOf 4 (some FieldType.int) [(0, 9, 12, 18)]) ∈ xA := xI5 (List.mem_of_getElem? (i := 18) rfl) rfl
theorem w5_19 : (Cond.methodLink RL 60 yX6_speedOf) ∈ xA := xI5 (List.mem_of_getElem? (i := 19) rfl) rfl
theorem w5_20 : (Cond.instanceMethod yX6_speedOf) ∈ xA := xI5 (List.mem_of_getElem? (i := 20) rfl) rfl
theorem w5_21 : (Cond.selects RX6 yX6_speedOf yX6_speedOf) ∈ xA := xI5 (List.mem_of_getElem? (i := 21) rfl) rfl
theorem w5_22 : (Cond.code yX6_speedOf cX6_speedOf 2 (some FieldType.int)) ∈ xA := xI5 (List.mem_of_getElem? (i := 22) rfl) rfl
theorem w5_23 : (Cond.methodLink RL 268 yL_heldFrom) ∈ xA := xI5 (List.mem_of_getElem? (i := 23) rfl) rfl
theorem w5_24 : (Cond.static yL_heldFrom) ∈ xA := xI5 (List.mem_of_getElem? (i := 24) rfl) rfl
theorem w5_25 : (Cond.codeWith yL_heldFrom cL_heldFrom 4 (some FieldType.int) [(0, 9, 12, 18)]) ∈ xA := xI5 (List.mem_of_getElem? (i := 25) rfl) rfl
theorem w5_26 : (Cond.methodLink RL 63 yX6_heldFrom) ∈ xA := xI5 (List.mem_of_getElem? (i := 26) rfl) rfl
theorem w5_27 : (Cond.instanceMethod yX6_heldFrom) ∈ xA := xI5 (List.mem_of_getElem? (i := 27) rfl) rfl
theorem w5_28 : (Cond.selects RX6 yX6_heldFrom yX6_heldFrom) ∈ xA := xI5 (List.mem_of_getElem? (i := 28) rfl) rfl
theorem w5_29 : (Cond.code yX6_heldFrom cX6_heldFrom 2 (some FieldType.int)) ∈ xA := xI5 (List.mem_of_getElem? (i := 29) rfl) rfl
theorem w5_30 : (Cond.methodLink RL 271 yL_debtOf) ∈ xA := xI5 (List.mem_of_getElem? (i := 30) rfl) rfl
theorem w5_31 : (Cond.static yL_debtOf) ∈ xA := xI5 (List.mem_of_getElem? (i := 31) rfl) rfl
theorem w5_32 : (Cond.codeWith yL_debtOf cL_debtOf 4 (some FieldType.int) [(0, 9, 12, 18)]) ∈ xA := xI5 (List.mem_of_getElem? (i := 32) rfl) rfl
theorem w5_33 : (Cond.methodLink RL 66 yX6_debtOf) ∈ xA := xI5 (List.mem_of_getElem? (i := 33) rfl) rfl
theorem w5_34 : (Cond.instanceMethod yX6_debtOf) ∈ xA := xI5 (List.mem_of_getElem? (i := 34) rfl) rfl
theorem w5_35 : (Cond.selects RX6 yX6_debtOf yX6_debtOf) ∈ xA := xI5 (List.mem_of_getElem? (i := 35) rfl) rfl
theorem w5_36 : (Cond.code yX6_debtOf cX6_debtOf 2 (some FieldType.int)) ∈ xA := xI5 (List.mem_of_getElem? (i := 36) rfl) rfl
theorem w5_37 : (Cond.methodLink RL 274 yL_avoidedBy) ∈ xA := xI5 (List.mem_of_getElem? (i := 37) rfl) rfl
theorem w5_38 : (Cond.static yL_avoidedBy) ∈ xA := xI5 (List.mem_of_getElem? (i := 38) rfl) rfl
theorem w5_39 : (Cond.codeWith yL_avoidedBy cL_avoidedBy 4 (some FieldType.int) [(0, 9, 12, 18)]) ∈ xA := xI5 (List.mem_of_getElem? (i := 39) rfl) rfl
theorem w5_40 : (Cond.methodLink RL 69 yX6_avoidedBy) ∈ xA := xI5 (List.mem_of_getElem? (i := 40) rfl) rfl
theorem w5_41 : (Cond.instanceMethod yX6_avoidedBy) ∈ xA := xI5 (List.mem_of_getElem? (i := 41) rfl) rfl
theorem w5_42 : (Cond.selects RX6 yX6_avoidedBy yX6_avoidedBy) ∈ xA := xI5 (List.mem_of_getElem? (i := 42) rfl) rfl
theorem w5_43 : (Cond.code yX6_avoidedBy cX6_avoidedBy 2 (some FieldType.int)) ∈ xA := xI5 (List.mem_of_getElem? (i := 43) rfl) rfl
theorem w5_44 : (Cond.methodLink RL 277 yL_boughtBy) ∈ xA := xI5 (List.mem_of_getElem? (i := 44) rfl) rfl
theorem w5_45 : (Cond.static yL_boughtBy) ∈ xA := xI5 (List.mem_of_getElem? (i := 45) rfl) rfl
theorem w5_46 : (Cond.codeWith yL_boughtBy cL_boughtBy 4 (some FieldType.int) [(0, 9, 12, 18)]) ∈ xA := xI5 (List.mem_of_getElem? (i := 46) rfl) rfl
theorem w5_47 : (Cond.methodLink RL 72 yX6_boughtBy) ∈ xA := xI5 (List.mem_of_getElem? (i := 47) rfl) rfl
theorem w5_48 : (Cond.instanceMethod yX6_boughtBy) ∈ xA := xI5 (List.mem_of_getElem? (i := 48) rfl) rfl
theorem w5_49 : (Cond.selects RX6 yX6_boughtBy yX6_boughtBy) ∈ xA := xI5 (List.mem_of_getElem? (i := 49) rfl) rfl
theorem w5_50 : (Cond.code yX6_boughtBy cX6_boughtBy 2 (some FieldType.int)) ∈ xA := xI5 (List.mem_of_getElem? (i := 50) rfl) rfl
theorem w5_51 : (Cond.methodLink RL 280 yL_targetOf) ∈ xA := xI5 (List.mem_of_getElem? (i := 51) rfl) rfl
theorem w5_52 : (Cond.static yL_targetOf) ∈ xA := xI5 (List.mem_of_getElem? (i := 52) rfl) rfl
theorem w5_53 : (Cond.codeWith yL_targetOf cL_targetOf 4 (some FieldType.int) [(0, 9, 12, 18)]) ∈ xA := xI5 (List.mem_of_getElem? (i := 53) rfl) rfl
theorem w5_54 : (Cond.methodLink RL 75 yX6_targetOf) ∈ xA := xI5 (List.mem_of_getElem? (i := 54) rfl) rfl
theorem w5_55 : (Cond.instanceMethod yX6_targetOf) ∈ xA := xI5 (List.mem_of_getElem? (i := 55) rfl) rfl
theorem w5_56 : (Cond.selects RX6 yX6_targetOf yX6_targetOf) ∈ xA := xI5 (List.mem_of_getElem? (i := 56) rfl) rfl
theorem w5_57 : (Cond.code yX6_targetOf cX6_targetOf 3 (some FieldType.int)) ∈ xA := xI5 (List.mem_of_getElem? (i := 57) rfl) rfl
theorem w5_58 : (Cond.methodLink RX6 242 yX1_holds) ∈ xA := xI5 (List.mem_of_getElem? (i := 58) rfl) rfl
theorem w5_59 : (Cond.methodLink RX6 245 yX2_findTarget) ∈ xA := xI5 (List.mem_of_getElem? (i := 59) rfl) rfl
theorem w5_60 : (Cond.methodLink RL 283 yL_touch) ∈ xA := xI5 (List.mem_of_getElem? (i := 60) rfl) rfl
theorem w5_61 : (Cond.static yL_touch) ∈ xA := xI5 (List.mem_of_getElem? (i := 61) rfl) rfl
theorem w5_62 : (Cond.codeWith yL_touch cL_touch 5 (some FieldType.int) [(0, 10, 13, 18)]) ∈ xA := xI5 (List.mem_of_getElem? (i := 62) rfl) rfl
theorem w5_63 : (Cond.methodLink RL 78 yX6_touch) ∈ xA := xI5 (List.mem_of_getElem? (i := 63) rfl) rfl
theorem w5_64 : (Cond.instanceMethod yX6_touch) ∈ xA := xI5 (List.mem_of_getElem? (i := 64) rfl) rfl
theorem w5_65 : (Cond.selects RX6 yX6_touch yX6_touch) ∈ xA := xI5 (List.mem_of_getElem? (i := 65) rfl) rfl
theorem w5_66 : (Cond.code yX6_touch cX6_touch 3 (some FieldType.int)) ∈ xA := xI5 (List.mem_of_getElem? (i := 66) rfl) rfl
theorem w5_67 : (Cond.methodLink RX6 249 yX1_feel) ∈ xA := xI5 (List.mem_of_getElem? (i := 67) rfl) rfl
theorem w5_68 : (Cond.methodLink RL 304 yL_minutesToPay) ∈ xA := xI5 (List.mem_of_getElem? (i := 68) rfl) rfl
theorem w5_69 : (Cond.static yL_minutesToPay) ∈ xA := xI5 (List.mem_of_getElem? (i := 69) rfl) rfl
theorem w5_70 : (Cond.codeWith yL_minutesToPay cL_minutesToPay 4 (some FieldType.int) [(0, 9, 12, 18)]) ∈ xA := xI5 (List.mem_of_getElem? (i := 70) rfl) rfl
theorem w5_71 : (Cond.methodLink RL 81 yX6_minutesToPay) ∈ xA := xI5 (List.mem_of_getElem? (i := 71) rfl) rfl
theorem w5_72 : (Cond.instanceMethod yX6_minutesToPay) ∈ xA := xI5 (List.mem_of_getElem? (i := 72) rfl) rfl
theorem w5_73 : (Cond.selects RX6 yX6_minutesToPay yX6_minutesToPay) ∈ xA := xI5 (List.mem_of_getElem? (i := 73) rfl) rfl
theorem w5_74 : (Cond.code yX6_minutesToPay cX6_minutesToPay 4 (some FieldType.int)) ∈ xA := xI5 (List.mem_of_getElem? (i := 74) rfl) rfl
theorem w5_75 : (Cond.methodLink RL 307 yL_earningsAfter) ∈ xA := xI5 (List.mem_of_getElem? (i := 75) rfl) rfl
theorem w5_76 : (Cond.static yL_earningsAfter) ∈ xA := xI5 (List.mem_of_getElem? (i := 76) rfl) rfl
theorem w5_77 : (Cond.codeWith yL_earningsAfter cL_earningsAfter 5 (some FieldType.int) [(0, 10, 13, 18), (0, 10, 17, 13)]) ∈ xA := xI5 (List.mem_of_getElem? (i := 77) rfl) rfl
theorem w5_78 : (Cond.methodLink RL 84 yX6_earningsAfter) ∈ xA := xI5 (List.mem_of_getElem? (i := 78) rfl) rfl
theorem w5_79 : (Cond.instanceMethod yX6_earningsAfter) ∈ xA := xI5 (List.mem_of_getElem? (i := 79) rfl) rfl
theorem w5_80 : (Cond.selects RX6 yX6_earningsAfter yX6_earningsAfter) ∈ xA := xI5 (List.mem_of_getElem? (i := 80) rfl) rfl
theorem w5_81 : (Cond.code yX6_earningsAfter cX6_earningsAfter 3 (some FieldType.int)) ∈ xA := xI5 (List.mem_of_getElem? (i := 81) rfl) rfl
theorem w5_82 : (Cond.methodLink RL 310 yL_bestPrice) ∈ xA := xI5 (List.mem_of_getElem? (i := 82) rfl) rfl
theorem w5_83 : (Cond.static yL_bestPrice) ∈ xA := xI5 (List.mem_of_getElem? (i := 83) rfl) rfl
theorem w5_84 : (Cond.codeWith yL_bestPrice cL_bestPrice 4 (some FieldType.int) [(0, 9, 12, 18)]) ∈ xA := xI5 (List.mem_of_getElem? (i := 84) rfl) rfl
theorem w5_85 : (Cond.methodLink RL 87 yX6_bestPrice) ∈ xA := xI5 (List.mem_of_getElem? (i := 85) rfl) rfl
theorem w5_86 : (Cond.instanceMethod yX6_bestPrice) ∈ xA := xI5 (List.mem_of_getElem? (i := 86) rfl) rfl
theorem w5_87 : (Cond.selects RX6 yX6_bestPrice yX6_bestPrice) ∈ xA := xI5 (List.mem_of_getElem? (i := 87) rfl) rfl
theorem w5_88 : (Cond.code yX6_bestPrice cX6_bestPrice 5 (some FieldType.int)) ∈ xA := xI5 (List.mem_of_getElem? (i := 88) rfl) rfl
theorem w5_89 : (Cond.methodLink RL 313 yL_bestLantern) ∈ xA := xI5 (List.mem_of_getElem? (i := 89) rfl) rfl
theorem w5_90 : (Cond.static yL_bestLantern) ∈ xA := xI5 (List.mem_of_getElem? (i := 90) rfl) rfl
theorem w5_91 : (Cond.codeWith yL_bestLantern cL_bestLantern 4 (some FieldType.int) [(0, 9, 12, 18)]) ∈ xA := xI5 (List.mem_of_getElem? (i := 91) rfl) rfl
theorem w5_92 : (Cond.methodLink RL 90 yX6_bestLantern) ∈ xA := xI5 (List.mem_of_getElem? (i := 92) rfl) rfl
theorem w5_93 : (Cond.instanceMethod yX6_bestLantern) ∈ xA := xI5 (List.mem_of_getElem? (i := 93) rfl) rfl
theorem w5_94 : (Cond.selects RX6 yX6_bestLantern yX6_bestLantern) ∈ xA := xI5 (List.mem_of_getElem? (i := 94) rfl) rfl
theorem w5_95 : (Cond.code yX6_bestLantern cX6_bestLantern 5 (some FieldType.int)) ∈ xA := xI5 (List.mem_of_getElem? (i := 95) rfl) rfl
theorem w5_96 : (Cond.methodLink RL 324 yL_addStall) ∈ xA := xI5 (List.mem_of_getElem? (i := 96) rfl) rfl
theorem w5_97 : (Cond.static yL_addStall) ∈ xA := xI5 (List.mem_of_getElem? (i := 97) rfl) rfl
theorem w5_98 : (Cond.codeWith yL_addStall cL_addStall 8 (some FieldType.int) [(0, 16, 19, 13), (0, 16, 23, 97)]) ∈ xA := xI5 (List.mem_of_getElem? (i := 98) rfl) rfl
theorem w5_99 : (Cond.classLink RL 97 "java/lang/IllegalStateException") ∈ xA := xI5 (List.mem_of_getElem? (i := 99) rfl) rfl
theorem w5_100 : (Cond.methodLink RL 93 yX6_addStall) ∈ xA := xI5 (List.mem_of_getElem? (i := 100) rfl) rfl
theorem w5_101 : (Cond.instanceMethod yX6_addStall) ∈ xA := xI5 (List.mem_of_getElem? (i := 101) rfl) rfl
theorem w5_102 : (Cond.selects RX6 yX6_addStall yX6_addStall) ∈ xA := xI5 (List.mem_of_getElem? (i := 102) rfl) rfl
theorem w5_103 : (Cond.code yX6_addStall cX6_addStall 6 (some FieldType.int)) ∈ xA := xI5 (List.mem_of_getElem? (i := 103) rfl) rfl
theorem w5_104 : (Cond.classLink RX6 279 "java/lang/IllegalStateException") ∈ xA := xI5 (List.mem_of_getElem? (i := 104) rfl) rfl
theorem w5_105 : (Cond.instantiable "java/lang/IllegalStateException" 6) ∈ xA := xI5 (List.mem_of_getElem? (i := 105) rfl) rfl
theorem w5_107 : (Cond.selects "java/lang/IllegalStateException" (⟨"java/lang/Throwable", "fillInStackTrace", "(I)Ljava/lang/Throwable;"⟩) (⟨"java/lang/Throwable", "fillInStackTrace", "(I)Ljava/lang/Throwable;"⟩)) ∈ xA := xI5 (List.mem_of_getElem? (i := 107) rfl) rfl
theorem w5_108 : (Cond.lays "java/lang/IllegalStateException" "java/lang/Throwable" "cause" "Ljava/lang/Throwable;") ∈ xA := xI5 (List.mem_of_getElem? (i := 108) rfl) rfl
theorem w5_109 : (Cond.lays "java/lang/IllegalStateException" "java/lang/Throwable" "stackTrace" "[Ljava/lang/StackTraceElement;") ∈ xA := xI5 (List.mem_of_getElem? (i := 109) rfl) rfl
theorem w5_110 : (Cond.lays "java/lang/IllegalStateException" "java/lang/Throwable" "suppressedExceptions" "Ljava/util/List;") ∈ xA := xI5 (List.mem_of_getElem? (i := 110) rfl) rfl
theorem w5_111 : (Cond.lays "java/lang/IllegalStateException" "java/lang/Throwable" "detailMessage" "Ljava/lang/String;") ∈ xA := xI5 (List.mem_of_getElem? (i := 111) rfl) rfl
theorem w5_112 : (Cond.lays "java/lang/IllegalStateException" "java/lang/Throwable" "backtrace" "Ljava/lang/Object;") ∈ xA := xI5 (List.mem_of_getElem? (i := 112) rfl) rfl
theorem w5_114 : (Cond.methodLink RX6 283 (⟨"java/lang/IllegalStateException", "<init>", "(Ljava/lang/String;)V"⟩)) ∈ xA := xI5 (List.mem_of_getElem? (i := 114) rfl) rfl
theorem w5_115 : (Cond.instanceMethod (⟨"java/lang/IllegalStateException", "<init>", "(Ljava/lang/String;)V"⟩)) ∈ xA := xI5 (List.mem_of_getElem? (i := 115) rfl) rfl
theorem w5_116 : (Cond.code (⟨"java/lang/IllegalStateException", "<init>", "(Ljava/lang/String;)V"⟩) prog_16_method_2_code 2 none) ∈ xA := xI5 (List.mem_of_getElem? (i := 116) rfl) rfl
theorem w5_117 : (Cond.methodLink "java/lang/IllegalStateException" 7 (⟨"java/lang/RuntimeException", "<init>", "(Ljava/lang/String;)V"⟩)) ∈ xA := xI5 (List.mem_of_getElem? (i := 117) rfl) rfl
theorem w5_118 : (Cond.lays "java/lang/IllegalStateException" "java/lang/Throwable" "depth" "I") ∈ xA := xI5 (List.mem_of_getElem? (i := 118) rfl) rfl
theorem w5_120 : (Cond.methodLink RX6 284 yX2_placeStall) ∈ xA := xI5 (List.mem_of_getElem? (i := 120) rfl) rfl
theorem w5_121 : (Cond.methodLink RL 328 yL_addBuyer) ∈ xA := xI5 (List.mem_of_getElem? (i := 121) rfl) rfl
theorem w5_122 : (Cond.static yL_addBuyer) ∈ xA := xI5 (List.mem_of_getElem? (i := 122) rfl) rfl
theorem w5_123 : (Cond.codeWith yL_addBuyer cL_addBuyer 7 (some FieldType.int) [(0, 14, 17, 13), (0, 14, 21, 97)]) ∈ xA := xI5 (List.mem_of_getElem? (i := 123) rfl) rfl
theorem w5_124 : (Cond.methodLink RL 99 yX6_addBuyer) ∈ xA := xI5 (List.mem_of_getElem? (i := 124) rfl) rfl
theorem w5_125 : (Cond.instanceMethod yX6_addBuyer) ∈ xA := xI5 (List.mem_of_getElem? (i := 125) rfl) rfl
theorem w5_126 : (Cond.selects RX6 yX6_addBuyer yX6_addBuyer) ∈ xA := xI5 (List.mem_of_getElem? (i := 126) rfl) rfl
theorem w5_127 : (Cond.code yX6_addBuyer cX6_addBuyer 5 (some FieldType.int)) ∈ xA := xI5 (List.mem_of_getElem? (i := 127) rfl) rfl
theorem w5_129 : (Cond.methodLink RX6 290 yX2_placeBuyer) ∈ xA := xI5 (List.mem_of_getElem? (i := 129) rfl) rfl
theorem w5_130 : (Cond.methodLink RL 332 yL_setPrice) ∈ xA := xI5 (List.mem_of_getElem? (i := 130) rfl) rfl
theorem w5_131 : (Cond.static yL_setPrice) ∈ xA := xI5 (List.mem_of_getElem? (i := 131) rfl) rfl
theorem w5_132 : (Cond.codeWith yL_setPrice cL_setPrice 5 (some FieldType.int) [(0, 10, 13, 18), (0, 10, 17, 13)]) ∈ xA := xI5 (List.mem_of_getElem? (i := 132) rfl) rfl
theorem w5_133 : (Cond.methodLink RL 103 yX6_setPrice) ∈ xA := xI5 (List.mem_of_getElem? (i := 133) rfl) rfl
theorem w5_134 : (Cond.instanceMethod yX6_setPrice) ∈ xA := xI5 (List.mem_of_getElem? (i := 134) rfl) rfl
theorem w5_135 : (Cond.selects RX6 yX6_setPrice yX6_setPrice) ∈ xA := xI5 (List.mem_of_getElem? (i := 135) rfl) rfl
theorem w5_136 : (Cond.code yX6_setPrice cX6_setPrice 5 (some FieldType.int)) ∈ xA := xI5 (List.mem_of_getElem? (i := 136) rfl) rfl
theorem w5_137 : (Cond.methodLink RL 335 yL_addStock) ∈ xA := xI5 (List.mem_of_getElem? (i := 137) rfl) rfl
theorem w5_138 : (Cond.static yL_addStock) ∈ xA := xI5 (List.mem_of_getElem? (i := 138) rfl) rfl
theorem w5_139 : (Cond.codeWith yL_addStock cL_addStock 5 (some FieldType.int) [(0, 10, 13, 18), (0, 10, 17, 13), (0, 10, 21, 97)]) ∈ xA := xI5 (List.mem_of_getElem? (i := 139) rfl) rfl
theorem w5_140 : (Cond.methodLink RL 106 yX6_addStock) ∈ xA := xI5 (List.mem_of_getElem? (i := 140) rfl) rfl
theorem w5_141 : (Cond.instanceMethod yX6_addStock) ∈ xA := xI5 (List.mem_of_getElem? (i := 141) rfl) rfl
theorem w5_142 : (Cond.selects RX6 yX6_addStock yX6_addStock) ∈ xA := xI5 (List.mem_of_getElem? (i := 142) rfl) rfl
theorem w5_143 : (Cond.code yX6_addStock cX6_addStock 4 (some FieldType.int)) ∈ xA := xI5 (List.mem_of_getElem? (i := 143) rfl) rfl
theorem w5_144 : (Cond.methodLink RX6 294 yX4_hasRoomFor) ∈ xA := xI5 (List.mem_of_getElem? (i := 144) rfl) rfl
theorem w5_146 : (Cond.methodLink RX6 300 yX4_receive) ∈ xA := xI5 (List.mem_of_getElem? (i := 146) rfl) rfl
theorem w5_147 : (Cond.methodLink RL 338 yL_setLantern) ∈ xA := xI5 (List.mem_of_getElem? (i := 147) rfl) rfl
theorem w5_148 : (Cond.static yL_setLantern) ∈ xA := xI5 (List.mem_of_getElem? (i := 148) rfl) rfl
theorem w5_149 : (Cond.codeWith yL_setLantern cL_setLantern 5 (some FieldType.int) [(0, 10, 13, 18), (0, 10, 17, 13)]) ∈ xA := xI5 (List.mem_of_getElem? (i := 149) rfl) rfl
theorem w5_150 : (Cond.methodLink RL 109 yX6_setLantern) ∈ xA := xI5 (List.mem_of_getElem? (i := 150) rfl) rfl
theorem w5_151 : (Cond.instanceMethod yX6_setLantern) ∈ xA := xI5 (List.mem_of_getElem? (i := 151) rfl) rfl
theorem w5_152 : (Cond.selects RX6 yX6_setLantern yX6_setLantern) ∈ xA := xI5 (List.mem_of_getElem? (i := 152) rfl) rfl
theorem w5_153 : (Cond.code yX6_setLantern cX6_setLantern 5 (some FieldType.int)) ∈ xA := xI5 (List.mem_of_getElem? (i := 153) rfl) rfl
theorem w5_154 : (Cond.methodLink RL 341 yL_moveStall) ∈ xA := xI5 (List.mem_of_getElem? (i := 154) rfl) rfl
theorem w5_155 : (Cond.static yL_moveStall) ∈ xA := xI5 (List.mem_of_getElem? (i := 155) rfl) rfl
theorem w5_156 : (Cond.codeWith yL_moveStall cL_moveStall 5 (some FieldType.int) [(0, 10, 13, 18), (0, 10, 17, 13)]) ∈ xA := xI5 (List.mem_of_getElem? (i := 156) rfl) rfl
theorem w5_157 : (Cond.methodLink RL 112 yX6_moveStall) ∈ xA := xI5 (List.mem_of_getElem? (i := 157) rfl) rfl
theorem w5_158 : (Cond.instanceMethod yX6_moveStall) ∈ xA := xI5 (List.mem_of_getElem? (i := 158) rfl) rfl
theorem w5_159 : (Cond.selects RX6 yX6_moveStall yX6_moveStall) ∈ xA := xI5 (List.mem_of_getElem? (i := 159) rfl) rfl
theorem w5_160 : (Cond.code yX6_moveStall cX6_moveStall 5 (some FieldType.int)) ∈ xA := xI5 (List.mem_of_getElem? (i := 160) rfl) rfl
theorem w5_161 : (Cond.methodLink RL 344 yL_setFog) ∈ xA := xI5 (List.mem_of_getElem? (i := 161) rfl) rfl
theorem w5_162 : (Cond.static yL_setFog) ∈ xA := xI5 (List.mem_of_getElem? (i := 162) rfl) rfl
theorem w5_163 : (Cond.codeWith yL_setFog cL_setFog 5 (some FieldType.int) [(0, 10, 13, 18), (0, 10, 17, 13)]) ∈ xA := xI5 (List.mem_of_getElem? (i := 163) rfl) rfl
theorem w5_164 : (Cond.methodLink RL 115 yX6_setFog) ∈ xA := xI5 (List.mem_of_getElem? (i := 164) rfl) rfl
theorem w5_165 : (Cond.instanceMethod yX6_setFog) ∈ xA := xI5 (List.mem_of_getElem? (i := 165) rfl) rfl
theorem w5_166 : (Cond.selects RX6 yX6_setFog yX6_setFog) ∈ xA := xI5 (List.mem_of_getElem? (i := 166) rfl) rfl
theorem w5_167 : (Cond.code yX6_setFog cX6_setFog 4 (some FieldType.int)) ∈ xA := xI5 (List.mem_of_getElem? (i := 167) rfl) rfl
theorem w5_169 : (Cond.methodLink RL 347 yL_putBack) ∈ xA := xI5 (List.mem_of_getElem? (i := 169) rfl) rfl
theorem w5_170 : (Cond.static yL_putBack) ∈ xA := xI5 (List.mem_of_getElem? (i := 170) rfl) rfl
theorem w5_171 : (Cond.codeWith yL_putBack cL_putBack 4 (some FieldType.int) [(0, 9, 12, 18), (0, 9, 15, 97)]) ∈ xA := xI5 (List.mem_of_getElem? (i := 171) rfl) rfl
theorem w5_172 : (Cond.methodLink RL 118 yX6_putBack) ∈ xA := xI5 (List.mem_of_getElem? (i := 172) rfl) rfl
theorem w5_173 : (Cond.instanceMethod yX6_putBack) ∈ xA := xI5 (List.mem_of_getElem? (i := 173) rfl) rfl
theorem w5_174 : (Cond.selects RX6 yX6_putBack yX6_putBack) ∈ xA := xI5 (List.mem_of_getElem? (i := 174) rfl) rfl
theorem w5_175 : (Cond.code yX6_putBack cX6_putBack 4 (some FieldType.int)) ∈ xA := xI5 (List.mem_of_getElem? (i := 175) rfl) rfl
theorem w5_177 : (Cond.methodLink RX6 314 yX2_returnAndAvoid) ∈ xA := xI5 (List.mem_of_getElem? (i := 177) rfl) rfl
theorem w5_178 : (Cond.methodLink RL 350 yL_passMinutes) ∈ xA := xI5 (List.mem_of_getElem? (i := 178) rfl) rfl
theorem w5_179 : (Cond.static yL_passMinutes) ∈ xA := xI5 (List.mem_of_getElem? (i := 179) rfl) rfl
theorem w5_180 : (Cond.codeWith yL_passMinutes cL_passMinutes 4 (some FieldType.int) [(0, 9, 12, 13)]) ∈ xA := xI5 (List.mem_of_getElem? (i := 180) rfl) rfl
theorem w5_181 : (Cond.methodLink RL 121 yX6_passMinutes) ∈ xA := xI5 (List.mem_of_getElem? (i := 181) rfl) rfl
theorem w5_182 : (Cond.instanceMethod yX6_passMinutes) ∈ xA := xI5 (List.mem_of_getElem? (i := 182) rfl) rfl
theorem w5_183 : (Cond.selects RX6 yX6_passMinutes yX6_passMinutes) ∈ xA := xI5 (List.mem_of_getElem? (i := 183) rfl) rfl
theorem w5_184 : (Cond.code yX6_passMinutes cX6_passMinutes 3 (some FieldType.int)) ∈ xA := xI5 (List.mem_of_getElem? (i := 184) rfl) rfl
theorem w5_185 : (Cond.methodLink RL 353 yL_undo) ∈ xA := xI5 (List.mem_of_getElem? (i := 185) rfl) rfl
theorem w5_186 : (Cond.static yL_undo) ∈ xA := xI5 (List.mem_of_getElem? (i := 186) rfl) rfl
theorem w5_187 : (Cond.codeWith yL_undo cL_undo 3 (some FieldType.int) [(0, 8, 11, 97)]) ∈ xA := xI5 (List.mem_of_getElem? (i := 187) rfl) rfl
theorem w5_188 : (Cond.methodLink RL 124 yX6_undo) ∈ xA := xI5 (List.mem_of_getElem? (i := 188) rfl) rfl
theorem w5_189 : (Cond.instanceMethod yX6_undo) ∈ xA := xI5 (List.mem_of_getElem? (i := 189) rfl) rfl
theorem w5_190 : (Cond.selects RX6 yX6_undo yX6_undo) ∈ xA := xI5 (List.mem_of_getElem? (i := 190) rfl) rfl
theorem w5_191 : (Cond.code yX6_undo cX6_undo 1 (some FieldType.int)) ∈ xA := xI5 (List.mem_of_getElem? (i := 191) rfl) rfl
theorem w5_193 : (Cond.methodLink RL 357 yL_save) ∈ xA := xI5 (List.mem_of_getElem? (i := 193) rfl) rfl
theorem w5_194 : (Cond.static yL_save) ∈ xA := xI5 (List.mem_of_getElem? (i := 194) rfl) rfl
theorem w5_195 : (Cond.codeWith yL_save cL_save 4 (some FieldType.int) [(0, 9, 12, 13)]) ∈ xA := xI5 (List.mem_of_getElem? (i := 195) rfl) rfl
theorem w5_196 : (Cond.methodLink RL 128 yX6_save) ∈ xA := xI5 (List.mem_of_getElem? (i := 196) rfl) rfl
theorem w5_197 : (Cond.instanceMethod yX6_save) ∈ xA := xI5 (List.mem_of_getElem? (i := 197) rfl) rfl
theorem w5_198 : (Cond.selects RX6 yX6_save yX6_save) ∈ xA := xI5 (List.mem_of_getElem? (i := 198) rfl) rfl
theorem w5_199 : (Cond.code yX6_save cX6_save 2 (some FieldType.int)) ∈ xA := xI5 (List.mem_of_getElem? (i := 199) rfl) rfl
theorem w5_200 : (Cond.methodLink RL 360 yL_restore) ∈ xA := xI5 (List.mem_of_getElem? (i := 200) rfl) rfl
theorem w5_201 : (Cond.static yL_restore) ∈ xA := xI5 (List.mem_of_getElem? (i := 201) rfl) rfl
theorem w5_202 : (Cond.codeWith yL_restore cL_restore 4 (some FieldType.int) [(0, 9, 12, 13), (0, 9, 15, 134)]) ∈ xA := xI5 (List.mem_of_getElem? (i := 202) rfl) rfl
theorem w5_203 : (Cond.classLink RL 134 "java/util/NoSuchElementException") ∈ xA := xI5 (List.mem_of_getElem? (i := 203) rfl) rfl
theorem w5_204 : (Cond.methodLink RL 131 yX6_restore) ∈ xA := xI5 (List.mem_of_getElem? (i := 204) rfl) rfl
theorem w5_205 : (Cond.instanceMethod yX6_restore) ∈ xA := xI5 (List.mem_of_getElem? (i := 205) rfl) rfl
theorem w5_206 : (Cond.selects RX6 yX6_restore yX6_restore) ∈ xA := xI5 (List.mem_of_getElem? (i := 206) rfl) rfl
theorem w5_207 : (Cond.code yX6_restore cX6_restore 2 (some FieldType.int)) ∈ xA := xI5 (List.mem_of_getElem? (i := 207) rfl) rfl
theorem w5_208 : (Cond.classLink RX6 326 "java/util/NoSuchElementException") ∈ xA := xI5 (List.mem_of_getElem? (i := 208) rfl) rfl
theorem w5_209 : (Cond.instantiable "java/util/NoSuchElementException" 6) ∈ xA := xI5 (List.mem_of_getElem? (i := 209) rfl) rfl
theorem w5_211 : (Cond.selects "java/util/NoSuchElementException" (⟨"java/lang/Throwable", "fillInStackTrace", "(I)Ljava/lang/Throwable;"⟩) (⟨"java/lang/Throwable", "fillInStackTrace", "(I)Ljava/lang/Throwable;"⟩)) ∈ xA := xI5 (List.mem_of_getElem? (i := 211) rfl) rfl
theorem w5_212 : (Cond.lays "java/util/NoSuchElementException" "java/lang/Throwable" "cause" "Ljava/lang/Throwable;") ∈ xA := xI5 (List.mem_of_getElem? (i := 212) rfl) rfl
theorem w5_213 : (Cond.lays "java/util/NoSuchElementException" "java/lang/Throwable" "stackTrace" "[Ljava/lang/StackTraceElement;") ∈ xA := xI5 (List.mem_of_getElem? (i := 213) rfl) rfl
theorem w5_214 : (Cond.lays "java/util/NoSuchElementException" "java/lang/Throwable" "suppressedExceptions" "Ljava/util/List;") ∈ xA := xI5 (List.mem_of_getElem? (i := 214) rfl) rfl
theorem w5_215 : (Cond.lays "java/util/NoSuchElementException" "java/lang/Throwable" "detailMessage" "Ljava/lang/String;") ∈ xA := xI5 (List.mem_of_getElem? (i := 215) rfl) rfl
theorem w5_216 : (Cond.lays "java/util/NoSuchElementException" "java/lang/Throwable" "backtrace" "Ljava/lang/Object;") ∈ xA := xI5 (List.mem_of_getElem? (i := 216) rfl) rfl
theorem w5_218 : (Cond.methodLink RX6 330 (⟨"java/util/NoSuchElementException", "<init>", "(Ljava/lang/String;)V"⟩)) ∈ xA := xI5 (List.mem_of_getElem? (i := 218) rfl) rfl
theorem w5_219 : (Cond.instanceMethod (⟨"java/util/NoSuchElementException", "<init>", "(Ljava/lang/String;)V"⟩)) ∈ xA := xI5 (List.mem_of_getElem? (i := 219) rfl) rfl
theorem w5_220 : (Cond.code (⟨"java/util/NoSuchElementException", "<init>", "(Ljava/lang/String;)V"⟩) prog_26_method_4_code 2 none) ∈ xA := xI5 (List.mem_of_getElem? (i := 220) rfl) rfl
theorem w5_221 : (Cond.methodLink "java/util/NoSuchElementException" 13 (⟨"java/lang/RuntimeException", "<init>", "(Ljava/lang/String;)V"⟩)) ∈ xA := xI5 (List.mem_of_getElem? (i := 221) rfl) rfl
theorem w5_222 : (Cond.lays "java/util/NoSuchElementException" "java/lang/Throwable" "depth" "I") ∈ xA := xI5 (List.mem_of_getElem? (i := 222) rfl) rfl
theorem w5_224 : (Cond.classLink RL 137 "FogBellMarketModel") ∈ xA := xI5 (List.mem_of_getElem? (i := 224) rfl) rfl
theorem w5_225 : (Cond.instantiable RX7 20) ∈ xA := xI5 (List.mem_of_getElem? (i := 225) rfl) rfl
theorem w5_226 : (Cond.methodLink RL 139 yX7_init) ∈ xA := xI5 (List.mem_of_getElem? (i := 226) rfl) rfl
theorem w5_227 : (Cond.instanceMethod yX7_init) ∈ xA := xI5 (List.mem_of_getElem? (i := 227) rfl) rfl
theorem w5_228 : (Cond.code yX7_init cX7_init 3 none) ∈ xA := xI5 (List.mem_of_getElem? (i := 228) rfl) rfl
theorem w5_229 : (Cond.methodLink RX7 1 (⟨"java/lang/Object", "<init>", "()V"⟩)) ∈ xA := xI5 (List.mem_of_getElem? (i := 229) rfl) rfl
theorem w5_231 : (Cond.methodLink RX7 44 yJ0_length_8abf5) ∈ xA := xI5 (List.mem_of_getElem? (i := 231) rfl) rfl
theorem w5_232 : (Cond.methodLink RX7 50 yJ0_charAt_5068e) ∈ xA := xI5 (List.mem_of_getElem? (i := 232) rfl) rfl
theorem w5_233 : (Cond.methodLink RX7 57 yX7_loadSetup) ∈ xA := xI5 (List.mem_of_getElem? (i := 233) rfl) rfl
theorem w5_234 : (Cond.instanceMethod yX7_loadSetup) ∈ xA := xI5 (List.mem_of_getElem? (i := 234) rfl) rfl
theorem w5_235 : (Cond.selects RX7 yX7_loadSetup yX7_loadSetup) ∈ xA := xI5 (List.mem_of_getElem? (i := 235) rfl) rfl
theorem w5_236 : (Cond.code yX7_loadSetup cX7_loadSetup 2 (some FieldType.int)) ∈ xA := xI5 (List.mem_of_getElem? (i := 236) rfl) rfl
theorem w5_237 : (Cond.methodLink RX7 283 yX7_startTrial) ∈ xA := xI5 (List.mem_of_getElem? (i := 237) rfl) rfl
theorem w5_239 : (Cond.instanceMethod yX7_startTrial) ∈ xA := xI5 (List.mem_of_getElem? (i := 239) rfl) rfl
theorem w6_0 : (Cond.code yX7_startTrial cX7_startTrial 2 none) ∈ xA := xI6 (List.mem_of_getElem? (i := 0) rfl) rfl
theorem w6_1 : (Cond.methodLink RX7 286 yX7_startText) ∈ xA := xI6 (List.mem_of_getElem? (i := 1) rfl) rfl
theorem w6_3 : (Cond.instanceMethod yX7_startText) ∈ xA := xI6 (List.mem_of_getElem? (i := 3) rfl) rfl
theorem w6_4 : (Cond.code yX7_startText cX7_startText 1 none) ∈ xA := xI6 (List.mem_of_getElem? (i := 4) rfl) rfl
theorem w6_5 : (Cond.methodLink RX7 180 yX7_next) ∈ xA := xI6 (List.mem_of_getElem? (i := 5) rfl) rfl
theorem w6_7 : (Cond.instanceMethod yX7_next) ∈ xA := xI6 (List.mem_of_getElem? (i := 7) rfl) rfl
theorem w6_8 : (Cond.code yX7_next cX7_next 2 none) ∈ xA := xI6 (List.mem_of_getElem? (i := 8) rfl) rfl
theorem w6_9 : (Cond.methodLink RX7 159 yX7_isSmall) ∈ xA := xI6 (List.mem_of_getElem? (i := 9) rfl) rfl
theorem w6_10 : (Cond.static yX7_isSmall) ∈ xA := xI6 (List.mem_of_getElem? (i := 10) rfl) rfl
theorem w6_11 : (Cond.code yX7_isSmall cX7_isSmall 1 (some FieldType.boolean)) ∈ xA := xI6 (List.mem_of_getElem? (i := 11) rfl) rfl
theorem w6_12 : (Cond.methodLink RX7 147 yX7_inRange) ∈ xA := xI6 (List.mem_of_getElem? (i := 12) rfl) rfl
theorem w6_13 : (Cond.static yX7_inRange) ∈ xA := xI6 (List.mem_of_getElem? (i := 13) rfl) rfl
theorem w6_14 : (Cond.code yX7_inRange cX7_inRange 3 (some FieldType.boolean)) ∈ xA := xI6 (List.mem_of_getElem? (i := 14) rfl) rfl
theorem w6_15 : (Cond.methodLink RX7 163 yX7_isDigit) ∈ xA := xI6 (List.mem_of_getElem? (i := 15) rfl) rfl
theorem w6_16 : (Cond.static yX7_isDigit) ∈ xA := xI6 (List.mem_of_getElem? (i := 16) rfl) rfl
theorem w6_17 : (Cond.code yX7_isDigit cX7_isDigit 1 (some FieldType.boolean)) ∈ xA := xI6 (List.mem_of_getElem? (i := 17) rfl) rfl
theorem w6_18 : (Cond.constant RX7 169 (99999)) ∈ xA := xI6 (List.mem_of_getElem? (i := 18) rfl) rfl
theorem w6_19 : (Cond.methodLink RX7 289 yX7_setupText) ∈ xA := xI6 (List.mem_of_getElem? (i := 19) rfl) rfl
theorem w6_21 : (Cond.instanceMethod yX7_setupText) ∈ xA := xI6 (List.mem_of_getElem? (i := 21) rfl) rfl
theorem w6_22 : (Cond.code yX7_setupText cX7_setupText 1 (some FieldType.boolean)) ∈ xA := xI6 (List.mem_of_getElem? (i := 22) rfl) rfl
theorem w6_24 : (Cond.methodLink RX7 209 yX7_expects) ∈ xA := xI6 (List.mem_of_getElem? (i := 24) rfl) rfl
theorem w6_26 : (Cond.instanceMethod yX7_expects) ∈ xA := xI6 (List.mem_of_getElem? (i := 26) rfl) rfl
theorem w6_27 : (Cond.code yX7_expects cX7_expects 2 (some FieldType.boolean)) ∈ xA := xI6 (List.mem_of_getElem? (i := 27) rfl) rfl
theorem w6_28 : (Cond.methodLink RX7 173 yX7_isWord) ∈ xA := xI6 (List.mem_of_getElem? (i := 28) rfl) rfl
theorem w6_30 : (Cond.instanceMethod yX7_isWord) ∈ xA := xI6 (List.mem_of_getElem? (i := 30) rfl) rfl
theorem w6_31 : (Cond.code yX7_isWord cX7_isWord 4 (some FieldType.boolean)) ∈ xA := xI6 (List.mem_of_getElem? (i := 31) rfl) rfl
theorem w6_32 : (Cond.methodLink RX7 143 yX7_flag) ∈ xA := xI6 (List.mem_of_getElem? (i := 32) rfl) rfl
theorem w6_33 : (Cond.static yX7_flag) ∈ xA := xI6 (List.mem_of_getElem? (i := 33) rfl) rfl
theorem w6_34 : (Cond.code yX7_flag cX7_flag 1 (some FieldType.int)) ∈ xA := xI6 (List.mem_of_getElem? (i := 34) rfl) rfl
theorem w6_35 : (Cond.methodLink RX7 177 yX7_wrong) ∈ xA := xI6 (List.mem_of_getElem? (i := 35) rfl) rfl
theorem w6_37 : (Cond.instanceMethod yX7_wrong) ∈ xA := xI6 (List.mem_of_getElem? (i := 37) rfl) rfl
theorem w6_38 : (Cond.code yX7_wrong cX7_wrong 2 (some FieldType.boolean)) ∈ xA := xI6 (List.mem_of_getElem? (i := 38) rfl) rfl
theorem w6_39 : (Cond.methodLink RX7 212 yX7_into) ∈ xA := xI6 (List.mem_of_getElem? (i := 39) rfl) rfl
theorem w6_41 : (Cond.instanceMethod yX7_into) ∈ xA := xI6 (List.mem_of_getElem? (i := 41) rfl) rfl
theorem w6_42 : (Cond.code yX7_into cX7_into 4 (some FieldType.boolean)) ∈ xA := xI6 (List.mem_of_getElem? (i := 42) rfl) rfl
theorem w6_43 : (Cond.methodLink RX7 187 yX7_numberIn) ∈ xA := xI6 (List.mem_of_getElem? (i := 43) rfl) rfl
theorem w6_45 : (Cond.instanceMethod yX7_numberIn) ∈ xA := xI6 (List.mem_of_getElem? (i := 45) rfl) rfl
theorem w6_46 : (Cond.code yX7_numberIn cX7_numberIn 3 (some FieldType.boolean)) ∈ xA := xI6 (List.mem_of_getElem? (i := 46) rfl) rfl
theorem w6_47 : (Cond.methodLink RX7 215 yX7_semicolon) ∈ xA := xI6 (List.mem_of_getElem? (i := 47) rfl) rfl
theorem w6_49 : (Cond.instanceMethod yX7_semicolon) ∈ xA := xI6 (List.mem_of_getElem? (i := 49) rfl) rfl
theorem w6_50 : (Cond.code yX7_semicolon cX7_semicolon 1 (some FieldType.boolean)) ∈ xA := xI6 (List.mem_of_getElem? (i := 50) rfl) rfl
theorem w6_51 : (Cond.methodLink RX7 183 yX7_isEnd) ∈ xA := xI6 (List.mem_of_getElem? (i := 51) rfl) rfl
theorem w6_53 : (Cond.instanceMethod yX7_isEnd) ∈ xA := xI6 (List.mem_of_getElem? (i := 53) rfl) rfl
theorem w6_54 : (Cond.code yX7_isEnd cX7_isEnd 1 (some FieldType.boolean)) ∈ xA := xI6 (List.mem_of_getElem? (i := 54) rfl) rfl
theorem w6_56 : (Cond.methodLink RX7 220 yX7_commandsText) ∈ xA := xI6 (List.mem_of_getElem? (i := 56) rfl) rfl
theorem w6_58 : (Cond.instanceMethod yX7_commandsText) ∈ xA := xI6 (List.mem_of_getElem? (i := 58) rfl) rfl
theorem w6_59 : (Cond.code yX7_commandsText cX7_commandsText 5 (some FieldType.int)) ∈ xA := xI6 (List.mem_of_getElem? (i := 59) rfl) rfl
theorem w6_60 : (Cond.methodLink RX7 239 yX7_commandHere) ∈ xA := xI6 (List.mem_of_getElem? (i := 60) rfl) rfl
theorem w6_62 : (Cond.instanceMethod yX7_commandHere) ∈ xA := xI6 (List.mem_of_getElem? (i := 62) rfl) rfl
theorem w6_63 : (Cond.code yX7_commandHere cX7_commandHere 4 (some FieldType.int)) ∈ xA := xI6 (List.mem_of_getElem? (i := 63) rfl) rfl
theorem w6_72 : (Cond.methodLink RX7 242 yX7_commandText) ∈ xA := xI6 (List.mem_of_getElem? (i := 72) rfl) rfl
theorem w6_74 : (Cond.instanceMethod yX7_commandText) ∈ xA := xI6 (List.mem_of_getElem? (i := 74) rfl) rfl
theorem w6_75 : (Cond.code yX7_commandText cX7_commandText 3 (some FieldType.boolean)) ∈ xA := xI6 (List.mem_of_getElem? (i := 75) rfl) rfl
theorem w6_76 : (Cond.methodLink RX7 257 yX7_argumentsText) ∈ xA := xI6 (List.mem_of_getElem? (i := 76) rfl) rfl
theorem w6_78 : (Cond.instanceMethod yX7_argumentsText) ∈ xA := xI6 (List.mem_of_getElem? (i := 78) rfl) rfl
theorem w6_79 : (Cond.code yX7_argumentsText cX7_argumentsText 2 (some FieldType.boolean)) ∈ xA := xI6 (List.mem_of_getElem? (i := 79) rfl) rfl
theorem w6_80 : (Cond.methodLink RX7 245 yX7_lanternInto) ∈ xA := xI6 (List.mem_of_getElem? (i := 80) rfl) rfl
theorem w6_82 : (Cond.instanceMethod yX7_lanternInto) ∈ xA := xI6 (List.mem_of_getElem? (i := 82) rfl) rfl
theorem w6_83 : (Cond.code yX7_lanternInto cX7_lanternInto 2 (some FieldType.boolean)) ∈ xA := xI6 (List.mem_of_getElem? (i := 83) rfl) rfl
theorem w6_88 : (Cond.methodLink RX7 198 yX7_wordRead) ∈ xA := xI6 (List.mem_of_getElem? (i := 88) rfl) rfl
theorem w6_90 : (Cond.instanceMethod yX7_wordRead) ∈ xA := xI6 (List.mem_of_getElem? (i := 90) rfl) rfl
theorem w6_91 : (Cond.code yX7_wordRead cX7_wordRead 2 (some FieldType.boolean)) ∈ xA := xI6 (List.mem_of_getElem? (i := 91) rfl) rfl
theorem w6_92 : (Cond.methodLink RX7 248 yX7_textureInto) ∈ xA := xI6 (List.mem_of_getElem? (i := 92) rfl) rfl
theorem w6_94 : (Cond.instanceMethod yX7_textureInto) ∈ xA := xI6 (List.mem_of_getElem? (i := 94) rfl) rfl
theorem w6_95 : (Cond.code yX7_textureInto cX7_textureInto 2 (some FieldType.boolean)) ∈ xA := xI6 (List.mem_of_getElem? (i := 95) rfl) rfl
theorem w6_99 : (Cond.methodLink RX7 251 yX7_holderInto) ∈ xA := xI6 (List.mem_of_getElem? (i := 99) rfl) rfl
theorem w6_101 : (Cond.instanceMethod yX7_holderInto) ∈ xA := xI6 (List.mem_of_getElem? (i := 101) rfl) rfl
theorem w6_102 : (Cond.code yX7_holderInto cX7_holderInto 1 (some FieldType.boolean)) ∈ xA := xI6 (List.mem_of_getElem? (i := 102) rfl) rfl
theorem w6_103 : (Cond.methodLink RX7 73 yX7_by) ∈ xA := xI6 (List.mem_of_getElem? (i := 103) rfl) rfl
theorem w6_105 : (Cond.instanceMethod yX7_by) ∈ xA := xI6 (List.mem_of_getElem? (i := 105) rfl) rfl
theorem w6_106 : (Cond.code yX7_by cX7_by 3 (some FieldType.int)) ∈ xA := xI6 (List.mem_of_getElem? (i := 106) rfl) rfl
theorem w6_107 : (Cond.methodLink RX7 254 yX7_stockInto) ∈ xA := xI6 (List.mem_of_getElem? (i := 107) rfl) rfl
theorem w6_109 : (Cond.instanceMethod yX7_stockInto) ∈ xA := xI6 (List.mem_of_getElem? (i := 109) rfl) rfl
theorem w6_110 : (Cond.code yX7_stockInto cX7_stockInto 1 (some FieldType.boolean)) ∈ xA := xI6 (List.mem_of_getElem? (i := 110) rfl) rfl
theorem w6_111 : (Cond.methodLink RX7 63 yX7_st) ∈ xA := xI6 (List.mem_of_getElem? (i := 111) rfl) rfl
theorem w6_113 : (Cond.instanceMethod yX7_st) ∈ xA := xI6 (List.mem_of_getElem? (i := 113) rfl) rfl
theorem w6_114 : (Cond.code yX7_st cX7_st 3 (some FieldType.int)) ∈ xA := xI6 (List.mem_of_getElem? (i := 114) rfl) rfl
theorem w6_115 : (Cond.methodLink RX7 260 yX7_does) ∈ xA := xI6 (List.mem_of_getElem? (i := 115) rfl) rfl
theorem w6_117 : (Cond.instanceMethod yX7_does) ∈ xA := xI6 (List.mem_of_getElem? (i := 117) rfl) rfl
theorem w6_118 : (Cond.code yX7_does cX7_does 2 (some FieldType.int)) ∈ xA := xI6 (List.mem_of_getElem? (i := 118) rfl) rfl
theorem w6_119 : (Cond.methodLink RX7 263 yX7_doStall) ∈ xA := xI6 (List.mem_of_getElem? (i := 119) rfl) rfl
theorem w6_121 : (Cond.instanceMethod yX7_doStall) ∈ xA := xI6 (List.mem_of_getElem? (i := 121) rfl) rfl
theorem w6_122 : (Cond.code yX7_doStall cX7_doStall 8 (some FieldType.int)) ∈ xA := xI6 (List.mem_of_getElem? (i := 122) rfl) rfl
theorem w6_123 : (Cond.methodLink RX7 84 yX7_more) ∈ xA := xI6 (List.mem_of_getElem? (i := 123) rfl) rfl
theorem w6_125 : (Cond.instanceMethod yX7_more) ∈ xA := xI6 (List.mem_of_getElem? (i := 125) rfl) rfl
theorem w6_126 : (Cond.code yX7_more cX7_more 4 none) ∈ xA := xI6 (List.mem_of_getElem? (i := 126) rfl) rfl
theorem w6_127 : (Cond.methodLink RX7 267 yX7_doBuyer) ∈ xA := xI6 (List.mem_of_getElem? (i := 127) rfl) rfl
theorem w6_129 : (Cond.instanceMethod yX7_doBuyer) ∈ xA := xI6 (List.mem_of_getElem? (i := 129) rfl) rfl
theorem w6_130 : (Cond.code yX7_doBuyer cX7_doBuyer 7 (some FieldType.int)) ∈ xA := xI6 (List.mem_of_getElem? (i := 130) rfl) rfl
theorem w6_131 : (Cond.methodLink RX7 88 yX7_put) ∈ xA := xI6 (List.mem_of_getElem? (i := 131) rfl) rfl
theorem w6_133 : (Cond.instanceMethod yX7_put) ∈ xA := xI6 (List.mem_of_getElem? (i := 133) rfl) rfl
theorem w6_134 : (Cond.code yX7_put cX7_put 4 none) ∈ xA := xI6 (List.mem_of_getElem? (i := 134) rfl) rfl
theorem w6_135 : (Cond.methodLink RX7 271 yX7_passAll) ∈ xA := xI6 (List.mem_of_getElem? (i := 135) rfl) rfl
theorem w6_137 : (Cond.instanceMethod yX7_passAll) ∈ xA := xI6 (List.mem_of_getElem? (i := 137) rfl) rfl
theorem w6_138 : (Cond.code yX7_passAll cX7_passAll 4 (some FieldType.int)) ∈ xA := xI6 (List.mem_of_getElem? (i := 138) rfl) rfl
theorem w6_139 : (Cond.methodLink RX7 136 yX7_passMinute) ∈ xA := xI6 (List.mem_of_getElem? (i := 139) rfl) rfl
theorem w6_141 : (Cond.instanceMethod yX7_passMinute) ∈ xA := xI6 (List.mem_of_getElem? (i := 141) rfl) rfl
theorem w6_142 : (Cond.code yX7_passMinute cX7_passMinute 4 (some FieldType.int)) ∈ xA := xI6 (List.mem_of_getElem? (i := 142) rfl) rfl
theorem w6_143 : (Cond.methodLink RX7 124 yX7_fogAt) ∈ xA := xI6 (List.mem_of_getElem? (i := 143) rfl) rfl
theorem w6_145 : (Cond.instanceMethod yX7_fogAt) ∈ xA := xI6 (List.mem_of_getElem? (i := 145) rfl) rfl
theorem w6_146 : (Cond.code yX7_fogAt cX7_fogAt 2 (some FieldType.int)) ∈ xA := xI6 (List.mem_of_getElem? (i := 146) rfl) rfl
theorem w6_147 : (Cond.methodLink RX7 127 yX7_stepBell) ∈ xA := xI6 (List.mem_of_getElem? (i := 147) rfl) rfl
theorem w6_149 : (Cond.instanceMethod yX7_stepBell) ∈ xA := xI6 (List.mem_of_getElem? (i := 149) rfl) rfl
theorem w6_150 : (Cond.code yX7_stepBell cX7_stepBell 2 none) ∈ xA := xI6 (List.mem_of_getElem? (i := 150) rfl) rfl
theorem w6_151 : (Cond.methodLink RX7 95 yX7_endBell) ∈ xA := xI6 (List.mem_of_getElem? (i := 151) rfl) rfl
theorem w6_153 : (Cond.instanceMethod yX7_endBell) ∈ xA := xI6 (List.mem_of_getElem? (i := 153) rfl) rfl
theorem w6_154 : (Cond.code yX7_endBell cX7_endBell 2 none) ∈ xA := xI6 (List.mem_of_getElem? (i := 154) rfl) rfl
theorem w6_155 : (Cond.methodLink RX7 98 yX7_giveBack) ∈ xA := xI6 (List.mem_of_getElem? (i := 155) rfl) rfl
theorem w6_157 : (Cond.instanceMethod yX7_giveBack) ∈ xA := xI6 (List.mem_of_getElem? (i := 157) rfl) rfl
theorem w6_158 : (Cond.code yX7_giveBack cX7_giveBack 2 none) ∈ xA := xI6 (List.mem_of_getElem? (i := 158) rfl) rfl
theorem w6_159 : (Cond.methodLink RX7 130 yX7_act) ∈ xA := xI6 (List.mem_of_getElem? (i := 159) rfl) rfl
theorem w6_161 : (Cond.instanceMethod yX7_act) ∈ xA := xI6 (List.mem_of_getElem? (i := 161) rfl) rfl
theorem w6_162 : (Cond.code yX7_act cX7_act 4 (some FieldType.int)) ∈ xA := xI6 (List.mem_of_getElem? (i := 162) rfl) rfl
theorem w6_163 : (Cond.methodLink RX7 107 yX7_walk) ∈ xA := xI6 (List.mem_of_getElem? (i := 163) rfl) rfl
theorem w6_165 : (Cond.instanceMethod yX7_walk) ∈ xA := xI6 (List.mem_of_getElem? (i := 165) rfl) rfl
theorem w6_166 : (Cond.code yX7_walk cX7_walk 5 none) ∈ xA := xI6 (List.mem_of_getElem? (i := 166) rfl) rfl
theorem w6_167 : (Cond.methodLink RX7 67 yX7_apart) ∈ xA := xI6 (List.mem_of_getElem? (i := 167) rfl) rfl
theorem w6_168 : (Cond.static yX7_apart) ∈ xA := xI6 (List.mem_of_getElem? (i := 168) rfl) rfl
theorem w6_169 : (Cond.code yX7_apart cX7_apart 2 (some FieldType.int)) ∈ xA := xI6 (List.mem_of_getElem? (i := 169) rfl) rfl
theorem w6_170 : (Cond.methodLink RX7 102 yJ9_min_7cf53) ∈ xA := xI6 (List.mem_of_getElem? (i := 170) rfl) rfl
theorem w6_171 : (Cond.methodLink RX7 111 yX7_pay) ∈ xA := xI6 (List.mem_of_getElem? (i := 171) rfl) rfl
theorem w6_173 : (Cond.instanceMethod yX7_pay) ∈ xA := xI6 (List.mem_of_getElem? (i := 173) rfl) rfl
theorem w6_174 : (Cond.code yX7_pay cX7_pay 4 (some FieldType.int)) ∈ xA := xI6 (List.mem_of_getElem? (i := 174) rfl) rfl
theorem w6_175 : (Cond.methodLink RX7 115 yX7_target) ∈ xA := xI6 (List.mem_of_getElem? (i := 175) rfl) rfl
theorem w6_177 : (Cond.instanceMethod yX7_target) ∈ xA := xI6 (List.mem_of_getElem? (i := 177) rfl) rfl
theorem w6_178 : (Cond.code yX7_target cX7_target 8 (some FieldType.int)) ∈ xA := xI6 (List.mem_of_getElem? (i := 178) rfl) rfl
theorem w6_179 : (Cond.methodLink RX7 76 yX7_has) ∈ xA := xI6 (List.mem_of_getElem? (i := 179) rfl) rfl
theorem w6_180 : (Cond.static yX7_has) ∈ xA := xI6 (List.mem_of_getElem? (i := 180) rfl) rfl
theorem w6_181 : (Cond.code yX7_has cX7_has 2 (some FieldType.boolean)) ∈ xA := xI6 (List.mem_of_getElem? (i := 181) rfl) rfl
theorem w6_182 : (Cond.methodLink RX7 80 yX7_isSeen) ∈ xA := xI6 (List.mem_of_getElem? (i := 182) rfl) rfl
theorem w6_184 : (Cond.instanceMethod yX7_isSeen) ∈ xA := xI6 (List.mem_of_getElem? (i := 184) rfl) rfl
theorem w6_185 : (Cond.code yX7_isSeen cX7_isSeen 4 (some FieldType.boolean)) ∈ xA := xI6 (List.mem_of_getElem? (i := 185) rfl) rfl
theorem w6_186 : (Cond.methodLink RX7 70 yX7_reachOf) ∈ xA := xI6 (List.mem_of_getElem? (i := 186) rfl) rfl
theorem w6_187 : (Cond.static yX7_reachOf) ∈ xA := xI6 (List.mem_of_getElem? (i := 187) rfl) rfl
theorem w6_188 : (Cond.code yX7_reachOf cX7_reachOf 2 (some FieldType.int)) ∈ xA := xI6 (List.mem_of_getElem? (i := 188) rfl) rfl
theorem w6_189 : (Cond.methodLink RX7 118 yX7_takes) ∈ xA := xI6 (List.mem_of_getElem? (i := 189) rfl) rfl
theorem w6_191 : (Cond.instanceMethod yX7_takes) ∈ xA := xI6 (List.mem_of_getElem? (i := 191) rfl) rfl
theorem w6_192 : (Cond.code yX7_takes cX7_takes 3 none) ∈ xA := xI6 (List.mem_of_getElem? (i := 192) rfl) rfl
theorem w6_193 : (Cond.methodLink RX7 121 yX7_feel) ∈ xA := xI6 (List.mem_of_getElem? (i := 193) rfl) rfl
theorem w6_195 : (Cond.instanceMethod yX7_feel) ∈ xA := xI6 (List.mem_of_getElem? (i := 195) rfl) rfl
theorem w6_196 : (Cond.code yX7_feel cX7_feel 3 (some FieldType.int)) ∈ xA := xI6 (List.mem_of_getElem? (i := 196) rfl) rfl
theorem w6_197 : (Cond.methodLink RX7 133 yX7_guardOf) ∈ xA := xI6 (List.mem_of_getElem? (i := 197) rfl) rfl
theorem w6_198 : (Cond.static yX7_guardOf) ∈ xA := xI6 (List.mem_of_getElem? (i := 198) rfl) rfl
theorem w6_199 : (Cond.code yX7_guardOf cX7_guardOf 1 (some FieldType.int)) ∈ xA := xI6 (List.mem_of_getElem? (i := 199) rfl) rfl
theorem w6_200 : (Cond.methodLink RX7 274 yX7_lays) ∈ xA := xI6 (List.mem_of_getElem? (i := 200) rfl) rfl
theorem w6_202 : (Cond.instanceMethod yX7_lays) ∈ xA := xI6 (List.mem_of_getElem? (i := 202) rfl) rfl
theorem w6_203 : (Cond.code yX7_lays cX7_lays 4 (some FieldType.int)) ∈ xA := xI6 (List.mem_of_getElem? (i := 203) rfl) rfl
theorem w6_204 : (Cond.methodLink RX7 277 yX7_doBack) ∈ xA := xI6 (List.mem_of_getElem? (i := 204) rfl) rfl
theorem w6_206 : (Cond.instanceMethod yX7_doBack) ∈ xA := xI6 (List.mem_of_getElem? (i := 206) rfl) rfl
theorem w6_207 : (Cond.code yX7_doBack cX7_doBack 3 (some FieldType.int)) ∈ xA := xI6 (List.mem_of_getElem? (i := 207) rfl) rfl
theorem w6_208 : (Cond.methodLink RX7 280 yX7_doStock) ∈ xA := xI6 (List.mem_of_getElem? (i := 208) rfl) rfl
theorem w6_210 : (Cond.instanceMethod yX7_doStock) ∈ xA := xI6 (List.mem_of_getElem? (i := 210) rfl) rfl
theorem w6_211 : (Cond.code yX7_doStock cX7_doStock 3 (some FieldType.int)) ∈ xA := xI6 (List.mem_of_getElem? (i := 211) rfl) rfl
theorem w6_212 : (Cond.methodLink RX7 292 yX7_leaveTrial) ∈ xA := xI6 (List.mem_of_getElem? (i := 212) rfl) rfl
theorem w6_214 : (Cond.instanceMethod yX7_leaveTrial) ∈ xA := xI6 (List.mem_of_getElem? (i := 214) rfl) rfl
theorem w6_215 : (Cond.code yX7_leaveTrial cX7_leaveTrial 3 (some FieldType.int)) ∈ xA := xI6 (List.mem_of_getElem? (i := 215) rfl) rfl
theorem w6_216 : (Cond.fieldLink RX7 7 "FogBellMarketModel" "buffer" "[I") ∈ xA := xI6 (List.mem_of_getElem? (i := 216) rfl) rfl
theorem w6_217 : (Cond.fieldLink RX7 54 "FogBellMarketModel" "bytes" "I") ∈ xA := xI6 (List.mem_of_getElem? (i := 217) rfl) rfl
theorem w6_218 : (Cond.fieldLink RX7 170 "FogBellMarketModel" "errorCode" "I") ∈ xA := xI6 (List.mem_of_getElem? (i := 218) rfl) rfl
theorem w6_219 : (Cond.fieldLink RX7 13 "FogBellMarketModel" "errorPosition" "I") ∈ xA := xI6 (List.mem_of_getElem? (i := 219) rfl) rfl
theorem w6_220 : (Cond.fieldLink RX7 60 "FogBellMarketModel" "thrown" "I") ∈ xA := xI6 (List.mem_of_getElem? (i := 220) rfl) rfl
theorem w6_221 : (Cond.fieldLink RX7 17 "FogBellMarketModel" "now" "[I") ∈ xA := xI6 (List.mem_of_getElem? (i := 221) rfl) rfl
theorem w6_222 : (Cond.fieldLink RX7 20 "FogBellMarketModel" "aside" "[I") ∈ xA := xI6 (List.mem_of_getElem? (i := 222) rfl) rfl
theorem w6_223 : (Cond.fieldLink RX7 23 "FogBellMarketModel" "trial" "[I") ∈ xA := xI6 (List.mem_of_getElem? (i := 223) rfl) rfl
theorem w6_224 : (Cond.fieldLink RX7 26 "FogBellMarketModel" "history" "[I") ∈ xA := xI6 (List.mem_of_getElem? (i := 224) rfl) rfl
theorem w6_225 : (Cond.fieldLink RX7 295 "FogBellMarketModel" "historySize" "I") ∈ xA := xI6 (List.mem_of_getElem? (i := 225) rfl) rfl
theorem w6_226 : (Cond.fieldLink RX7 29 "FogBellMarketModel" "saved" "[I") ∈ xA := xI6 (List.mem_of_getElem? (i := 226) rfl) rfl
theorem w6_227 : (Cond.fieldLink RX7 32 "FogBellMarketModel" "isSaved" "[Z") ∈ xA := xI6 (List.mem_of_getElem? (i := 227) rfl) rfl
theorem w6_228 : (Cond.fieldLink RX7 91 "FogBellMarketModel" "ended" "Z") ∈ xA := xI6 (List.mem_of_getElem? (i := 228) rfl) rfl
theorem w6_229 : (Cond.fieldLink RX7 36 "FogBellMarketModel" "told" "[I") ∈ xA := xI6 (List.mem_of_getElem? (i := 229) rfl) rfl
theorem w6_230 : (Cond.fieldLink RX7 39 "FogBellMarketModel" "output" "[I") ∈ xA := xI6 (List.mem_of_getElem? (i := 230) rfl) rfl
theorem w6_231 : (Cond.fieldLink RX7 150 "FogBellMarketModel" "at" "I") ∈ xA := xI6 (List.mem_of_getElem? (i := 231) rfl) rfl
theorem w6_232 : (Cond.fieldLink RX7 156 "FogBellMarketModel" "token" "I") ∈ xA := xI6 (List.mem_of_getElem? (i := 232) rfl) rfl
theorem w6_233 : (Cond.fieldLink RX7 153 "FogBellMarketModel" "begin" "I") ∈ xA := xI6 (List.mem_of_getElem? (i := 233) rfl) rfl
theorem w6_234 : (Cond.fieldLink RX7 166 "FogBellMarketModel" "number" "I") ∈ xA := xI6 (List.mem_of_getElem? (i := 234) rfl) rfl
theorem w6_235 : (Cond.fieldLink RX7 341 "FogBellMarketModel" "outputLength" "I") ∈ xA := xI6 (List.mem_of_getElem? (i := 235) rfl) rfl
theorem w6_236 : (Cond.laysFinal RX7 "FogBellMarketModel" "buffer" "[I") ∈ xA := xI6 (List.mem_of_getElem? (i := 236) rfl) rfl
theorem w6_238 : (Cond.lays RX7 "FogBellMarketModel" "bytes" "I") ∈ xA := xI6 (List.mem_of_getElem? (i := 238) rfl) rfl
theorem w7_0 : (Cond.lays RX7 "FogBellMarketModel" "errorCode" "I") ∈ xA := xI7 (List.mem_of_getElem? (i := 0) rfl) rfl
theorem w7_2 : (Cond.lays RX7 "FogBellMarketModel" "errorPosition" "I") ∈ xA := xI7 (List.mem_of_getElem? (i := 2) rfl) rfl
theorem w7_4 : (Cond.lays RX7 "FogBellMarketModel" "thrown" "I") ∈ xA := xI7 (List.mem_of_getElem? (i := 4) rfl) rfl
theorem w7_6 : (Cond.laysFinal RX7 "FogBellMarketModel" "now" "[I") ∈ xA := xI7 (List.mem_of_getElem? (i := 6) rfl) rfl
theorem w7_8 : (Cond.laysFinal RX7 "FogBellMarketModel" "aside" "[I") ∈ xA := xI7 (List.mem_of_getElem? (i := 8) rfl) rfl
theorem w7_10 : (Cond.laysFinal RX7 "FogBellMarketModel" "trial" "[I") ∈ xA := xI7 (List.mem_of_getElem? (i := 10) rfl) rfl
theorem w7_12 : (Cond.laysFinal RX7 "FogBellMarketModel" "history" "[I") ∈ xA := xI7 (List.mem_of_getElem? (i := 12) rfl) rfl
theorem w7_14 : (Cond.lays RX7 "FogBellMarketModel" "historySize" "I") ∈ xA := xI7 (List.mem_of_getElem? (i := 14) rfl) rfl
theorem w7_16 : (Cond.laysFinal RX7 "FogBellMarketModel" "saved" "[I") ∈ xA := xI7 (List.mem_of_getElem? (i := 16) rfl) rfl
theorem w7_18 : (Cond.laysFinal RX7 "FogBellMarketModel" "isSaved" "[Z") ∈ xA := xI7 (List.mem_of_getElem? (i := 18) rfl) rfl
theorem w7_20 : (Cond.lays RX7 "FogBellMarketModel" "ended" "Z") ∈ xA := xI7 (List.mem_of_getElem? (i := 20) rfl) rfl
theorem w7_22 : (Cond.laysFinal RX7 "FogBellMarketModel" "told" "[I") ∈ xA := xI7 (List.mem_of_getElem? (i := 22) rfl) rfl
theorem w7_24 : (Cond.laysFinal RX7 "FogBellMarketModel" "output" "[I") ∈ xA := xI7 (List.mem_of_getElem? (i := 24) rfl) rfl
theorem w7_26 : (Cond.lays RX7 "FogBellMarketModel" "at" "I") ∈ xA := xI7 (List.mem_of_getElem? (i := 26) rfl) rfl
theorem w7_28 : (Cond.lays RX7 "FogBellMarketModel" "token" "I") ∈ xA := xI7 (List.mem_of_getElem? (i := 28) rfl) rfl
theorem w7_30 : (Cond.lays RX7 "FogBellMarketModel" "begin" "I") ∈ xA := xI7 (List.mem_of_getElem? (i := 30) rfl) rfl
theorem w7_32 : (Cond.lays RX7 "FogBellMarketModel" "number" "I") ∈ xA := xI7 (List.mem_of_getElem? (i := 32) rfl) rfl
theorem w7_34 : (Cond.lays RX7 "FogBellMarketModel" "outputLength" "I") ∈ xA := xI7 (List.mem_of_getElem? (i := 34) rfl) rfl
theorem w7_37 : (Cond.methodLink RL 186 yX7_thrown) ∈ xA := xI7 (List.mem_of_getElem? (i := 37) rfl) rfl
theorem w7_38 : (Cond.instanceMethod yX7_thrown) ∈ xA := xI7 (List.mem_of_getElem? (i := 38) rfl) rfl
theorem w7_39 : (Cond.selects RX7 yX7_thrown yX7_thrown) ∈ xA := xI7 (List.mem_of_getElem? (i := 39) rfl) rfl
theorem w7_40 : (Cond.code yX7_thrown cX7_thrown 1 (some FieldType.int)) ∈ xA := xI7 (List.mem_of_getElem? (i := 40) rfl) rfl
theorem w7_41 : (Cond.methodLink RL 143 yX7_feed) ∈ xA := xI7 (List.mem_of_getElem? (i := 41) rfl) rfl
theorem w7_42 : (Cond.instanceMethod yX7_feed) ∈ xA := xI7 (List.mem_of_getElem? (i := 42) rfl) rfl
theorem w7_43 : (Cond.selects RX7 yX7_feed yX7_feed) ∈ xA := xI7 (List.mem_of_getElem? (i := 43) rfl) rfl
theorem w7_44 : (Cond.code yX7_feed cX7_feed 9 (some FieldType.int)) ∈ xA := xI7 (List.mem_of_getElem? (i := 44) rfl) rfl
theorem w7_45 : (Cond.methodLink RX7 139 yX7_byteOf) ∈ xA := xI7 (List.mem_of_getElem? (i := 45) rfl) rfl
theorem w7_46 : (Cond.static yX7_byteOf) ∈ xA := xI7 (List.mem_of_getElem? (i := 46) rfl) rfl
theorem w7_47 : (Cond.code yX7_byteOf cX7_byteOf 7 (some FieldType.int)) ∈ xA := xI7 (List.mem_of_getElem? (i := 47) rfl) rfl
theorem w7_48 : (Cond.methodLink RL 147 yX7_loadSetup) ∈ xA := xI7 (List.mem_of_getElem? (i := 48) rfl) rfl
theorem w7_49 : (Cond.methodLink RL 151 yX7_runScript) ∈ xA := xI7 (List.mem_of_getElem? (i := 49) rfl) rfl
theorem w7_50 : (Cond.instanceMethod yX7_runScript) ∈ xA := xI7 (List.mem_of_getElem? (i := 50) rfl) rfl
theorem w7_51 : (Cond.selects RX7 yX7_runScript yX7_runScript) ∈ xA := xI7 (List.mem_of_getElem? (i := 51) rfl) rfl
theorem w7_52 : (Cond.code yX7_runScript cX7_runScript 3 (some FieldType.int)) ∈ xA := xI7 (List.mem_of_getElem? (i := 52) rfl) rfl
theorem w7_53 : (Cond.methodLink RX7 298 yX7_pushAside) ∈ xA := xI7 (List.mem_of_getElem? (i := 53) rfl) rfl
theorem w7_55 : (Cond.instanceMethod yX7_pushAside) ∈ xA := xI7 (List.mem_of_getElem? (i := 55) rfl) rfl
theorem w7_56 : (Cond.code yX7_pushAside cX7_pushAside 2 none) ∈ xA := xI7 (List.mem_of_getElem? (i := 56) rfl) rfl
theorem w7_57 : (Cond.methodLink RL 155 yX7_errorCode) ∈ xA := xI7 (List.mem_of_getElem? (i := 57) rfl) rfl
theorem w7_58 : (Cond.instanceMethod yX7_errorCode) ∈ xA := xI7 (List.mem_of_getElem? (i := 58) rfl) rfl
theorem w7_59 : (Cond.selects RX7 yX7_errorCode yX7_errorCode) ∈ xA := xI7 (List.mem_of_getElem? (i := 59) rfl) rfl
theorem w7_60 : (Cond.code yX7_errorCode cX7_errorCode 1 (some FieldType.int)) ∈ xA := xI7 (List.mem_of_getElem? (i := 60) rfl) rfl
theorem w7_61 : (Cond.methodLink RX7 301 yX7_plain) ∈ xA := xI7 (List.mem_of_getElem? (i := 61) rfl) rfl
theorem w7_63 : (Cond.instanceMethod yX7_plain) ∈ xA := xI7 (List.mem_of_getElem? (i := 63) rfl) rfl
theorem w7_64 : (Cond.code yX7_plain cX7_plain 2 (some FieldType.int)) ∈ xA := xI7 (List.mem_of_getElem? (i := 64) rfl) rfl
theorem w7_65 : (Cond.methodLink RL 159 yX7_errorPosition) ∈ xA := xI7 (List.mem_of_getElem? (i := 65) rfl) rfl
theorem w7_66 : (Cond.instanceMethod yX7_errorPosition) ∈ xA := xI7 (List.mem_of_getElem? (i := 66) rfl) rfl
theorem w7_67 : (Cond.selects RX7 yX7_errorPosition yX7_errorPosition) ∈ xA := xI7 (List.mem_of_getElem? (i := 67) rfl) rfl
theorem w7_68 : (Cond.code yX7_errorPosition cX7_errorPosition 1 (some FieldType.int)) ∈ xA := xI7 (List.mem_of_getElem? (i := 68) rfl) rfl
theorem w7_69 : (Cond.methodLink RL 163 yX7_minute) ∈ xA := xI7 (List.mem_of_getElem? (i := 69) rfl) rfl
theorem w7_70 : (Cond.instanceMethod yX7_minute) ∈ xA := xI7 (List.mem_of_getElem? (i := 70) rfl) rfl
theorem w7_71 : (Cond.selects RX7 yX7_minute yX7_minute) ∈ xA := xI7 (List.mem_of_getElem? (i := 71) rfl) rfl
theorem w7_72 : (Cond.code yX7_minute cX7_minute 1 (some FieldType.int)) ∈ xA := xI7 (List.mem_of_getElem? (i := 72) rfl) rfl
theorem w7_73 : (Cond.methodLink RL 167 yX7_bellPosition) ∈ xA := xI7 (List.mem_of_getElem? (i := 73) rfl) rfl
theorem w7_74 : (Cond.instanceMethod yX7_bellPosition) ∈ xA := xI7 (List.mem_of_getElem? (i := 74) rfl) rfl
theorem w7_75 : (Cond.selects RX7 yX7_bellPosition yX7_bellPosition) ∈ xA := xI7 (List.mem_of_getElem? (i := 75) rfl) rfl
theorem w7_76 : (Cond.code yX7_bellPosition cX7_bellPosition 1 (some FieldType.int)) ∈ xA := xI7 (List.mem_of_getElem? (i := 76) rfl) rfl
theorem w7_77 : (Cond.methodLink RL 171 yX7_threshold) ∈ xA := xI7 (List.mem_of_getElem? (i := 77) rfl) rfl
theorem w7_78 : (Cond.instanceMethod yX7_threshold) ∈ xA := xI7 (List.mem_of_getElem? (i := 78) rfl) rfl
theorem w7_79 : (Cond.selects RX7 yX7_threshold yX7_threshold) ∈ xA := xI7 (List.mem_of_getElem? (i := 79) rfl) rfl
theorem w7_80 : (Cond.code yX7_threshold cX7_threshold 1 (some FieldType.int)) ∈ xA := xI7 (List.mem_of_getElem? (i := 80) rfl) rfl
theorem w7_81 : (Cond.methodLink RL 175 yX7_duration) ∈ xA := xI7 (List.mem_of_getElem? (i := 81) rfl) rfl
theorem w7_82 : (Cond.instanceMethod yX7_duration) ∈ xA := xI7 (List.mem_of_getElem? (i := 82) rfl) rfl
theorem w7_83 : (Cond.selects RX7 yX7_duration yX7_duration) ∈ xA := xI7 (List.mem_of_getElem? (i := 83) rfl) rfl
theorem w7_84 : (Cond.code yX7_duration cX7_duration 1 (some FieldType.int)) ∈ xA := xI7 (List.mem_of_getElem? (i := 84) rfl) rfl
theorem w7_85 : (Cond.methodLink RL 179 yX7_undoCount) ∈ xA := xI7 (List.mem_of_getElem? (i := 85) rfl) rfl
theorem w7_86 : (Cond.instanceMethod yX7_undoCount) ∈ xA := xI7 (List.mem_of_getElem? (i := 86) rfl) rfl
theorem w7_87 : (Cond.selects RX7 yX7_undoCount yX7_undoCount) ∈ xA := xI7 (List.mem_of_getElem? (i := 87) rfl) rfl
theorem w7_88 : (Cond.code yX7_undoCount cX7_undoCount 1 (some FieldType.int)) ∈ xA := xI7 (List.mem_of_getElem? (i := 88) rfl) rfl
theorem w7_89 : (Cond.methodLink RL 185 yX7_fogIn) ∈ xA := xI7 (List.mem_of_getElem? (i := 89) rfl) rfl
theorem w7_90 : (Cond.instanceMethod yX7_fogIn) ∈ xA := xI7 (List.mem_of_getElem? (i := 90) rfl) rfl
theorem w7_91 : (Cond.selects RX7 yX7_fogIn yX7_fogIn) ∈ xA := xI7 (List.mem_of_getElem? (i := 91) rfl) rfl
theorem w7_92 : (Cond.code yX7_fogIn cX7_fogIn 2 (some FieldType.int)) ∈ xA := xI7 (List.mem_of_getElem? (i := 92) rfl) rfl
theorem w7_93 : (Cond.methodLink RX7 304 yX7_fails) ∈ xA := xI7 (List.mem_of_getElem? (i := 93) rfl) rfl
theorem w7_95 : (Cond.instanceMethod yX7_fails) ∈ xA := xI7 (List.mem_of_getElem? (i := 95) rfl) rfl
theorem w7_96 : (Cond.code yX7_fails cX7_fails 3 (some FieldType.boolean)) ∈ xA := xI7 (List.mem_of_getElem? (i := 96) rfl) rfl
theorem w7_97 : (Cond.methodLink RL 193 yX7_isOpen) ∈ xA := xI7 (List.mem_of_getElem? (i := 97) rfl) rfl
theorem w7_98 : (Cond.instanceMethod yX7_isOpen) ∈ xA := xI7 (List.mem_of_getElem? (i := 98) rfl) rfl
theorem w7_99 : (Cond.selects RX7 yX7_isOpen yX7_isOpen) ∈ xA := xI7 (List.mem_of_getElem? (i := 99) rfl) rfl
theorem w7_100 : (Cond.code yX7_isOpen cX7_isOpen 1 (some FieldType.boolean)) ∈ xA := xI7 (List.mem_of_getElem? (i := 100) rfl) rfl
theorem w7_101 : (Cond.methodLink RL 197 yX7_isReady) ∈ xA := xI7 (List.mem_of_getElem? (i := 101) rfl) rfl
theorem w7_102 : (Cond.instanceMethod yX7_isReady) ∈ xA := xI7 (List.mem_of_getElem? (i := 102) rfl) rfl
theorem w7_103 : (Cond.selects RX7 yX7_isReady yX7_isReady) ∈ xA := xI7 (List.mem_of_getElem? (i := 103) rfl) rfl
theorem w7_104 : (Cond.code yX7_isReady cX7_isReady 1 (some FieldType.boolean)) ∈ xA := xI7 (List.mem_of_getElem? (i := 104) rfl) rfl
theorem w7_105 : (Cond.methodLink RL 201 yX7_openMinutes) ∈ xA := xI7 (List.mem_of_getElem? (i := 105) rfl) rfl
theorem w7_106 : (Cond.instanceMethod yX7_openMinutes) ∈ xA := xI7 (List.mem_of_getElem? (i := 106) rfl) rfl
theorem w7_107 : (Cond.selects RX7 yX7_openMinutes yX7_openMinutes) ∈ xA := xI7 (List.mem_of_getElem? (i := 107) rfl) rfl
theorem w7_108 : (Cond.code yX7_openMinutes cX7_openMinutes 1 (some FieldType.int)) ∈ xA := xI7 (List.mem_of_getElem? (i := 108) rfl) rfl
theorem w7_109 : (Cond.methodLink RL 205 yX7_ringings) ∈ xA := xI7 (List.mem_of_getElem? (i := 109) rfl) rfl
theorem w7_110 : (Cond.instanceMethod yX7_ringings) ∈ xA := xI7 (List.mem_of_getElem? (i := 110) rfl) rfl
theorem w7_111 : (Cond.selects RX7 yX7_ringings yX7_ringings) ∈ xA := xI7 (List.mem_of_getElem? (i := 111) rfl) rfl
theorem w7_112 : (Cond.code yX7_ringings cX7_ringings 1 (some FieldType.int)) ∈ xA := xI7 (List.mem_of_getElem? (i := 112) rfl) rfl
theorem w7_113 : (Cond.methodLink RL 209 yX7_minutesToBell) ∈ xA := xI7 (List.mem_of_getElem? (i := 113) rfl) rfl
theorem w7_114 : (Cond.instanceMethod yX7_minutesToBell) ∈ xA := xI7 (List.mem_of_getElem? (i := 114) rfl) rfl
theorem w7_115 : (Cond.selects RX7 yX7_minutesToBell yX7_minutesToBell) ∈ xA := xI7 (List.mem_of_getElem? (i := 115) rfl) rfl
theorem w7_116 : (Cond.code yX7_minutesToBell cX7_minutesToBell 1 (some FieldType.int)) ∈ xA := xI7 (List.mem_of_getElem? (i := 116) rfl) rfl
theorem w7_117 : (Cond.methodLink RX7 308 yX7_minutesTo) ∈ xA := xI7 (List.mem_of_getElem? (i := 117) rfl) rfl
theorem w7_119 : (Cond.instanceMethod yX7_minutesTo) ∈ xA := xI7 (List.mem_of_getElem? (i := 119) rfl) rfl
theorem w7_120 : (Cond.code yX7_minutesTo cX7_minutesTo 7 (some FieldType.int)) ∈ xA := xI7 (List.mem_of_getElem? (i := 120) rfl) rfl
theorem w7_121 : (Cond.methodLink RL 213 yX7_minutesToEnd) ∈ xA := xI7 (List.mem_of_getElem? (i := 121) rfl) rfl
theorem w7_122 : (Cond.instanceMethod yX7_minutesToEnd) ∈ xA := xI7 (List.mem_of_getElem? (i := 122) rfl) rfl
theorem w7_123 : (Cond.selects RX7 yX7_minutesToEnd yX7_minutesToEnd) ∈ xA := xI7 (List.mem_of_getElem? (i := 123) rfl) rfl
theorem w7_124 : (Cond.code yX7_minutesToEnd cX7_minutesToEnd 1 (some FieldType.int)) ∈ xA := xI7 (List.mem_of_getElem? (i := 124) rfl) rfl
theorem w7_125 : (Cond.methodLink RL 217 yX7_stallCount) ∈ xA := xI7 (List.mem_of_getElem? (i := 125) rfl) rfl
theorem w7_126 : (Cond.instanceMethod yX7_stallCount) ∈ xA := xI7 (List.mem_of_getElem? (i := 126) rfl) rfl
theorem w7_127 : (Cond.selects RX7 yX7_stallCount yX7_stallCount) ∈ xA := xI7 (List.mem_of_getElem? (i := 127) rfl) rfl
theorem w7_128 : (Cond.code yX7_stallCount cX7_stallCount 1 (some FieldType.int)) ∈ xA := xI7 (List.mem_of_getElem? (i := 128) rfl) rfl
theorem w7_129 : (Cond.methodLink RL 220 yX7_positionOf) ∈ xA := xI7 (List.mem_of_getElem? (i := 129) rfl) rfl
theorem w7_130 : (Cond.instanceMethod yX7_positionOf) ∈ xA := xI7 (List.mem_of_getElem? (i := 130) rfl) rfl
theorem w7_131 : (Cond.selects RX7 yX7_positionOf yX7_positionOf) ∈ xA := xI7 (List.mem_of_getElem? (i := 131) rfl) rfl
theorem w7_132 : (Cond.code yX7_positionOf cX7_positionOf 2 (some FieldType.int)) ∈ xA := xI7 (List.mem_of_getElem? (i := 132) rfl) rfl
theorem w7_133 : (Cond.methodLink RX7 317 yX7_asked) ∈ xA := xI7 (List.mem_of_getElem? (i := 133) rfl) rfl
theorem w7_135 : (Cond.instanceMethod yX7_asked) ∈ xA := xI7 (List.mem_of_getElem? (i := 135) rfl) rfl
theorem w7_136 : (Cond.code yX7_asked cX7_asked 3 (some FieldType.int)) ∈ xA := xI7 (List.mem_of_getElem? (i := 136) rfl) rfl
theorem w7_137 : (Cond.methodLink RX7 311 yX7_isStall) ∈ xA := xI7 (List.mem_of_getElem? (i := 137) rfl) rfl
theorem w7_139 : (Cond.instanceMethod yX7_isStall) ∈ xA := xI7 (List.mem_of_getElem? (i := 139) rfl) rfl
theorem w7_140 : (Cond.code yX7_isStall cX7_isStall 2 (some FieldType.boolean)) ∈ xA := xI7 (List.mem_of_getElem? (i := 140) rfl) rfl
theorem w7_141 : (Cond.methodLink RL 223 yX7_lanternOf) ∈ xA := xI7 (List.mem_of_getElem? (i := 141) rfl) rfl
theorem w7_142 : (Cond.instanceMethod yX7_lanternOf) ∈ xA := xI7 (List.mem_of_getElem? (i := 142) rfl) rfl
theorem w7_143 : (Cond.selects RX7 yX7_lanternOf yX7_lanternOf) ∈ xA := xI7 (List.mem_of_getElem? (i := 143) rfl) rfl
theorem w7_144 : (Cond.code yX7_lanternOf cX7_lanternOf 2 (some FieldType.int)) ∈ xA := xI7 (List.mem_of_getElem? (i := 144) rfl) rfl
theorem w7_145 : (Cond.methodLink RL 226 yX7_textureOf) ∈ xA := xI7 (List.mem_of_getElem? (i := 145) rfl) rfl
theorem w7_146 : (Cond.instanceMethod yX7_textureOf) ∈ xA := xI7 (List.mem_of_getElem? (i := 146) rfl) rfl
theorem w7_147 : (Cond.selects RX7 yX7_textureOf yX7_textureOf) ∈ xA := xI7 (List.mem_of_getElem? (i := 147) rfl) rfl
theorem w7_148 : (Cond.code yX7_textureOf cX7_textureOf 2 (some FieldType.int)) ∈ xA := xI7 (List.mem_of_getElem? (i := 148) rfl) rfl
theorem w7_149 : (Cond.methodLink RL 229 yX7_priceOf) ∈ xA := xI7 (List.mem_of_getElem? (i := 149) rfl) rfl
theorem w7_150 : (Cond.instanceMethod yX7_priceOf) ∈ xA := xI7 (List.mem_of_getElem? (i := 150) rfl) rfl
theorem w7_151 : (Cond.selects RX7 yX7_priceOf yX7_priceOf) ∈ xA := xI7 (List.mem_of_getElem? (i := 151) rfl) rfl
theorem w7_152 : (Cond.code yX7_priceOf cX7_priceOf 2 (some FieldType.int)) ∈ xA := xI7 (List.mem_of_getElem? (i := 152) rfl) rfl
theorem w7_153 : (Cond.methodLink RL 232 yX7_stockOf) ∈ xA := xI7 (List.mem_of_getElem? (i := 153) rfl) rfl
theorem w7_154 : (Cond.instanceMethod yX7_stockOf) ∈ xA := xI7 (List.mem_of_getElem? (i := 154) rfl) rfl
theorem w7_155 : (Cond.selects RX7 yX7_stockOf yX7_stockOf) ∈ xA := xI7 (List.mem_of_getElem? (i := 155) rfl) rfl
theorem w7_156 : (Cond.code yX7_stockOf cX7_stockOf 2 (some FieldType.int)) ∈ xA := xI7 (List.mem_of_getElem? (i := 156) rfl) rfl
theorem w7_157 : (Cond.methodLink RL 235 yX7_heldOf) ∈ xA := xI7 (List.mem_of_getElem? (i := 157) rfl) rfl
theorem w7_158 : (Cond.instanceMethod yX7_heldOf) ∈ xA := xI7 (List.mem_of_getElem? (i := 158) rfl) rfl
theorem w7_159 : (Cond.selects RX7 yX7_heldOf yX7_heldOf) ∈ xA := xI7 (List.mem_of_getElem? (i := 159) rfl) rfl
theorem w7_160 : (Cond.code yX7_heldOf cX7_heldOf 2 (some FieldType.int)) ∈ xA := xI7 (List.mem_of_getElem? (i := 160) rfl) rfl
theorem w7_161 : (Cond.methodLink RX7 320 yX7_held) ∈ xA := xI7 (List.mem_of_getElem? (i := 161) rfl) rfl
theorem w7_163 : (Cond.instanceMethod yX7_held) ∈ xA := xI7 (List.mem_of_getElem? (i := 163) rfl) rfl
theorem w7_164 : (Cond.code yX7_held cX7_held 4 (some FieldType.int)) ∈ xA := xI7 (List.mem_of_getElem? (i := 164) rfl) rfl
theorem w7_165 : (Cond.methodLink RL 238 yX7_soldOf) ∈ xA := xI7 (List.mem_of_getElem? (i := 165) rfl) rfl
theorem w7_166 : (Cond.instanceMethod yX7_soldOf) ∈ xA := xI7 (List.mem_of_getElem? (i := 166) rfl) rfl
theorem w7_167 : (Cond.selects RX7 yX7_soldOf yX7_soldOf) ∈ xA := xI7 (List.mem_of_getElem? (i := 167) rfl) rfl
theorem w7_168 : (Cond.code yX7_soldOf cX7_soldOf 2 (some FieldType.int)) ∈ xA := xI7 (List.mem_of_getElem? (i := 168) rfl) rfl
theorem w7_169 : (Cond.methodLink RL 241 yX7_lostOf) ∈ xA := xI7 (List.mem_of_getElem? (i := 169) rfl) rfl
theorem w7_170 : (Cond.instanceMethod yX7_lostOf) ∈ xA := xI7 (List.mem_of_getElem? (i := 170) rfl) rfl
theorem w7_171 : (Cond.selects RX7 yX7_lostOf yX7_lostOf) ∈ xA := xI7 (List.mem_of_getElem? (i := 171) rfl) rfl
theorem w7_172 : (Cond.code yX7_lostOf cX7_lostOf 2 (some FieldType.int)) ∈ xA := xI7 (List.mem_of_getElem? (i := 172) rfl) rfl
theorem w7_173 : (Cond.methodLink RL 244 yX7_earnings) ∈ xA := xI7 (List.mem_of_getElem? (i := 173) rfl) rfl
theorem w7_174 : (Cond.instanceMethod yX7_earnings) ∈ xA := xI7 (List.mem_of_getElem? (i := 174) rfl) rfl
theorem w7_175 : (Cond.selects RX7 yX7_earnings yX7_earnings) ∈ xA := xI7 (List.mem_of_getElem? (i := 175) rfl) rfl
theorem w7_176 : (Cond.code yX7_earnings cX7_earnings 2 (some FieldType.int)) ∈ xA := xI7 (List.mem_of_getElem? (i := 176) rfl) rfl
theorem w7_177 : (Cond.methodLink RL 248 yX7_reach) ∈ xA := xI7 (List.mem_of_getElem? (i := 177) rfl) rfl
theorem w7_178 : (Cond.instanceMethod yX7_reach) ∈ xA := xI7 (List.mem_of_getElem? (i := 178) rfl) rfl
theorem w7_179 : (Cond.selects RX7 yX7_reach yX7_reach) ∈ xA := xI7 (List.mem_of_getElem? (i := 179) rfl) rfl
theorem w7_180 : (Cond.code yX7_reach cX7_reach 3 (some FieldType.int)) ∈ xA := xI7 (List.mem_of_getElem? (i := 180) rfl) rfl
theorem w7_181 : (Cond.methodLink RL 251 yX7_seenFrom) ∈ xA := xI7 (List.mem_of_getElem? (i := 181) rfl) rfl
theorem w7_182 : (Cond.instanceMethod yX7_seenFrom) ∈ xA := xI7 (List.mem_of_getElem? (i := 182) rfl) rfl
theorem w7_183 : (Cond.selects RX7 yX7_seenFrom yX7_seenFrom) ∈ xA := xI7 (List.mem_of_getElem? (i := 183) rfl) rfl
theorem w7_184 : (Cond.code yX7_seenFrom cX7_seenFrom 4 (some FieldType.int)) ∈ xA := xI7 (List.mem_of_getElem? (i := 184) rfl) rfl
theorem w7_185 : (Cond.methodLink RL 255 yX7_buyerCount) ∈ xA := xI7 (List.mem_of_getElem? (i := 185) rfl) rfl
theorem w7_186 : (Cond.instanceMethod yX7_buyerCount) ∈ xA := xI7 (List.mem_of_getElem? (i := 186) rfl) rfl
theorem w7_187 : (Cond.selects RX7 yX7_buyerCount yX7_buyerCount) ∈ xA := xI7 (List.mem_of_getElem? (i := 187) rfl) rfl
theorem w7_188 : (Cond.code yX7_buyerCount cX7_buyerCount 1 (some FieldType.int)) ∈ xA := xI7 (List.mem_of_getElem? (i := 188) rfl) rfl
theorem w7_189 : (Cond.methodLink RL 258 yX7_placeOf) ∈ xA := xI7 (List.mem_of_getElem? (i := 189) rfl) rfl
theorem w7_190 : (Cond.instanceMethod yX7_placeOf) ∈ xA := xI7 (List.mem_of_getElem? (i := 190) rfl) rfl
theorem w7_191 : (Cond.selects RX7 yX7_placeOf yX7_placeOf) ∈ xA := xI7 (List.mem_of_getElem? (i := 191) rfl) rfl
theorem w7_192 : (Cond.code yX7_placeOf cX7_placeOf 2 (some FieldType.int)) ∈ xA := xI7 (List.mem_of_getElem? (i := 192) rfl) rfl
theorem w7_193 : (Cond.methodLink RX7 323 yX7_askedOf) ∈ xA := xI7 (List.mem_of_getElem? (i := 193) rfl) rfl
theorem w7_195 : (Cond.instanceMethod yX7_askedOf) ∈ xA := xI7 (List.mem_of_getElem? (i := 195) rfl) rfl
theorem w7_196 : (Cond.code yX7_askedOf cX7_askedOf 3 (some FieldType.int)) ∈ xA := xI7 (List.mem_of_getElem? (i := 196) rfl) rfl
theorem w7_197 : (Cond.methodLink RX7 314 yX7_isBuyer) ∈ xA := xI7 (List.mem_of_getElem? (i := 197) rfl) rfl
theorem w7_199 : (Cond.instanceMethod yX7_isBuyer) ∈ xA := xI7 (List.mem_of_getElem? (i := 199) rfl) rfl
theorem w7_200 : (Cond.code yX7_isBuyer cX7_isBuyer 2 (some FieldType.boolean)) ∈ xA := xI7 (List.mem_of_getElem? (i := 200) rfl) rfl
theorem w7_201 : (Cond.methodLink RL 261 yX7_coinsOf) ∈ xA := xI7 (List.mem_of_getElem? (i := 201) rfl) rfl
theorem w7_202 : (Cond.instanceMethod yX7_coinsOf) ∈ xA := xI7 (List.mem_of_getElem? (i := 202) rfl) rfl
theorem w7_203 : (Cond.selects RX7 yX7_coinsOf yX7_coinsOf) ∈ xA := xI7 (List.mem_of_getElem? (i := 203) rfl) rfl
theorem w7_204 : (Cond.code yX7_coinsOf cX7_coinsOf 2 (some FieldType.int)) ∈ xA := xI7 (List.mem_of_getElem? (i := 204) rfl) rfl
theorem w7_205 : (Cond.methodLink RL 264 yX7_wantedTexture) ∈ xA := xI7 (List.mem_of_getElem? (i := 205) rfl) rfl
theorem w7_206 : (Cond.instanceMethod yX7_wantedTexture) ∈ xA := xI7 (List.mem_of_getElem? (i := 206) rfl) rfl
theorem w7_207 : (Cond.selects RX7 yX7_wantedTexture yX7_wantedTexture) ∈ xA := xI7 (List.mem_of_getElem? (i := 207) rfl) rfl
theorem w7_208 : (Cond.code yX7_wantedTexture cX7_wantedTexture 2 (some FieldType.int)) ∈ xA := xI7 (List.mem_of_getElem? (i := 208) rfl) rfl
theorem w7_209 : (Cond.methodLink RL 267 yX7_speedOf) ∈ xA := xI7 (List.mem_of_getElem? (i := 209) rfl) rfl
theorem w7_210 : (Cond.instanceMethod yX7_speedOf) ∈ xA := xI7 (List.mem_of_getElem? (i := 210) rfl) rfl
theorem w7_211 : (Cond.selects RX7 yX7_speedOf yX7_speedOf) ∈ xA := xI7 (List.mem_of_getElem? (i := 211) rfl) rfl
theorem w7_212 : (Cond.code yX7_speedOf cX7_speedOf 2 (some FieldType.int)) ∈ xA := xI7 (List.mem_of_getElem? (i := 212) rfl) rfl
theorem w7_213 : (Cond.methodLink RL 270 yX7_heldFrom) ∈ xA := xI7 (List.mem_of_getElem? (i := 213) rfl) rfl
theorem w7_214 : (Cond.instanceMethod yX7_heldFrom) ∈ xA := xI7 (List.mem_of_getElem? (i := 214) rfl) rfl
theorem w7_215 : (Cond.selects RX7 yX7_heldFrom yX7_heldFrom) ∈ xA := xI7 (List.mem_of_getElem? (i := 215) rfl) rfl
theorem w7_216 : (Cond.code yX7_heldFrom cX7_heldFrom 2 (some FieldType.int)) ∈ xA := xI7 (List.mem_of_getElem? (i := 216) rfl) rfl
theorem w7_217 : (Cond.methodLink RL 273 yX7_debtOf) ∈ xA := xI7 (List.mem_of_getElem? (i := 217) rfl) rfl
theorem w7_218 : (Cond.instanceMethod yX7_debtOf) ∈ xA := xI7 (List.mem_of_getElem? (i := 218) rfl) rfl
theorem w7_219 : (Cond.selects RX7 yX7_debtOf yX7_debtOf) ∈ xA := xI7 (List.mem_of_getElem? (i := 219) rfl) rfl
theorem w7_220 : (Cond.code yX7_debtOf cX7_debtOf 2 (some FieldType.int)) ∈ xA := xI7 (List.mem_of_getElem? (i := 220) rfl) rfl
theorem w7_221 : (Cond.methodLink RL 276 yX7_avoidedBy) ∈ xA := xI7 (List.mem_of_getElem? (i := 221) rfl) rfl
theorem w7_222 : (Cond.instanceMethod yX7_avoidedBy) ∈ xA := xI7 (List.mem_of_getElem? (i := 222) rfl) rfl
theorem w7_223 : (Cond.selects RX7 yX7_avoidedBy yX7_avoidedBy) ∈ xA := xI7 (List.mem_of_getElem? (i := 223) rfl) rfl
theorem w7_224 : (Cond.code yX7_avoidedBy cX7_avoidedBy 2 (some FieldType.int)) ∈ xA := xI7 (List.mem_of_getElem? (i := 224) rfl) rfl
theorem w7_225 : (Cond.methodLink RL 279 yX7_boughtBy) ∈ xA := xI7 (List.mem_of_getElem? (i := 225) rfl) rfl
theorem w7_226 : (Cond.instanceMethod yX7_boughtBy) ∈ xA := xI7 (List.mem_of_getElem? (i := 226) rfl) rfl
theorem w7_227 : (Cond.selects RX7 yX7_boughtBy yX7_boughtBy) ∈ xA := xI7 (List.mem_of_getElem? (i := 227) rfl) rfl
theorem w7_228 : (Cond.code yX7_boughtBy cX7_boughtBy 2 (some FieldType.int)) ∈ xA := xI7 (List.mem_of_getElem? (i := 228) rfl) rfl
theorem w7_229 : (Cond.methodLink RL 282 yX7_targetOf) ∈ xA := xI7 (List.mem_of_getElem? (i := 229) rfl) rfl
theorem w7_230 : (Cond.instanceMethod yX7_targetOf) ∈ xA := xI7 (List.mem_of_getElem? (i := 230) rfl) rfl
theorem w7_231 : (Cond.selects RX7 yX7_targetOf yX7_targetOf) ∈ xA := xI7 (List.mem_of_getElem? (i := 231) rfl) rfl
theorem w7_232 : (Cond.code yX7_targetOf cX7_targetOf 2 (some FieldType.int)) ∈ xA := xI7 (List.mem_of_getElem? (i := 232) rfl) rfl
theorem w7_233 : (Cond.methodLink RL 285 yX7_touch) ∈ xA := xI7 (List.mem_of_getElem? (i := 233) rfl) rfl
theorem w7_234 : (Cond.instanceMethod yX7_touch) ∈ xA := xI7 (List.mem_of_getElem? (i := 234) rfl) rfl
theorem w7_235 : (Cond.selects RX7 yX7_touch yX7_touch) ∈ xA := xI7 (List.mem_of_getElem? (i := 235) rfl) rfl
theorem w7_236 : (Cond.code yX7_touch cX7_touch 3 (some FieldType.int)) ∈ xA := xI7 (List.mem_of_getElem? (i := 236) rfl) rfl
theorem w7_237 : (Cond.methodLink RL 289 yX7_coinsInAll) ∈ xA := xI7 (List.mem_of_getElem? (i := 237) rfl) rfl
theorem w7_238 : (Cond.instanceMethod yX7_coinsInAll) ∈ xA := xI7 (List.mem_of_getElem? (i := 238) rfl) rfl
theorem w7_239 : (Cond.selects RX7 yX7_coinsInAll yX7_coinsInAll) ∈ xA := xI7 (List.mem_of_getElem? (i := 239) rfl) rfl
theorem w8_0 : (Cond.code yX7_coinsInAll cX7_coinsInAll 3 (some FieldType.int)) ∈ xA := xI8 (List.mem_of_getElem? (i := 0) rfl) rfl
theorem w8_1 : (Cond.methodLink RX7 326 yX7_sumOf) ∈ xA := xI8 (List.mem_of_getElem? (i := 1) rfl) rfl
theorem w8_3 : (Cond.instanceMethod yX7_sumOf) ∈ xA := xI8 (List.mem_of_getElem? (i := 3) rfl) rfl
theorem w8_4 : (Cond.code yX7_sumOf cX7_sumOf 4 (some FieldType.int)) ∈ xA := xI8 (List.mem_of_getElem? (i := 4) rfl) rfl
theorem w8_5 : (Cond.methodLink RL 293 yX7_consistencyError) ∈ xA := xI8 (List.mem_of_getElem? (i := 5) rfl) rfl
theorem w8_6 : (Cond.instanceMethod yX7_consistencyError) ∈ xA := xI8 (List.mem_of_getElem? (i := 6) rfl) rfl
theorem w8_7 : (Cond.selects RX7 yX7_consistencyError yX7_consistencyError) ∈ xA := xI8 (List.mem_of_getElem? (i := 7) rfl) rfl
theorem w8_8 : (Cond.code yX7_consistencyError cX7_consistencyError 3 (some FieldType.int)) ∈ xA := xI8 (List.mem_of_getElem? (i := 8) rfl) rfl
theorem w8_9 : (Cond.methodLink RX7 329 yJ9_abs_0f7a4) ∈ xA := xI8 (List.mem_of_getElem? (i := 9) rfl) rfl
theorem w8_10 : (Cond.methodLink RL 298 yX7_meanPaid) ∈ xA := xI8 (List.mem_of_getElem? (i := 10) rfl) rfl
theorem w8_11 : (Cond.instanceMethod yX7_meanPaid) ∈ xA := xI8 (List.mem_of_getElem? (i := 11) rfl) rfl
theorem w8_12 : (Cond.selects RX7 yX7_meanPaid yX7_meanPaid) ∈ xA := xI8 (List.mem_of_getElem? (i := 12) rfl) rfl
theorem w8_13 : (Cond.code yX7_meanPaid cX7_meanPaid 1 (some FieldType.double)) ∈ xA := xI8 (List.mem_of_getElem? (i := 13) rfl) rfl
theorem w8_14 : (Cond.methodLink RL 303 yX7_spoiledShare) ∈ xA := xI8 (List.mem_of_getElem? (i := 14) rfl) rfl
theorem w8_15 : (Cond.instanceMethod yX7_spoiledShare) ∈ xA := xI8 (List.mem_of_getElem? (i := 15) rfl) rfl
theorem w8_16 : (Cond.selects RX7 yX7_spoiledShare yX7_spoiledShare) ∈ xA := xI8 (List.mem_of_getElem? (i := 16) rfl) rfl
theorem w8_17 : (Cond.code yX7_spoiledShare cX7_spoiledShare 1 (some FieldType.float)) ∈ xA := xI8 (List.mem_of_getElem? (i := 17) rfl) rfl
theorem w8_18 : (Cond.methodLink RL 306 yX7_minutesToPay) ∈ xA := xI8 (List.mem_of_getElem? (i := 18) rfl) rfl
theorem w8_19 : (Cond.instanceMethod yX7_minutesToPay) ∈ xA := xI8 (List.mem_of_getElem? (i := 19) rfl) rfl
theorem w8_20 : (Cond.selects RX7 yX7_minutesToPay yX7_minutesToPay) ∈ xA := xI8 (List.mem_of_getElem? (i := 20) rfl) rfl
theorem w8_21 : (Cond.code yX7_minutesToPay cX7_minutesToPay 5 (some FieldType.int)) ∈ xA := xI8 (List.mem_of_getElem? (i := 21) rfl) rfl
theorem w8_22 : (Cond.methodLink RL 319 yX7_nextPayer) ∈ xA := xI8 (List.mem_of_getElem? (i := 22) rfl) rfl
theorem w8_23 : (Cond.instanceMethod yX7_nextPayer) ∈ xA := xI8 (List.mem_of_getElem? (i := 23) rfl) rfl
theorem w8_24 : (Cond.selects RX7 yX7_nextPayer yX7_nextPayer) ∈ xA := xI8 (List.mem_of_getElem? (i := 24) rfl) rfl
theorem w8_25 : (Cond.code yX7_nextPayer cX7_nextPayer 5 (some FieldType.int)) ∈ xA := xI8 (List.mem_of_getElem? (i := 25) rfl) rfl
theorem w8_26 : (Cond.methodLink RL 323 yX7_bestBellPosition) ∈ xA := xI8 (List.mem_of_getElem? (i := 26) rfl) rfl
theorem w8_27 : (Cond.instanceMethod yX7_bestBellPosition) ∈ xA := xI8 (List.mem_of_getElem? (i := 27) rfl) rfl
theorem w8_28 : (Cond.selects RX7 yX7_bestBellPosition yX7_bestBellPosition) ∈ xA := xI8 (List.mem_of_getElem? (i := 28) rfl) rfl
theorem w8_29 : (Cond.code yX7_bestBellPosition cX7_bestBellPosition 6 (some FieldType.int)) ∈ xA := xI8 (List.mem_of_getElem? (i := 29) rfl) rfl
theorem w8_30 : (Cond.methodLink RL 309 yX7_earningsAfter) ∈ xA := xI8 (List.mem_of_getElem? (i := 30) rfl) rfl
theorem w8_31 : (Cond.instanceMethod yX7_earningsAfter) ∈ xA := xI8 (List.mem_of_getElem? (i := 31) rfl) rfl
theorem w8_32 : (Cond.selects RX7 yX7_earningsAfter yX7_earningsAfter) ∈ xA := xI8 (List.mem_of_getElem? (i := 32) rfl) rfl
theorem w8_33 : (Cond.code yX7_earningsAfter cX7_earningsAfter 3 (some FieldType.int)) ∈ xA := xI8 (List.mem_of_getElem? (i := 33) rfl) rfl
theorem w8_34 : (Cond.methodLink RX7 332 yX7_earnedIn) ∈ xA := xI8 (List.mem_of_getElem? (i := 34) rfl) rfl
theorem w8_36 : (Cond.instanceMethod yX7_earnedIn) ∈ xA := xI8 (List.mem_of_getElem? (i := 36) rfl) rfl
theorem w8_37 : (Cond.code yX7_earnedIn cX7_earnedIn 4 (some FieldType.int)) ∈ xA := xI8 (List.mem_of_getElem? (i := 37) rfl) rfl
theorem w8_38 : (Cond.methodLink RL 312 yX7_bestPrice) ∈ xA := xI8 (List.mem_of_getElem? (i := 38) rfl) rfl
theorem w8_39 : (Cond.instanceMethod yX7_bestPrice) ∈ xA := xI8 (List.mem_of_getElem? (i := 39) rfl) rfl
theorem w8_40 : (Cond.selects RX7 yX7_bestPrice yX7_bestPrice) ∈ xA := xI8 (List.mem_of_getElem? (i := 40) rfl) rfl
theorem w8_41 : (Cond.code yX7_bestPrice cX7_bestPrice 2 (some FieldType.int)) ∈ xA := xI8 (List.mem_of_getElem? (i := 41) rfl) rfl
theorem w8_42 : (Cond.methodLink RX7 335 yX7_best) ∈ xA := xI8 (List.mem_of_getElem? (i := 42) rfl) rfl
theorem w8_44 : (Cond.instanceMethod yX7_best) ∈ xA := xI8 (List.mem_of_getElem? (i := 44) rfl) rfl
theorem w8_45 : (Cond.code yX7_best cX7_best 9 (some FieldType.int)) ∈ xA := xI8 (List.mem_of_getElem? (i := 45) rfl) rfl
theorem w8_46 : (Cond.methodLink RL 315 yX7_bestLantern) ∈ xA := xI8 (List.mem_of_getElem? (i := 46) rfl) rfl
theorem w8_47 : (Cond.instanceMethod yX7_bestLantern) ∈ xA := xI8 (List.mem_of_getElem? (i := 47) rfl) rfl
theorem w8_48 : (Cond.selects RX7 yX7_bestLantern yX7_bestLantern) ∈ xA := xI8 (List.mem_of_getElem? (i := 48) rfl) rfl
theorem w8_49 : (Cond.code yX7_bestLantern cX7_bestLantern 2 (some FieldType.int)) ∈ xA := xI8 (List.mem_of_getElem? (i := 49) rfl) rfl
theorem w8_50 : (Cond.methodLink RL 327 yX7_addStall) ∈ xA := xI8 (List.mem_of_getElem? (i := 50) rfl) rfl
theorem w8_51 : (Cond.instanceMethod yX7_addStall) ∈ xA := xI8 (List.mem_of_getElem? (i := 51) rfl) rfl
theorem w8_52 : (Cond.selects RX7 yX7_addStall yX7_addStall) ∈ xA := xI8 (List.mem_of_getElem? (i := 52) rfl) rfl
theorem w8_53 : (Cond.code yX7_addStall cX7_addStall 7 (some FieldType.int)) ∈ xA := xI8 (List.mem_of_getElem? (i := 53) rfl) rfl
theorem w8_54 : (Cond.methodLink RX7 338 yX7_record) ∈ xA := xI8 (List.mem_of_getElem? (i := 54) rfl) rfl
theorem w8_56 : (Cond.instanceMethod yX7_record) ∈ xA := xI8 (List.mem_of_getElem? (i := 56) rfl) rfl
theorem w8_57 : (Cond.code yX7_record cX7_record 2 none) ∈ xA := xI8 (List.mem_of_getElem? (i := 57) rfl) rfl
theorem w8_58 : (Cond.methodLink RL 331 yX7_addBuyer) ∈ xA := xI8 (List.mem_of_getElem? (i := 58) rfl) rfl
theorem w8_59 : (Cond.instanceMethod yX7_addBuyer) ∈ xA := xI8 (List.mem_of_getElem? (i := 59) rfl) rfl
theorem w8_60 : (Cond.selects RX7 yX7_addBuyer yX7_addBuyer) ∈ xA := xI8 (List.mem_of_getElem? (i := 60) rfl) rfl
theorem w8_61 : (Cond.code yX7_addBuyer cX7_addBuyer 6 (some FieldType.int)) ∈ xA := xI8 (List.mem_of_getElem? (i := 61) rfl) rfl
theorem w8_62 : (Cond.methodLink RL 334 yX7_setPrice) ∈ xA := xI8 (List.mem_of_getElem? (i := 62) rfl) rfl
theorem w8_63 : (Cond.instanceMethod yX7_setPrice) ∈ xA := xI8 (List.mem_of_getElem? (i := 63) rfl) rfl
theorem w8_64 : (Cond.selects RX7 yX7_setPrice yX7_setPrice) ∈ xA := xI8 (List.mem_of_getElem? (i := 64) rfl) rfl
theorem w8_65 : (Cond.code yX7_setPrice cX7_setPrice 3 (some FieldType.int)) ∈ xA := xI8 (List.mem_of_getElem? (i := 65) rfl) rfl
theorem w8_66 : (Cond.methodLink RL 337 yX7_addStock) ∈ xA := xI8 (List.mem_of_getElem? (i := 66) rfl) rfl
theorem w8_67 : (Cond.instanceMethod yX7_addStock) ∈ xA := xI8 (List.mem_of_getElem? (i := 67) rfl) rfl
theorem w8_68 : (Cond.selects RX7 yX7_addStock yX7_addStock) ∈ xA := xI8 (List.mem_of_getElem? (i := 68) rfl) rfl
theorem w8_69 : (Cond.code yX7_addStock cX7_addStock 3 (some FieldType.int)) ∈ xA := xI8 (List.mem_of_getElem? (i := 69) rfl) rfl
theorem w8_70 : (Cond.methodLink RL 340 yX7_setLantern) ∈ xA := xI8 (List.mem_of_getElem? (i := 70) rfl) rfl
theorem w8_71 : (Cond.instanceMethod yX7_setLantern) ∈ xA := xI8 (List.mem_of_getElem? (i := 71) rfl) rfl
theorem w8_72 : (Cond.selects RX7 yX7_setLantern yX7_setLantern) ∈ xA := xI8 (List.mem_of_getElem? (i := 72) rfl) rfl
theorem w8_73 : (Cond.code yX7_setLantern cX7_setLantern 3 (some FieldType.int)) ∈ xA := xI8 (List.mem_of_getElem? (i := 73) rfl) rfl
theorem w8_74 : (Cond.methodLink RL 343 yX7_moveStall) ∈ xA := xI8 (List.mem_of_getElem? (i := 74) rfl) rfl
theorem w8_75 : (Cond.instanceMethod yX7_moveStall) ∈ xA := xI8 (List.mem_of_getElem? (i := 75) rfl) rfl
theorem w8_76 : (Cond.selects RX7 yX7_moveStall yX7_moveStall) ∈ xA := xI8 (List.mem_of_getElem? (i := 76) rfl) rfl
theorem w8_77 : (Cond.code yX7_moveStall cX7_moveStall 3 (some FieldType.int)) ∈ xA := xI8 (List.mem_of_getElem? (i := 77) rfl) rfl
theorem w8_78 : (Cond.methodLink RL 346 yX7_setFog) ∈ xA := xI8 (List.mem_of_getElem? (i := 78) rfl) rfl
theorem w8_79 : (Cond.instanceMethod yX7_setFog) ∈ xA := xI8 (List.mem_of_getElem? (i := 79) rfl) rfl
theorem w8_80 : (Cond.selects RX7 yX7_setFog yX7_setFog) ∈ xA := xI8 (List.mem_of_getElem? (i := 80) rfl) rfl
theorem w8_81 : (Cond.code yX7_setFog cX7_setFog 3 (some FieldType.int)) ∈ xA := xI8 (List.mem_of_getElem? (i := 81) rfl) rfl
theorem w8_82 : (Cond.methodLink RL 349 yX7_putBack) ∈ xA := xI8 (List.mem_of_getElem? (i := 82) rfl) rfl
theorem w8_83 : (Cond.instanceMethod yX7_putBack) ∈ xA := xI8 (List.mem_of_getElem? (i := 83) rfl) rfl
theorem w8_84 : (Cond.selects RX7 yX7_putBack yX7_putBack) ∈ xA := xI8 (List.mem_of_getElem? (i := 84) rfl) rfl
theorem w8_85 : (Cond.code yX7_putBack cX7_putBack 2 (some FieldType.int)) ∈ xA := xI8 (List.mem_of_getElem? (i := 85) rfl) rfl
theorem w8_86 : (Cond.methodLink RL 352 yX7_passMinutes) ∈ xA := xI8 (List.mem_of_getElem? (i := 86) rfl) rfl
theorem w8_87 : (Cond.instanceMethod yX7_passMinutes) ∈ xA := xI8 (List.mem_of_getElem? (i := 87) rfl) rfl
theorem w8_88 : (Cond.selects RX7 yX7_passMinutes yX7_passMinutes) ∈ xA := xI8 (List.mem_of_getElem? (i := 88) rfl) rfl
theorem w8_89 : (Cond.code yX7_passMinutes cX7_passMinutes 2 (some FieldType.int)) ∈ xA := xI8 (List.mem_of_getElem? (i := 89) rfl) rfl
theorem w8_90 : (Cond.methodLink RL 356 yX7_undo) ∈ xA := xI8 (List.mem_of_getElem? (i := 90) rfl) rfl
theorem w8_91 : (Cond.instanceMethod yX7_undo) ∈ xA := xI8 (List.mem_of_getElem? (i := 91) rfl) rfl
theorem w8_92 : (Cond.selects RX7 yX7_undo yX7_undo) ∈ xA := xI8 (List.mem_of_getElem? (i := 92) rfl) rfl
theorem w8_93 : (Cond.code yX7_undo cX7_undo 2 (some FieldType.int)) ∈ xA := xI8 (List.mem_of_getElem? (i := 93) rfl) rfl
theorem w8_94 : (Cond.methodLink RL 359 yX7_save) ∈ xA := xI8 (List.mem_of_getElem? (i := 94) rfl) rfl
theorem w8_95 : (Cond.instanceMethod yX7_save) ∈ xA := xI8 (List.mem_of_getElem? (i := 95) rfl) rfl
theorem w8_96 : (Cond.selects RX7 yX7_save yX7_save) ∈ xA := xI8 (List.mem_of_getElem? (i := 96) rfl) rfl
theorem w8_97 : (Cond.code yX7_save cX7_save 3 (some FieldType.int)) ∈ xA := xI8 (List.mem_of_getElem? (i := 97) rfl) rfl
theorem w8_98 : (Cond.methodLink RL 362 yX7_restore) ∈ xA := xI8 (List.mem_of_getElem? (i := 98) rfl) rfl
theorem w8_99 : (Cond.instanceMethod yX7_restore) ∈ xA := xI8 (List.mem_of_getElem? (i := 99) rfl) rfl
theorem w8_100 : (Cond.selects RX7 yX7_restore yX7_restore) ∈ xA := xI8 (List.mem_of_getElem? (i := 100) rfl) rfl
theorem w8_101 : (Cond.code yX7_restore cX7_restore 3 (some FieldType.int)) ∈ xA := xI8 (List.mem_of_getElem? (i := 101) rfl) rfl
theorem w8_102 : (Cond.methodLink RL 366 yX7_writeRope) ∈ xA := xI8 (List.mem_of_getElem? (i := 102) rfl) rfl
theorem w8_103 : (Cond.instanceMethod yX7_writeRope) ∈ xA := xI8 (List.mem_of_getElem? (i := 103) rfl) rfl
theorem w8_104 : (Cond.selects RX7 yX7_writeRope yX7_writeRope) ∈ xA := xI8 (List.mem_of_getElem? (i := 104) rfl) rfl
theorem w8_105 : (Cond.code yX7_writeRope cX7_writeRope 2 (some FieldType.int)) ∈ xA := xI8 (List.mem_of_getElem? (i := 105) rfl) rfl
theorem w8_106 : (Cond.methodLink RX7 344 yX7_signAt) ∈ xA := xI8 (List.mem_of_getElem? (i := 106) rfl) rfl
theorem w8_108 : (Cond.instanceMethod yX7_signAt) ∈ xA := xI8 (List.mem_of_getElem? (i := 108) rfl) rfl
theorem w8_109 : (Cond.code yX7_signAt cX7_signAt 3 (some FieldType.int)) ∈ xA := xI8 (List.mem_of_getElem? (i := 109) rfl) rfl
theorem w8_110 : (Cond.methodLink RL 370 yX7_outputByte) ∈ xA := xI8 (List.mem_of_getElem? (i := 110) rfl) rfl
theorem w8_111 : (Cond.instanceMethod yX7_outputByte) ∈ xA := xI8 (List.mem_of_getElem? (i := 111) rfl) rfl
theorem w8_112 : (Cond.selects RX7 yX7_outputByte yX7_outputByte) ∈ xA := xI8 (List.mem_of_getElem? (i := 112) rfl) rfl
theorem w8_113 : (Cond.code yX7_outputByte cX7_outputByte 2 (some FieldType.int)) ∈ xA := xI8 (List.mem_of_getElem? (i := 113) rfl) rfl
theorem w8_114 : (Cond.arrayClass FieldType.long) ∈ xA := xI8 (List.mem_of_getElem? (i := 114) rfl) rfl
theorem w8_115 : (Cond.sameMethod "java/lang/Throwable" "java/lang/Throwable" "fillInStackTrace" "(I)Ljava/lang/Throwable;") ∈ xA := xI8 (List.mem_of_getElem? (i := 115) rfl) rfl
theorem w8_129 : (Cond.fieldLink RJ0 9 "java/lang/String" "value" "[B") ∈ xA := xI8 (List.mem_of_getElem? (i := 129) rfl) rfl
theorem w8_130 : (Cond.fieldLink RJ0 15 "java/lang/String" "coder" "B") ∈ xA := xI8 (List.mem_of_getElem? (i := 130) rfl) rfl
theorem w8_131 : (Cond.fieldLink RX3 112 "FogBellMarket$Verb" "word" "Ljava/lang/String;") ∈ xA := xI8 (List.mem_of_getElem? (i := 131) rfl) rfl
theorem w8_132 : (Cond.fieldLink RX3 98 "FogBellMarket$Verb" "kinds" "Ljava/lang/String;") ∈ xA := xI8 (List.mem_of_getElem? (i := 132) rfl) rfl
theorem w8_133 : (Cond.fieldLink RJx29ce0 7 "java/lang/Enum" "ordinal" "I") ∈ xA := xI8 (List.mem_of_getElem? (i := 133) rfl) rfl
theorem wp1_0 : (Cond.selects RX3 yX3_appendByte yX3_appendByte) ∈ xA := xS1 (List.mem_of_getElem? (i := 0) rfl) rfl
theorem wp1_1 : (Cond.selects RX6 yX6_replaceMarket yX6_replaceMarket) ∈ xA := xS1 (List.mem_of_getElem? (i := 1) rfl) rfl
theorem wp1_2 : (Cond.selects RX3 yX3_readWord yX3_readWord) ∈ xA := xS1 (List.mem_of_getElem? (i := 2) rfl) rfl
theorem wp1_3 : (Cond.selects RX3 yX3_readToken yX3_readToken) ∈ xA := xS1 (List.mem_of_getElem? (i := 3) rfl) rfl
theorem wp1_4 : (Cond.selects RX3 yX3_byteAt yX3_byteAt) ∈ xA := xS1 (List.mem_of_getElem? (i := 4) rfl) rfl
theorem wp1_5 : (Cond.selects RX3 yX3_readDigits yX3_readDigits) ∈ xA := xS1 (List.mem_of_getElem? (i := 5) rfl) rfl
theorem wp1_6 : (Cond.selects RX3 yX3_isWord yX3_isWord) ∈ xA := xS1 (List.mem_of_getElem? (i := 6) rfl) rfl
theorem wp1_7 : (Cond.selects RX3 yX3_fail yX3_fail) ∈ xA := xS1 (List.mem_of_getElem? (i := 7) rfl) rfl
theorem wp1_8 : (Cond.selects RX3 yX3_readNumber yX3_readNumber) ∈ xA := xS1 (List.mem_of_getElem? (i := 8) rfl) rfl
theorem wp1_9 : (Cond.selects RX3 yX3_isNumberFrom yX3_isNumberFrom) ∈ xA := xS1 (List.mem_of_getElem? (i := 9) rfl) rfl
theorem wp1_10 : (Cond.selects RX3 yX3_readSemicolon yX3_readSemicolon) ∈ xA := xS1 (List.mem_of_getElem? (i := 10) rfl) rfl
theorem wp1_11 : (Cond.selects RX3 yX3_readFog yX3_readFog) ∈ xA := xS1 (List.mem_of_getElem? (i := 11) rfl) rfl
theorem wp1_12 : (Cond.selects RX6 yX6_readCommands yX6_readCommands) ∈ xA := xS1 (List.mem_of_getElem? (i := 12) rfl) rfl
theorem wp1_13 : (Cond.selects RX3 yX3_verbRead yX3_verbRead) ∈ xA := xS1 (List.mem_of_getElem? (i := 13) rfl) rfl
theorem wp1_14 : (Cond.selects RX3 yX3_hasNoRoom yX3_hasNoRoom) ∈ xA := xS1 (List.mem_of_getElem? (i := 14) rfl) rfl
theorem wp1_15 : (Cond.selects RX3 yX3_readArgument yX3_readArgument) ∈ xA := xS1 (List.mem_of_getElem? (i := 15) rfl) rfl
theorem wp2_0 : (Cond.selects RX3 yX3_lanternRead yX3_lanternRead) ∈ xA := xS2 (List.mem_of_getElem? (i := 0) rfl) rfl
theorem wp2_1 : (Cond.selects RX3 yX3_textureRead yX3_textureRead) ∈ xA := xS2 (List.mem_of_getElem? (i := 1) rfl) rfl
theorem wp2_2 : (Cond.selects RX3 yX3_keepArgument yX3_keepArgument) ∈ xA := xS2 (List.mem_of_getElem? (i := 2) rfl) rfl
theorem wp2_3 : (Cond.selects RX3 yX3_isRefusedBy yX3_isRefusedBy) ∈ xA := xS2 (List.mem_of_getElem? (i := 3) rfl) rfl
theorem wp2_4 : (Cond.selects RX2 yX2_letAct yX2_letAct) ∈ xA := xS2 (List.mem_of_getElem? (i := 4) rfl) rfl
theorem wp2_5 : (Cond.selects RX4 yX4_guardedDensity yX4_guardedDensity) ∈ xA := xS2 (List.mem_of_getElem? (i := 5) rfl) rfl
theorem wp2_6 : (Cond.selects RX6 yX6_forgetChanges yX6_forgetChanges) ∈ xA := xS2 (List.mem_of_getElem? (i := 6) rfl) rfl
theorem wp2_7 : (Cond.selects RX6 yX6_remember yX6_remember) ∈ xA := xS2 (List.mem_of_getElem? (i := 7) rfl) rfl
theorem wp2_8 : (Cond.selects RX6 yX6_drawOnRope yX6_drawOnRope) ∈ xA := xS2 (List.mem_of_getElem? (i := 8) rfl) rfl
theorem wp2_10 : (Cond.selects RX6 yX6_stallAt yX6_stallAt) ∈ xA := xS2 (List.mem_of_getElem? (i := 10) rfl) rfl
theorem wp2_11 : (Cond.selects RX6 yX6_checkStall yX6_checkStall) ∈ xA := xS2 (List.mem_of_getElem? (i := 11) rfl) rfl
theorem wp2_12 : (Cond.selects RX6 yX6_buyerAt yX6_buyerAt) ∈ xA := xS2 (List.mem_of_getElem? (i := 12) rfl) rfl
theorem wp2_13 : (Cond.selects RX6 yX6_checkBuyer yX6_checkBuyer) ∈ xA := xS2 (List.mem_of_getElem? (i := 13) rfl) rfl
theorem wp2_14 : (Cond.selects RX7 yX7_startTrial yX7_startTrial) ∈ xA := xS2 (List.mem_of_getElem? (i := 14) rfl) rfl
theorem wp2_15 : (Cond.selects RX7 yX7_startText yX7_startText) ∈ xA := xS2 (List.mem_of_getElem? (i := 15) rfl) rfl
theorem wp3_0 : (Cond.selects RX7 yX7_next yX7_next) ∈ xA := xS3 (List.mem_of_getElem? (i := 0) rfl) rfl
theorem wp3_1 : (Cond.selects RX7 yX7_setupText yX7_setupText) ∈ xA := xS3 (List.mem_of_getElem? (i := 1) rfl) rfl
theorem wp3_2 : (Cond.selects RX7 yX7_expects yX7_expects) ∈ xA := xS3 (List.mem_of_getElem? (i := 2) rfl) rfl
theorem wp3_3 : (Cond.selects RX7 yX7_isWord yX7_isWord) ∈ xA := xS3 (List.mem_of_getElem? (i := 3) rfl) rfl
theorem wp3_4 : (Cond.selects RX7 yX7_wrong yX7_wrong) ∈ xA := xS3 (List.mem_of_getElem? (i := 4) rfl) rfl
theorem wp3_5 : (Cond.selects RX7 yX7_into yX7_into) ∈ xA := xS3 (List.mem_of_getElem? (i := 5) rfl) rfl
theorem wp3_6 : (Cond.selects RX7 yX7_numberIn yX7_numberIn) ∈ xA := xS3 (List.mem_of_getElem? (i := 6) rfl) rfl
theorem wp3_7 : (Cond.selects RX7 yX7_semicolon yX7_semicolon) ∈ xA := xS3 (List.mem_of_getElem? (i := 7) rfl) rfl
theorem wp3_8 : (Cond.selects RX7 yX7_isEnd yX7_isEnd) ∈ xA := xS3 (List.mem_of_getElem? (i := 8) rfl) rfl
theorem wp3_9 : (Cond.selects RX7 yX7_commandsText yX7_commandsText) ∈ xA := xS3 (List.mem_of_getElem? (i := 9) rfl) rfl
theorem wp3_10 : (Cond.selects RX7 yX7_commandHere yX7_commandHere) ∈ xA := xS3 (List.mem_of_getElem? (i := 10) rfl) rfl
theorem wp3_11 : (Cond.selects RX7 yX7_commandText yX7_commandText) ∈ xA := xS3 (List.mem_of_getElem? (i := 11) rfl) rfl
theorem wp3_12 : (Cond.selects RX7 yX7_argumentsText yX7_argumentsText) ∈ xA := xS3 (List.mem_of_getElem? (i := 12) rfl) rfl
theorem wp3_13 : (Cond.selects RX7 yX7_lanternInto yX7_lanternInto) ∈ xA := xS3 (List.mem_of_getElem? (i := 13) rfl) rfl
theorem wp3_14 : (Cond.selects RX7 yX7_wordRead yX7_wordRead) ∈ xA := xS3 (List.mem_of_getElem? (i := 14) rfl) rfl
theorem wp3_15 : (Cond.selects RX7 yX7_textureInto yX7_textureInto) ∈ xA := xS3 (List.mem_of_getElem? (i := 15) rfl) rfl
theorem wp4_0 : (Cond.selects RX7 yX7_holderInto yX7_holderInto) ∈ xA := xS4 (List.mem_of_getElem? (i := 0) rfl) rfl
theorem wp4_1 : (Cond.selects RX7 yX7_by yX7_by) ∈ xA := xS4 (List.mem_of_getElem? (i := 1) rfl) rfl
theorem wp4_2 : (Cond.selects RX7 yX7_stockInto yX7_stockInto) ∈ xA := xS4 (List.mem_of_getElem? (i := 2) rfl) rfl
theorem wp4_3 : (Cond.selects RX7 yX7_st yX7_st) ∈ xA := xS4 (List.mem_of_getElem? (i := 3) rfl) rfl
theorem wp4_4 : (Cond.selects RX7 yX7_does yX7_does) ∈ xA := xS4 (List.mem_of_getElem? (i := 4) rfl) rfl
theorem wp4_5 : (Cond.selects RX7 yX7_doStall yX7_doStall) ∈ xA := xS4 (List.mem_of_getElem? (i := 5) rfl) rfl
theorem wp4_6 : (Cond.selects RX7 yX7_more yX7_more) ∈ xA := xS4 (List.mem_of_getElem? (i := 6) rfl) rfl
theorem wp4_7 : (Cond.selects RX7 yX7_doBuyer yX7_doBuyer) ∈ xA := xS4 (List.mem_of_getElem? (i := 7) rfl) rfl
theorem wp4_8 : (Cond.selects RX7 yX7_put yX7_put) ∈ xA := xS4 (List.mem_of_getElem? (i := 8) rfl) rfl
theorem wp4_9 : (Cond.selects RX7 yX7_passAll yX7_passAll) ∈ xA := xS4 (List.mem_of_getElem? (i := 9) rfl) rfl
theorem wp4_10 : (Cond.selects RX7 yX7_passMinute yX7_passMinute) ∈ xA := xS4 (List.mem_of_getElem? (i := 10) rfl) rfl
theorem wp4_11 : (Cond.selects RX7 yX7_fogAt yX7_fogAt) ∈ xA := xS4 (List.mem_of_getElem? (i := 11) rfl) rfl
theorem wp4_12 : (Cond.selects RX7 yX7_stepBell yX7_stepBell) ∈ xA := xS4 (List.mem_of_getElem? (i := 12) rfl) rfl
theorem wp4_13 : (Cond.selects RX7 yX7_endBell yX7_endBell) ∈ xA := xS4 (List.mem_of_getElem? (i := 13) rfl) rfl
theorem wp4_14 : (Cond.selects RX7 yX7_giveBack yX7_giveBack) ∈ xA := xS4 (List.mem_of_getElem? (i := 14) rfl) rfl
theorem wp4_15 : (Cond.selects RX7 yX7_act yX7_act) ∈ xA := xS4 (List.mem_of_getElem? (i := 15) rfl) rfl
theorem wp5_0 : (Cond.selects RX7 yX7_walk yX7_walk) ∈ xA := xS5 (List.mem_of_getElem? (i := 0) rfl) rfl
theorem wp5_1 : (Cond.selects RX7 yX7_pay yX7_pay) ∈ xA := xS5 (List.mem_of_getElem? (i := 1) rfl) rfl
theorem wp5_2 : (Cond.selects RX7 yX7_target yX7_target) ∈ xA := xS5 (List.mem_of_getElem? (i := 2) rfl) rfl
theorem wp5_3 : (Cond.selects RX7 yX7_isSeen yX7_isSeen) ∈ xA := xS5 (List.mem_of_getElem? (i := 3) rfl) rfl
theorem wp5_4 : (Cond.selects RX7 yX7_takes yX7_takes) ∈ xA := xS5 (List.mem_of_getElem? (i := 4) rfl) rfl
theorem wp5_5 : (Cond.selects RX7 yX7_feel yX7_feel) ∈ xA := xS5 (List.mem_of_getElem? (i := 5) rfl) rfl
theorem wp5_6 : (Cond.selects RX7 yX7_lays yX7_lays) ∈ xA := xS5 (List.mem_of_getElem? (i := 6) rfl) rfl
theorem wp5_7 : (Cond.selects RX7 yX7_doBack yX7_doBack) ∈ xA := xS5 (List.mem_of_getElem? (i := 7) rfl) rfl
theorem wp5_8 : (Cond.selects RX7 yX7_doStock yX7_doStock) ∈ xA := xS5 (List.mem_of_getElem? (i := 8) rfl) rfl
theorem wp5_9 : (Cond.selects RX7 yX7_leaveTrial yX7_leaveTrial) ∈ xA := xS5 (List.mem_of_getElem? (i := 9) rfl) rfl
theorem wp5_10 : (Cond.selects RX7 yX7_pushAside yX7_pushAside) ∈ xA := xS5 (List.mem_of_getElem? (i := 10) rfl) rfl
theorem wp5_11 : (Cond.selects RX7 yX7_plain yX7_plain) ∈ xA := xS5 (List.mem_of_getElem? (i := 11) rfl) rfl
theorem wp5_12 : (Cond.selects RX7 yX7_fails yX7_fails) ∈ xA := xS5 (List.mem_of_getElem? (i := 12) rfl) rfl
theorem wp5_13 : (Cond.selects RX7 yX7_minutesTo yX7_minutesTo) ∈ xA := xS5 (List.mem_of_getElem? (i := 13) rfl) rfl
theorem wp5_14 : (Cond.selects RX7 yX7_asked yX7_asked) ∈ xA := xS5 (List.mem_of_getElem? (i := 14) rfl) rfl
theorem wp5_15 : (Cond.selects RX7 yX7_isStall yX7_isStall) ∈ xA := xS5 (List.mem_of_getElem? (i := 15) rfl) rfl
theorem wp6_0 : (Cond.selects RX7 yX7_held yX7_held) ∈ xA := xS6 (List.mem_of_getElem? (i := 0) rfl) rfl
theorem wp6_1 : (Cond.selects RX7 yX7_askedOf yX7_askedOf) ∈ xA := xS6 (List.mem_of_getElem? (i := 1) rfl) rfl
theorem wp6_2 : (Cond.selects RX7 yX7_isBuyer yX7_isBuyer) ∈ xA := xS6 (List.mem_of_getElem? (i := 2) rfl) rfl
theorem wp6_3 : (Cond.selects RX7 yX7_sumOf yX7_sumOf) ∈ xA := xS6 (List.mem_of_getElem? (i := 3) rfl) rfl
theorem wp6_4 : (Cond.selects RX7 yX7_earnedIn yX7_earnedIn) ∈ xA := xS6 (List.mem_of_getElem? (i := 4) rfl) rfl
theorem wp6_5 : (Cond.selects RX7 yX7_best yX7_best) ∈ xA := xS6 (List.mem_of_getElem? (i := 5) rfl) rfl
theorem wp6_6 : (Cond.selects RX7 yX7_record yX7_record) ∈ xA := xS6 (List.mem_of_getElem? (i := 6) rfl) rfl
theorem wp6_7 : (Cond.selects RX7 yX7_signAt yX7_signAt) ∈ xA := xS6 (List.mem_of_getElem? (i := 7) rfl) rfl
end
section
/-! THE MEMORY of both systems as one function; a cell is (kind, base, length); the kinds: 0 Stall 1 Buyer 2 Market 3 Reader 4 FogBellMarket 5 Model 6 int[] 7 byte[] 8 boolean[] 9 long[] 10 Stall[] 11 Buyer[] 12 Market[] -/
abbrev xM : Type := Nat → Int32
abbrev xQ : Type := Nat × Nat × Nat
/-- addresses by kind and base; the classes of arrays; the enum's constants -/
abbrev xG : Type := (Nat → Nat → Nat) × (Nat → ClassId) × (Nat → Nat)
def ws_ (y : MethodName) (cc : ByteArray) (n : Nat) (ret : Option FieldType) : List Cond := .code y cc n ret :: xA
def x_en (x : Int32) : Option Nat := if x = 0 then none else some (x.toNatClampNeg - 1)
abbrev xCl : List vw_C := [(RX1, TX1, 8), (RX2, TX2, 14), (RX3, TX3, 10), (RX4, TX4, 9), (RX6, TX6, 11), (RX7, TX7, 20)]
abbrev x_tys (g : xG) : List (ClassId × FieldType) := [(g.2.1 0, .int), (g.2.1 1, .byte), (g.2.1 2, .boolean), (g.2.1 3, .long), (g.2.1 4, .object RX4), (g.2.1 5, .object RX1), (g.2.1 6, .object RX2)]
def x_f0 (g : xG) (b : Nat) (M : xM) : List Value := [.int (M (b + 0)), .int (M (b + 1)), .int (M (b + 2)), .int (M (b + 3)), .int (M (b + 4)), .int (M (b + 5)), .int (M (b + 6)), .int (M (b + 7)), .int (M (b + 8))]
def x_f1 (g : xG) (b : Nat) (M : xM) : List Value := [.int (M (b + 0)), .int (M (b + 1)), .int (M (b + 2)), .int (M (b + 3)), .int (M (b + 4)), .int (M (b + 5)), .int (M (b + 6)), .int (M (b + 7))]
def x_f2 (g : xG) (b : Nat) (M : xM) : List Value := [.ref (g.1 10 (b + 23)), .int (M (b + 9)), .ref (g.1 11 (b + 77)), .int (M (b + 10)), .ref (g.1 6 (b + 11)), .int (M (b + 8)), .int (M (b + 0)), .int (M (b + 7)), .int (M (b + 5)), .int (M (b + 6)), .int (M (b + 1)), .int (M (b + 2)), .int (M (b + 3)), .int (M (b + 4))]
def x_f3 (g : xG) (b : Nat) (M : xM) : List Value := [.ref (g.1 7 (b + 15)), .int (M (b + 1)), .int (M (b + 2)), .int (M (b + 3)), va_re g.2.2 (x_en (M (b + 4))), .ref (g.1 6 (b + 10)), .int (M (b + 6)), .int (M (b + 7)), .int (M (b + 8)), .int (M (b + 9))]
def x_f4 (g : xG) (b : Nat) (M : xM) : List Value := [.ref (g.1 2 0), .ref (g.1 2 128), .ref (g.1 2 256), .ref (g.1 3 1777), .ref (g.1 12 384), .int (M (b + 5)), .int (M (b + 6)), .ref (g.1 12 1408), .ref (g.1 8 (b + 11)), .ref (g.1 7 (b + 13)), .int (M (b + 10))]
def x_f5 (g : xG) (b : Nat) (M : xM) : List Value := [.ref (g.1 6 4252), .int (M (b + 1)), .int (M (b + 2)), .int (M (b + 3)), .int (M (b + 4)), .ref (g.1 6 2520), .ref (g.1 6 2645), .ref (g.1 6 2770), .ref (g.1 6 2895), .int (M (b + 9)), .ref (g.1 6 3895), .ref (g.1 8 4145), .int (M (b + 12)), .ref (g.1 6 4147), .ref (g.1 6 4152), .int (M (b + 15)), .int (M (b + 16)), .int (M (b + 17)), .int (M (b + 18)), .int (M (b + 19))]
def x_cell (g : xG) (M : xM) (q : xQ) : va_E := match q.1 with
  | 0 => .inr (3, x_f0 g q.2.1 M)
  | 1 => .inr (0, x_f1 g q.2.1 M)
  | 2 => .inr (1, x_f2 g q.2.1 M)
  | 3 => .inr (2, x_f3 g q.2.1 M)
  | 4 => .inr (4, x_f4 g q.2.1 M)
  | 5 => .inr (5, x_f5 g q.2.1 M)
  | 6 => .inl (g.2.1 0, q.2.2, .inl (fun j => M (q.2.1 + j)))
  | 7 => .inl (g.2.1 1, q.2.2, .inl (fun j => M (q.2.1 + j)))
  | 8 => .inl (g.2.1 2, q.2.2, .inl (fun j => M (q.2.1 + j)))
  | 9 => .inl (g.2.1 3, q.2.2, .inr (.inl (fun j => (M (q.2.1 + j)).toInt64)))
  | 10 => .inl (g.2.1 4, q.2.2, .inr (.inr (.inr (.inr (fun j => some (g.1 0 (q.2.1 + 9 * j)))))))
  | 11 => .inl (g.2.1 5, q.2.2, .inr (.inr (.inr (.inr (fun j => some (g.1 1 (q.2.1 + 8 * j)))))))
  | _ => .inl (g.2.1 6, q.2.2, .inr (.inr (.inr (.inr (fun j => some (g.1 2 (q.2.1 + 128 * j)))))))
def x_sz (q : xQ) : Nat := match q.1 with
  | 0 => 9
  | 1 => 8
  | 2 => 11
  | 3 => 10
  | 4 => 11
  | 5 => 20
  | 6 => q.2.2
  | 7 => q.2.2
  | 8 => q.2.2
  | 9 => q.2.2
  | _ => 0
def x_ad (g : xG) (q : xQ) : Nat := g.1 q.1 q.2.1
def x_ws (g : xG) (tb : List xQ) (M : xM) : va_W := tb.map (fun q => (x_ad g q, x_cell g M q))
def x_in (q : xQ) (z : Nat) : Prop := q.2.1 ≤ z ∧ z < q.2.1 + x_sz q
/-- the table: addresses apart, cells apart in the memory -/
def x_T (g : xG) (tb : List xQ) : Prop := (∀ (i j : Nat) (a b : xQ), tb[i]? = some a → tb[j]? = some b → x_ad g a = x_ad g b → i = j) ∧ ∀ (i j : Nat) (a b : xQ) (z : Nat), tb[i]? = some a → tb[j]? = some b → x_in a z → x_in b z → i = j
def x_H (D : va_G) (g : xG) (tb : List xQ) (M : xM) (H : Heap) : Prop := va_P D xCl (x_ws g tb M) H
def x_A (g : xG) (tb : List xQ) (sz : Nat) : Nat → Prop := fun z => (∃ q ∈ tb, z = x_ad g q) ∨ sz ≤ z
/-! constants: what is known of them in a state -/
def x_dw : List Cond := [Cond.declares (⟨"java/lang/RuntimeException", "<init>", "()V"⟩), Cond.declares (⟨"java/lang/RuntimeException", "<init>", "(Ljava/lang/String;)V"⟩), Cond.declares (⟨"java/lang/Exception", "<init>", "()V"⟩), Cond.declares (⟨"java/lang/Exception", "<init>", "(Ljava/lang/String;)V"⟩), Cond.declares (⟨"java/lang/Throwable", "<init>", "()V"⟩), Cond.declares (⟨"java/lang/Throwable", "<init>", "(Ljava/lang/String;)V"⟩), Cond.declares (⟨"java/lang/Enum", "ordinal", "()I"⟩), Cond.castable "java/lang/IllegalArgumentException" "java/lang/IllegalArgumentException", Cond.castable "java/lang/IndexOutOfBoundsException" "java/lang/IndexOutOfBoundsException", Cond.castable "java/lang/IllegalStateException" "java/lang/IllegalStateException", Cond.castable "java/util/NoSuchElementException" "java/util/NoSuchElementException"]
def x_ex : Nat → String := fun k => match k with
  | 1 => "java/lang/IllegalArgumentException"
  | 2 => "java/lang/IndexOutOfBoundsException"
  | 3 => "java/lang/IllegalStateException"
  | _ => "java/util/NoSuchElementException"
def x_sl : List (String × Nat × String) := [("FogBellMarket", 44, "market 4 20 10; fog 2 5 7 3 8; stall 30 red smooth 12 5; stall 18 white soft 7 3; stall 55 blue smooth 9 2; buyer 25 40 smooth 6; buyer 0 6 soft 4; buyer 60 100 smooth 9; minutes 7;"), ("FogBellMarket$Reader", 45, "market"), ("FogBellMarket$Reader", 68, "fog"), ("FogBellMarket$Reader", 192, "red"), ("FogBellMarket$Reader", 194, "green"), ("FogBellMarket$Reader", 196, "blue"), ("FogBellMarket$Reader", 198, "white"), ("FogBellMarket$Reader", 200, "rough"), ("FogBellMarket$Reader", 202, "smooth"), ("FogBellMarket$Reader", 204, "soft"), ("FogBellMarket", 208, "out of range"), ("FogBellMarket", 202, "no such stall"), ("FogBellMarket", 253, "no such buyer"), ("FogBellMarket", 281, "no room for a stall"), ("FogBellMarket", 288, "no room for a buyer"), ("FogBellMarket", 298, "the stock would be too great"), ("FogBellMarket", 306, "no such index in the fog pattern"), ("FogBellMarket", 312, "the buyer holds nothing"), ("FogBellMarket", 324, "no change to undo"), ("FogBellMarket", 328, "no state is saved there"), ("FogBellMarketModel", 42, "market 4 20 10; fog 2 5 7 3 8; stall 30 red smooth 12 5; stall 18 white soft 7 3; stall 55 blue smooth 9 2; buyer 25 40 smooth 6; buyer 0 6 soft 4; buyer 60 100 smooth 9; minutes 7;"), ("FogBellMarketModel", 207, "market"), ("FogBellMarketModel", 218, "fog"), ("FogBellMarketModel", 223, "stall"), ("FogBellMarketModel", 225, "buyer"), ("FogBellMarketModel", 227, "price"), ("FogBellMarketModel", 229, "stock"), ("FogBellMarketModel", 231, "lantern"), ("FogBellMarketModel", 233, "minutes"), ("FogBellMarketModel", 235, "move"), ("FogBellMarketModel", 237, "back"), ("FogBellMarketModel", 190, "red"), ("FogBellMarketModel", 192, "green"), ("FogBellMarketModel", 194, "blue"), ("FogBellMarketModel", 196, "white"), ("FogBellMarketModel", 201, "rough"), ("FogBellMarketModel", 203, "smooth"), ("FogBellMarketModel", 205, "soft"), ("FogBellMarket$Verb", 58, "stall"), ("FogBellMarket$Verb", 60, "pltcg"), ("FogBellMarket$Verb", 66, "buyer"), ("FogBellMarket$Verb", 68, "pmtv"), ("FogBellMarket$Verb", 76, "stock"), ("FogBellMarket$Verb", 78, "sg"), ("FogBellMarket$Verb", 96, "back"), ("FogBellMarket$Verb", 98, "b"), ("FogBellMarket$Verb", 71, "price"), ("FogBellMarket$Verb", 73, "sc"), ("FogBellMarket$Verb", 81, "lantern"), ("FogBellMarket$Verb", 83, "sl"), ("FogBellMarket$Verb", 86, "move"), ("FogBellMarket$Verb", 88, "sp"), ("FogBellMarket$Verb", 91, "fog"), ("FogBellMarket$Verb", 93, "id"), ("FogBellMarket$Verb", 101, "minutes"), ("FogBellMarket$Verb", 103, "n")]
def x_byt : Nat → List Int32 := fun i => match i with
  | 0 => [109, 97, 114, 107, 101, 116, 32, 52, 32, 50, 48, 32, 49, 48, 59, 32, 102, 111, 103, 32, 50, 32, 53, 32, 55, 32, 51, 32, 56, 59, 32, 115, 116, 97, 108, 108, 32, 51, 48, 32, 114, 101, 100, 32, 115, 109, 111, 111, 116, 104, 32, 49, 50, 32, 53, 59, 32, 115, 116, 97, 108, 108, 32, 49, 56, 32, 119, 104, 105, 116, 101, 32, 115, 111, 102, 116, 32, 55, 32, 51, 59, 32, 115, 116, 97, 108, 108, 32, 53, 53, 32, 98, 108, 117, 101, 32, 115, 109, 111, 111, 116, 104, 32, 57, 32, 50, 59, 32, 98, 117, 121, 101, 114, 32, 50, 53, 32, 52, 48, 32, 115, 109, 111, 111, 116, 104, 32, 54, 59, 32, 98, 117, 121, 101, 114, 32, 48, 32, 54, 32, 115, 111, 102, 116, 32, 52, 59, 32, 98, 117, 121, 101, 114, 32, 54, 48, 32, 49, 48, 48, 32, 115, 109, 111, 111, 116, 104, 32, 57, 59, 32, 109, 105, 110, 117, 116, 101, 115, 32, 55, 59]
  | 1 => [109, 97, 114, 107, 101, 116]
  | 2 => [102, 111, 103]
  | 3 => [114, 101, 100]
  | 4 => [103, 114, 101, 101, 110]
  | 5 => [98, 108, 117, 101]
  | 6 => [119, 104, 105, 116, 101]
  | 7 => [114, 111, 117, 103, 104]
  | 8 => [115, 109, 111, 111, 116, 104]
  | 9 => [115, 111, 102, 116]
  | 10 => [111, 117, 116, 32, 111, 102, 32, 114, 97, 110, 103, 101]
  | 11 => [110, 111, 32, 115, 117, 99, 104, 32, 115, 116, 97, 108, 108]
  | 12 => [110, 111, 32, 115, 117, 99, 104, 32, 98, 117, 121, 101, 114]
  | 13 => [110, 111, 32, 114, 111, 111, 109, 32, 102, 111, 114, 32, 97, 32, 115, 116, 97, 108, 108]
  | 14 => [110, 111, 32, 114, 111, 111, 109, 32, 102, 111, 114, 32, 97, 32, 98, 117, 121, 101, 114]
  | 15 => [116, 104, 101, 32, 115, 116, 111, 99, 107, 32, 119, 111, 117, 108, 100, 32, 98, 101, 32, 116, 111, 111, 32, 103, 114, 101, 97, 116]
  | 16 => [110, 111, 32, 115, 117, 99, 104, 32, 105, 110, 100, 101, 120, 32, 105, 110, 32, 116, 104, 101, 32, 102, 111, 103, 32, 112, 97, 116, 116, 101, 114, 110]
  | 17 => [116, 104, 101, 32, 98, 117, 121, 101, 114, 32, 104, 111, 108, 100, 115, 32, 110, 111, 116, 104, 105, 110, 103]
  | 18 => [110, 111, 32, 99, 104, 97, 110, 103, 101, 32, 116, 111, 32, 117, 110, 100, 111]
  | 19 => [110, 111, 32, 115, 116, 97, 116, 101, 32, 105, 115, 32, 115, 97, 118, 101, 100, 32, 116, 104, 101, 114, 101]
  | 20 => [109, 97, 114, 107, 101, 116, 32, 52, 32, 50, 48, 32, 49, 48, 59, 32, 102, 111, 103, 32, 50, 32, 53, 32, 55, 32, 51, 32, 56, 59, 32, 115, 116, 97, 108, 108, 32, 51, 48, 32, 114, 101, 100, 32, 115, 109, 111, 111, 116, 104, 32, 49, 50, 32, 53, 59, 32, 115, 116, 97, 108, 108, 32, 49, 56, 32, 119, 104, 105, 116, 101, 32, 115, 111, 102, 116, 32, 55, 32, 51, 59, 32, 115, 116, 97, 108, 108, 32, 53, 53, 32, 98, 108, 117, 101, 32, 115, 109, 111, 111, 116, 104, 32, 57, 32, 50, 59, 32, 98, 117, 121, 101, 114, 32, 50, 53, 32, 52, 48, 32, 115, 109, 111, 111, 116, 104, 32, 54, 59, 32, 98, 117, 121, 101, 114, 32, 48, 32, 54, 32, 115, 111, 102, 116, 32, 52, 59, 32, 98, 117, 121, 101, 114, 32, 54, 48, 32, 49, 48, 48, 32, 115, 109, 111, 111, 116, 104, 32, 57, 59, 32, 109, 105, 110, 117, 116, 101, 115, 32, 55, 59]
  | 21 => [109, 97, 114, 107, 101, 116]
  | 22 => [102, 111, 103]
  | 23 => [115, 116, 97, 108, 108]
  | 24 => [98, 117, 121, 101, 114]
  | 25 => [112, 114, 105, 99, 101]
  | 26 => [115, 116, 111, 99, 107]
  | 27 => [108, 97, 110, 116, 101, 114, 110]
  | 28 => [109, 105, 110, 117, 116, 101, 115]
  | 29 => [109, 111, 118, 101]
  | 30 => [98, 97, 99, 107]
  | 31 => [114, 101, 100]
  | 32 => [103, 114, 101, 101, 110]
  | 33 => [98, 108, 117, 101]
  | 34 => [119, 104, 105, 116, 101]
  | 35 => [114, 111, 117, 103, 104]
  | 36 => [115, 109, 111, 111, 116, 104]
  | 37 => [115, 111, 102, 116]
  | 38 => [115, 116, 97, 108, 108]
  | 39 => [112, 108, 116, 99, 103]
  | 40 => [98, 117, 121, 101, 114]
  | 41 => [112, 109, 116, 118]
  | 42 => [115, 116, 111, 99, 107]
  | 43 => [115, 103]
  | 44 => [98, 97, 99, 107]
  | 45 => [98]
  | 46 => [112, 114, 105, 99, 101]
  | 47 => [115, 99]
  | 48 => [108, 97, 110, 116, 101, 114, 110]
  | 49 => [115, 108]
  | 50 => [109, 111, 118, 101]
  | 51 => [115, 112]
  | 52 => [102, 111, 103]
  | 53 => [105, 100]
  | 54 => [109, 105, 110, 117, 116, 101, 115]
  | 55 => [110]
  | _ => []
def x_slen (i : Nat) : Nat := (x_byt i).length
def x_sb (i j : Nat) : Int32 := (x_byt i).getD j 0
def x_vn : Nat → String := fun i => match i with
  | 0 => "STALL"
  | 1 => "BUYER"
  | 2 => "PRICE"
  | 3 => "STOCK"
  | 4 => "LANTERN"
  | 5 => "MOVE"
  | 6 => "FOG"
  | 7 => "BACK"
  | 8 => "MINUTES"
  | _ => ""
def x_vw : Nat → Nat := fun i => match i with
  | 0 => 38
  | 1 => 40
  | 2 => 46
  | 3 => 42
  | 4 => 48
  | 5 => 50
  | 6 => 52
  | 7 => 44
  | 8 => 54
  | _ => 0
def x_vk : Nat → Nat := fun i => match i with
  | 0 => 39
  | 1 => 41
  | 2 => 47
  | 3 => 43
  | 4 => 49
  | 5 => 51
  | 6 => 53
  | 7 => 45
  | 8 => 55
  | _ => 0
def x_smap : Nat → Int32 := fun j => [1, 2, 6, 7, 8, 0, 3, 4, 5].getD j 0
def x_KA (g : xG) (A : Nat → Prop) (U : State) (H : Heap) : Prop :=
  vx_Zq Bundle.tN "UNASSIGNED_STACK" Bundle.steD A U H ∧ vx_Zq Bundle.tN "SUPPRESSED_SENTINEL" Bundle.listD A U H ∧
  (∀ i, i < 56 → va_O "java/lang/String" (g.1 20 i) A U H ∧ va_OF "java/lang/String" "coder" "B" (.int 0) (g.1 20 i) A U H ∧ va_OF "java/lang/String" "value" "[B" (.ref (g.1 21 i)) (g.1 20 i) A U H ∧ va_T .byte (g.1 21 i) (x_slen i) (fun j => .int (x_sb i j)) A U H) ∧
  va_Z "java/lang/String" "COMPACT_STRINGS" "Z" (.int 1) A U H ∧
  (∀ i, i < 9 → va_Z RX5 (x_vn i) "LFogBellMarket$Verb;" (.ref (g.2.2 i)) A U H ∧ va_O RX5 (g.2.2 i) A U H ∧ va_OF "java/lang/Enum" "ordinal" "I" (.int (nI i)) (g.2.2 i) A U H ∧ va_OF RX5 "word" "Ljava/lang/String;" (.ref (g.1 20 (x_vw i))) (g.2.2 i) A U H ∧ va_OF RX5 "kinds" "Ljava/lang/String;" (.ref (g.1 20 (x_vk i))) (g.2.2 i) A U H) ∧
  va_Z RX3 "VERBS" "[LFogBellMarket$Verb;" (.ref (g.1 22 0)) A U H ∧ va_T (.object RX5) (g.1 22 0) 9 (fun j => .ref (g.2.2 j)) A U H ∧
  va_Z RX0 "$SwitchMap$FogBellMarket$Verb" "[I" (.ref (g.1 23 0)) A U H ∧ va_T .int (g.1 23 0) 9 (fun j => .int (x_smap j)) A U H ∧
  va_Zq "jdk/internal/util/Preconditions" "SIOOBE_FORMATTER" "Ljava/util/function/BiFunction;" A U H
def x_KS (g : xG) (tb : List xQ) (U : State) : Prop :=
  (∀ w ∈ x_dw, va_Nw w U) ∧ (∀ i j, i < 5 → j < 5 → 0 < i → 0 < j → i ≠ j → va_Nc (x_ex i) (x_ex j) U) ∧ (∀ (i : Nat) (q : String × Nat × String), x_sl[i]? = some q → vk_R q.1 q.2.1 q.2.2 (g.1 20 i) U) ∧ (∀ i j, i < 9 → j < 9 → g.2.2 i = g.2.2 j → i = j) ∧ x_KA g (x_A g tb U.heap.size) U U.heap
theorem x_KA.to {g : xG} {A B : Nat → Prop} {s t : State} {H H1 : Heap} (hm : s.vm.Alike t.vm) (hq : ∀ a : Nat, a < H.size → ¬ A a → H1[a]? = H[a]?) (hAB : ∀ q, B q → A q) (h : x_KA g A s H) : x_KA g B t H1 := by
  obtain ⟨h1, h2, h3, h4, h5, h6, h7, h8, h9, h10⟩ := h
  refine ⟨((vx_Zq.moved hm h1).kept hq).narrow hAB, ((vx_Zq.moved hm h2).kept hq).narrow hAB, fun i hi => ?_, ((va_Z.moved hm h4).kept hq).narrow hAB, fun i hi => ?_, ((va_Z.moved hm h6).kept hq).narrow hAB, ((va_T.moved hm h7).kept hq).narrow hAB, ((va_Z.moved hm h8).kept hq).narrow hAB, ((va_T.moved hm h9).kept hq).narrow hAB, ((va_Zq.moved hm h10).kept hq).narrow hAB⟩
  · obtain ⟨a, b, c, d⟩ := h3 i hi
    exact ⟨((va_O.moved hm a).kept hq).narrow hAB, ((va_OF.moved hm b).kept hq).narrow hAB, ((va_OF.moved hm c).kept hq).narrow hAB, ((va_T.moved hm d).kept hq).narrow hAB⟩
  · obtain ⟨a, b, c, d, e⟩ := h5 i hi
    exact ⟨((va_Z.moved hm a).kept hq).narrow hAB, ((va_O.moved hm b).kept hq).narrow hAB, ((va_OF.moved hm c).kept hq).narrow hAB, ((va_OF.moved hm d).kept hq).narrow hAB, ((va_OF.moved hm e).kept hq).narrow hAB⟩
theorem x_Aup {g : xG} {tb : List xQ} {a b : Nat} (h : a ≤ b) : ∀ q, x_A g tb b q → x_A g tb a q := fun _ hq => hq.elim Or.inl (fun z => Or.inr (Nat.le_trans h z))
theorem x_dw_warm {s U : State} (hW : s.WarmedH U.vm) : ∀ w ∈ x_dw, va_Nw w s → va_Nw w U := by
  intro w hw h
  simp only [x_dw, List.mem_cons, List.not_mem_nil, or_false] at hw
  rcases hw with rfl | rfl | rfl | rfl | rfl | rfl | rfl | rfl | rfl | rfl | rfl
  all_goals first | exact va_Nw.warmD hW h | exact va_Nw.warmC hW h
theorem x_KS.kept {g : xG} {tb : List xQ} {s t : State} {H : Heap} {locs : List Loc} (h : x_KS g tb s) (h2 : va_S (x_A g tb s.heap.size) s.heap H locs) (ht : t.heap = H) (hW : s.WarmedH t.vm) : x_KS g tb t := by
  obtain ⟨k1, k2, k3, k4, k5⟩ := h
  subst ht
  exact ⟨fun w hw => x_dw_warm hW w hw (k1 w hw), fun i j a b c d e => va_Nc.moved hW.alike (k2 i j a b c d e), fun i q hq => vk_R.warm hW (k3 i q hq), k4, x_KA.to hW.alike h2.2.1 (x_Aup h2.1) k5⟩
theorem x_KS.calling {g : xG} {tb : List xQ} {U : State} (g' : JFrame) (mk : MethodId) (a : Array Value) (h : x_KS g tb U) : x_KS g tb (U.calling g' mk a) := by
  obtain ⟨k1, k2, k3, k4, k5⟩ := h
  refine ⟨fun w hw => ?_, fun i j a b c d e => va_Nc.moved (u := U) (U := U.calling g' mk _) (Vm.Alike.refl U.vm) (k2 i j a b c d e), fun i q hq => vk_R.same (u := U) rfl (k3 i q hq), k4, x_KA.to (s := U) (t := U.calling g' mk a) (Vm.Alike.refl U.vm) (fun _ _ _ => rfl) (fun _ h => h) k5⟩
  have hw2 : w.onTables = true := by
    simp only [x_dw, List.mem_cons, List.not_mem_nil, or_false] at hw
    rcases hw with rfl | rfl | rfl | rfl | rfl | rfl | rfl | rfl | rfl | rfl | rfl
    all_goals rfl
  exact va_Nw.same hw2 (u := U) rfl (k1 w hw)
def x_B (D : va_G) (g : xG) (tb : List xQ) (M : xM) (U : State) : Prop := x_H D g tb M U.heap ∧ va_K D xCl (x_tys g) U ∧ x_KS g tb U
theorem x_arr {cA : ClassId} {n : Nat} {f f' : Nat → Value} (h : ∀ j, j < n → f j = f' j) : arrV cA n f = arrV cA n f' := by
  unfold arrV
  congr 1
  apply Array.ext
  · simp
  · intro i h1 h2
    simp only [Array.getElem_ofFn]
    exact h i (by simpa using h1)
theorem x_ws_at {g : xG} {tb : List xQ} {M : xM} {i : Nat} {q : xQ} (h : tb[i]? = some q) : (x_ws g tb M)[i]? = some (x_ad g q, x_cell g M q) := by
  simp [x_ws, h]

theorem x_fc0 {g : xG} {b : Nat} {M M' : xM} (hh : ∀ j, j < 9 → M' (b + j) = M (b + j)) : x_f0 g b M' = x_f0 g b M := by
  unfold x_f0
  rw [hh 0 (by decide), hh 1 (by decide), hh 2 (by decide), hh 3 (by decide), hh 4 (by decide), hh 5 (by decide), hh 6 (by decide), hh 7 (by decide), hh 8 (by decide)]
theorem x_fc1 {g : xG} {b : Nat} {M M' : xM} (hh : ∀ j, j < 8 → M' (b + j) = M (b + j)) : x_f1 g b M' = x_f1 g b M := by
  unfold x_f1
  rw [hh 0 (by decide), hh 1 (by decide), hh 2 (by decide), hh 3 (by decide), hh 4 (by decide), hh 5 (by decide), hh 6 (by decide), hh 7 (by decide)]
theorem x_fc2 {g : xG} {b : Nat} {M M' : xM} (hh : ∀ j, j < 11 → M' (b + j) = M (b + j)) : x_f2 g b M' = x_f2 g b M := by
  unfold x_f2
  rw [hh 9 (by decide), hh 10 (by decide), hh 8 (by decide), hh 0 (by decide), hh 7 (by decide), hh 5 (by decide), hh 6 (by decide), hh 1 (by decide), hh 2 (by decide), hh 3 (by decide), hh 4 (by decide)]
theorem x_fc3 {g : xG} {b : Nat} {M M' : xM} (hh : ∀ j, j < 10 → M' (b + j) = M (b + j)) : x_f3 g b M' = x_f3 g b M := by
  unfold x_f3
  rw [hh 1 (by decide), hh 2 (by decide), hh 3 (by decide), hh 4 (by decide), hh 6 (by decide), hh 7 (by decide), hh 8 (by decide), hh 9 (by decide)]
theorem x_fc4 {g : xG} {b : Nat} {M M' : xM} (hh : ∀ j, j < 11 → M' (b + j) = M (b + j)) : x_f4 g b M' = x_f4 g b M := by
  unfold x_f4
  rw [hh 5 (by decide), hh 6 (by decide), hh 10 (by decide)]
theorem x_fc5 {g : xG} {b : Nat} {M M' : xM} (hh : ∀ j, j < 20 → M' (b + j) = M (b + j)) : x_f5 g b M' = x_f5 g b M := by
  unfold x_f5
  rw [hh 1 (by decide), hh 2 (by decide), hh 3 (by decide), hh 4 (by decide), hh 9 (by decide), hh 12 (by decide), hh 15 (by decide), hh 16 (by decide), hh 17 (by decide), hh 18 (by decide), hh 19 (by decide)]
theorem x_agree {D : va_G} {g : xG} {M M' : xM} {q : xQ} {a : Nat} {H : Heap} (h : ∀ z, x_in q z → M' z = M z) (hv : va_at D xCl (a, x_cell g M q) H) : va_at D xCl (a, x_cell g M' q) H := by
  obtain ⟨k, b, n⟩ := q
  have hh : ∀ j, j < x_sz (k, b, n) → M' (b + j) = M (b + j) := fun j hj => h (b + j) ⟨Nat.le_add_right _ _, Nat.add_lt_add_left hj b⟩
  clear h
  by_cases h0 : k = 0
  · subst h0
    have e : x_cell g M' (0, b, n) = x_cell g M (0, b, n) := congrArg (fun l => (Sum.inr (3, l) : va_E)) (x_fc0 (g := g) hh)
    rw [e]; exact hv
  by_cases h1 : k = 1
  · subst h1
    have e : x_cell g M' (1, b, n) = x_cell g M (1, b, n) := congrArg (fun l => (Sum.inr (0, l) : va_E)) (x_fc1 (g := g) hh)
    rw [e]; exact hv
  by_cases h2 : k = 2
  · subst h2
    have e : x_cell g M' (2, b, n) = x_cell g M (2, b, n) := congrArg (fun l => (Sum.inr (1, l) : va_E)) (x_fc2 (g := g) hh)
    rw [e]; exact hv
  by_cases h3 : k = 3
  · subst h3
    have e : x_cell g M' (3, b, n) = x_cell g M (3, b, n) := congrArg (fun l => (Sum.inr (2, l) : va_E)) (x_fc3 (g := g) hh)
    rw [e]; exact hv
  by_cases h4 : k = 4
  · subst h4
    have e : x_cell g M' (4, b, n) = x_cell g M (4, b, n) := congrArg (fun l => (Sum.inr (4, l) : va_E)) (x_fc4 (g := g) hh)
    rw [e]; exact hv
  by_cases h5 : k = 5
  · subst h5
    have e : x_cell g M' (5, b, n) = x_cell g M (5, b, n) := congrArg (fun l => (Sum.inr (5, l) : va_E)) (x_fc5 (g := g) hh)
    rw [e]; exact hv
  by_cases h6 : k = 6
  · subst h6
    exact (show H[a]? = some (arrV (g.2.1 0) n (fun j => .int (M (b + j)))) from hv).trans (congrArg some (x_arr (fun j hj => congrArg Value.int (hh j hj).symm)))
  by_cases h7 : k = 7
  · subst h7
    exact (show H[a]? = some (arrV (g.2.1 1) n (fun j => .int (M (b + j)))) from hv).trans (congrArg some (x_arr (fun j hj => congrArg Value.int (hh j hj).symm)))
  by_cases h8 : k = 8
  · subst h8
    exact (show H[a]? = some (arrV (g.2.1 2) n (fun j => .int (M (b + j)))) from hv).trans (congrArg some (x_arr (fun j hj => congrArg Value.int (hh j hj).symm)))
  by_cases h9 : k = 9
  · subst h9
    exact (show H[a]? = some (arrV (g.2.1 3) n (fun j => .long (M (b + j)).toInt64)) from hv).trans (congrArg some (x_arr (fun j hj => congrArg (fun x : Int32 => Value.long x.toInt64) (hh j hj).symm)))
  have e : x_cell g M' (k, b, n) = x_cell g M (k, b, n) := by
    simp only [x_cell]
    split <;> first | rfl | contradiction
  rw [e]; exact hv
theorem x_conv {D : va_G} {g : xG} {tb : List xQ} {M M' : xM} {i : Nat} {q : xQ} {e : va_E} {H1 : Heap} (hi : tb[i]? = some q) (hP : va_P D xCl ((x_ws g tb M).set i (x_ad g q, e)) H1) (hn : va_at D xCl (x_ad g q, e) H1 → va_at D xCl (x_ad g q, x_cell g M' q) H1) (ho : ∀ (j : Nat) (r : xQ), tb[j]? = some r → j ≠ i → ∀ z, x_in r z → M' z = M z) : x_H D g tb M' H1 := by
  intro j w hw
  have hw2 : ∃ r, tb[j]? = some r ∧ w = (x_ad g r, x_cell g M' r) := by
    simp only [x_ws, List.getElem?_map, Option.map_eq_some_iff] at hw
    obtain ⟨r, h1, h2⟩ := hw
    exact ⟨r, h1, h2.symm⟩
  obtain ⟨r, hr, rfl⟩ := hw2
  have hlen : i < (x_ws g tb M).length := by
    have := (List.getElem?_eq_some_iff.mp hi).1
    simpa [x_ws] using this
  by_cases hji : j = i
  · subst hji
    rw [hi] at hr
    cases hr
    exact hn (hP j _ (List.getElem?_set_self hlen))
  · refine x_agree (ho j r hr hji) (hP j (x_ad g r, x_cell g M r) ?_)
    rw [List.getElem?_set_ne (Ne.symm hji)]
    exact x_ws_at hr
theorem x_other {g : xG} {tb : List xQ} (hT : x_T g tb) {M : xM} {i : Nat} {q : xQ} (hi : tb[i]? = some q) {z0 : Nat} {x : Int32} (hz : x_in q z0) : ∀ (j : Nat) (r : xQ), tb[j]? = some r → j ≠ i → ∀ z, x_in r z → upd M z0 x z = M z := by
  intro j r hr hji z hz2
  unfold upd
  rw [if_neg]
  rintro rfl
  exact hji (hT.2 j i r q z hr hi hz2 hz)
theorem x_apart {g : xG} {tb : List xQ} (hT : x_T g tb) (M : xM) (sz : Nat) : va_D (x_A g tb sz) (x_ws g tb M) := by
  have key : ∀ (k : Nat) (q : Nat × va_E), (x_ws g tb M)[k]? = some q → ∃ r, tb[k]? = some r ∧ q.1 = x_ad g r := by
    intro k q hk
    simp only [x_ws, List.getElem?_map, Option.map_eq_some_iff] at hk
    obtain ⟨r, h1, h2⟩ := hk
    exact ⟨r, h1, by rw [← h2]⟩
  refine ⟨fun i j p q hi hj hpq => ?_, fun k q hk => ?_⟩
  · obtain ⟨a, h1, h2⟩ := key i p hi
    obtain ⟨b, h3, h4⟩ := key j q hj
    exact hT.1 i j a b h1 h3 (by rw [← h2, ← h4, hpq])
  · obtain ⟨a, h1, h2⟩ := key k q hk
    exact Or.inl ⟨a, List.mem_of_getElem? h1, h2⟩
theorem x_lays0 : ∀ w ∈ u_ws RX4 TX4 9, w ∈ xA := fun w h => List.mem_filter.mpr ⟨(by decide +kernel : ∀ w ∈ u_ws RX4 TX4 9, w ∈ lw_tbl) w h, (by decide +kernel : ∀ w ∈ u_ws RX4 TX4 9, goodWord w = true) w h⟩
theorem x_lays1 : ∀ w ∈ u_ws RX1 TX1 8, w ∈ xA := fun w h => List.mem_filter.mpr ⟨(by decide +kernel : ∀ w ∈ u_ws RX1 TX1 8, w ∈ lw_tbl) w h, (by decide +kernel : ∀ w ∈ u_ws RX1 TX1 8, goodWord w = true) w h⟩
theorem x_lays2 : ∀ w ∈ u_ws RX2 TX2 14, w ∈ xA := fun w h => List.mem_filter.mpr ⟨(by decide +kernel : ∀ w ∈ u_ws RX2 TX2 14, w ∈ lw_tbl) w h, (by decide +kernel : ∀ w ∈ u_ws RX2 TX2 14, goodWord w = true) w h⟩
theorem x_lays3 : ∀ w ∈ u_ws RX3 TX3 10, w ∈ xA := fun w h => List.mem_filter.mpr ⟨(by decide +kernel : ∀ w ∈ u_ws RX3 TX3 10, w ∈ lw_tbl) w h, (by decide +kernel : ∀ w ∈ u_ws RX3 TX3 10, goodWord w = true) w h⟩
theorem x_lays4 : ∀ w ∈ u_ws RX6 TX6 11, w ∈ xA := fun w h => List.mem_filter.mpr ⟨(by decide +kernel : ∀ w ∈ u_ws RX6 TX6 11, w ∈ lw_tbl) w h, (by decide +kernel : ∀ w ∈ u_ws RX6 TX6 11, goodWord w = true) w h⟩
theorem x_lays5 : ∀ w ∈ u_ws RX7 TX7 20, w ∈ xA := fun w h => List.mem_filter.mpr ⟨(by decide +kernel : ∀ w ∈ u_ws RX7 TX7 20, w ∈ lw_tbl) w h, (by decide +kernel : ∀ w ∈ u_ws RX7 TX7 20, goodWord w = true) w h⟩
/-- the context of a walk -/
def CC (p : Program) (s : State) (m : MethodId) (args : Array Value) (c : Code) (cc : ByteArray) (nL : Nat) (own : String) (D : va_G) (g : xG) (tb : List xQ) : Prop :=
  p.tables.exec = Jvm.exec ∧ c.code = cc ∧ c.maxLocals = nL ∧ s.vm.findClass own = some m.cls ∧ (∀ w ∈ xA, w.before args s = true) ∧ va_K D xCl (x_tys g) s ∧ x_T g tb ∧ x_KS g tb s
/-- the walk from a point: locals, stack and memory as they are told -/
def WW (p : Program) (l : Launch) (e : Env) (R : Room) (s : State) (m : MethodId) (args : Array Value) (below : List Frame) (meth : Method) (c : Code) (cells slots : Nat) (Q : State → Prop) (nL : Nat) (D : va_G) (g : xG) (tb : List xQ) (pc : Nat) (lv : List (Nat × Value)) (st : List Value) (M : xM) : Prop :=
  ∀ (H : Heap) (locs : List Loc) (ls : Array Slot), x_H D g tb M H → va_S (x_A g tb s.heap.size) s.heap H locs → lv_has ls nL lv → W p l e R s m args below meth c H locs cells slots Q (F0 m pc ls st)
section XR
variable {p : Program} {l : Launch} {e : Env} {R : Room} {s : State} {m : MethodId} {args : Array Value} {below : List Frame} {meth : Method} {c : Code} {cells slots : Nat} {Q : State → Prop}
variable {cc : ByteArray} {nL : Nat} {own : String} {D : va_G} {g : xG} {tb : List xQ} {pc : Nat} {lv : List (Nat × Value)} {st : List Value} {M : xM}
theorem r_iconst (C0 : CC p s m args c cc nL own D g tb) {n : Int} {v : Int32} (hd : decode cc pc = .ok (.iconst n, 1)) (hv : Int32.ofInt n = v) (k : WW p l e R s m args below meth c cells slots Q nL D g tb (pc + 1) lv (.int v :: st) M) : WW p l e R s m args below meth c cells slots Q nL D g tb pc lv st M := fun H locs ls h1 h2 h3 => lv_iconst C0.1 C0.2.1 hd hv (k H locs ls h1 h2 h3)
theorem r_bipush (C0 : CC p s m args c cc nL own D g tb) {n : Int} {v : Int32} (hd : decode cc pc = .ok (.bipush n, 2)) (hv : (Int8.ofInt n).toInt32 = v) (k : WW p l e R s m args below meth c cells slots Q nL D g tb (pc + 2) lv (.int v :: st) M) : WW p l e R s m args below meth c cells slots Q nL D g tb pc lv st M := fun H locs ls h1 h2 h3 => lv_bipush C0.1 C0.2.1 hd hv (k H locs ls h1 h2 h3)
theorem r_sipush (C0 : CC p s m args c cc nL own D g tb) {n : Int} {v : Int32} (hd : decode cc pc = .ok (.sipush n, 3)) (hv : (Int16.ofInt n).toInt32 = v) (k : WW p l e R s m args below meth c cells slots Q nL D g tb (pc + 3) lv (.int v :: st) M) : WW p l e R s m args below meth c cells slots Q nL D g tb pc lv st M := fun H locs ls h1 h2 h3 => lv_sipush C0.1 C0.2.1 hd hv (k H locs ls h1 h2 h3)
theorem r_ldc (C0 : CC p s m args c cc nL own D g tb) {index : Nat} {v : Int32} (hw : Cond.constant own index v ∈ xA) (hd : decode cc pc = .ok (.ldc index, 2)) (k : WW p l e R s m args below meth c cells slots Q nL D g tb (pc + 2) lv (.int v :: st) M) : WW p l e R s m args below meth c cells slots Q nL D g tb pc lv st M := fun H locs ls h1 h2 h3 => lv_ldc C0.1 C0.2.1 C0.2.2.2.1 (C0.2.2.2.2.1 _ hw) hd (k H locs ls h1 h2 h3)
theorem r_null (C0 : CC p s m args c cc nL own D g tb) (hd : decode cc pc = .ok (.aconst_null, 1)) (k : WW p l e R s m args below meth c cells slots Q nL D g tb (pc + 1) lv (.null :: st) M) : WW p l e R s m args below meth c cells slots Q nL D g tb pc lv st M := fun H locs ls h1 h2 h3 => lv_null C0.1 C0.2.1 hd (k H locs ls h1 h2 h3)
theorem r_iload (C0 : CC p s m args c cc nL own D g tb) {i : Nat} {x : Int32} (j : Nat) (hj : lv[j]? = some (i, .int x)) (hd : decode cc pc = .ok (.iload i, 2)) (k : WW p l e R s m args below meth c cells slots Q nL D g tb (pc + 2) lv (.int x :: st) M) : WW p l e R s m args below meth c cells slots Q nL D g tb pc lv st M := fun H locs ls h1 h2 h3 => lv_iload C0.1 C0.2.1 hd (lv_at h3 j hj) (k H locs ls h1 h2 h3)
theorem r_iload_n (C0 : CC p s m args c cc nL own D g tb) {kk : Fin 4} {x : Int32} (j : Nat) (hj : lv[j]? = some ((kk : Nat), .int x)) (hd : decode cc pc = .ok (.iload_n kk, 1)) (k : WW p l e R s m args below meth c cells slots Q nL D g tb (pc + 1) lv (.int x :: st) M) : WW p l e R s m args below meth c cells slots Q nL D g tb pc lv st M := fun H locs ls h1 h2 h3 => lv_iload_n C0.1 C0.2.1 hd rfl (lv_at h3 j hj) (k H locs ls h1 h2 h3)
theorem r_aload (C0 : CC p s m args c cc nL own D g tb) {i : Nat} {x : Nat} (j : Nat) (hj : lv[j]? = some (i, .ref x)) (hd : decode cc pc = .ok (.aload i, 2)) (k : WW p l e R s m args below meth c cells slots Q nL D g tb (pc + 2) lv (.ref x :: st) M) : WW p l e R s m args below meth c cells slots Q nL D g tb pc lv st M := fun H locs ls h1 h2 h3 => lv_aload C0.1 C0.2.1 hd (lv_at h3 j hj) (k H locs ls h1 h2 h3)
theorem r_aload_n (C0 : CC p s m args c cc nL own D g tb) {kk : Fin 4} {x : Nat} (j : Nat) (hj : lv[j]? = some ((kk : Nat), .ref x)) (hd : decode cc pc = .ok (.aload_n kk, 1)) (k : WW p l e R s m args below meth c cells slots Q nL D g tb (pc + 1) lv (.ref x :: st) M) : WW p l e R s m args below meth c cells slots Q nL D g tb pc lv st M := fun H locs ls h1 h2 h3 => lv_aload_n C0.1 C0.2.1 hd rfl (lv_at h3 j hj) (k H locs ls h1 h2 h3)
theorem r_lload (C0 : CC p s m args c cc nL own D g tb) {i : Nat} {x : Int64} (j : Nat) (hj : lv[j]? = some (i, .long x)) (hd : decode cc pc = .ok (.lload i, 2)) (k : WW p l e R s m args below meth c cells slots Q nL D g tb (pc + 2) lv (.long x :: st) M) : WW p l e R s m args below meth c cells slots Q nL D g tb pc lv st M := fun H locs ls h1 h2 h3 => lv_lload C0.1 C0.2.1 hd (lv_at h3 j hj) (k H locs ls h1 h2 h3)
theorem r_lload_n (C0 : CC p s m args c cc nL own D g tb) {kk : Fin 4} {x : Int64} (j : Nat) (hj : lv[j]? = some ((kk : Nat), .long x)) (hd : decode cc pc = .ok (.lload_n kk, 1)) (k : WW p l e R s m args below meth c cells slots Q nL D g tb (pc + 1) lv (.long x :: st) M) : WW p l e R s m args below meth c cells slots Q nL D g tb pc lv st M := fun H locs ls h1 h2 h3 => lv_lload_n C0.1 C0.2.1 hd rfl (lv_at h3 j hj) (k H locs ls h1 h2 h3)
theorem r_dload (C0 : CC p s m args c cc nL own D g tb) {i : Nat} {x : UInt64} (j : Nat) (hj : lv[j]? = some (i, .double x)) (hd : decode cc pc = .ok (.dload i, 2)) (k : WW p l e R s m args below meth c cells slots Q nL D g tb (pc + 2) lv (.double x :: st) M) : WW p l e R s m args below meth c cells slots Q nL D g tb pc lv st M := fun H locs ls h1 h2 h3 => lv_dload C0.1 C0.2.1 hd (lv_at h3 j hj) (k H locs ls h1 h2 h3)
theorem r_dload_n (C0 : CC p s m args c cc nL own D g tb) {kk : Fin 4} {x : UInt64} (j : Nat) (hj : lv[j]? = some ((kk : Nat), .double x)) (hd : decode cc pc = .ok (.dload_n kk, 1)) (k : WW p l e R s m args below meth c cells slots Q nL D g tb (pc + 1) lv (.double x :: st) M) : WW p l e R s m args below meth c cells slots Q nL D g tb pc lv st M := fun H locs ls h1 h2 h3 => lv_dload_n C0.1 C0.2.1 hd rfl (lv_at h3 j hj) (k H locs ls h1 h2 h3)
theorem r_fload (C0 : CC p s m args c cc nL own D g tb) {i : Nat} {x : UInt32} (j : Nat) (hj : lv[j]? = some (i, .float x)) (hd : decode cc pc = .ok (.fload i, 2)) (k : WW p l e R s m args below meth c cells slots Q nL D g tb (pc + 2) lv (.float x :: st) M) : WW p l e R s m args below meth c cells slots Q nL D g tb pc lv st M := fun H locs ls h1 h2 h3 => lv_fload C0.1 C0.2.1 hd (lv_at h3 j hj) (k H locs ls h1 h2 h3)
theorem r_fload_n (C0 : CC p s m args c cc nL own D g tb) {kk : Fin 4} {x : UInt32} (j : Nat) (hj : lv[j]? = some ((kk : Nat), .float x)) (hd : decode cc pc = .ok (.fload_n kk, 1)) (k : WW p l e R s m args below meth c cells slots Q nL D g tb (pc + 1) lv (.float x :: st) M) : WW p l e R s m args below meth c cells slots Q nL D g tb pc lv st M := fun H locs ls h1 h2 h3 => lv_fload_n C0.1 C0.2.1 hd rfl (lv_at h3 j hj) (k H locs ls h1 h2 h3)
theorem r_istore (C0 : CC p s m args c cc nL own D g tb) {i : Nat} {x : Int32} {lv2 : List (Nat × Value)} (hn : i < nL) (hl : (i, Value.int x) :: lv.filter (fun q => !(q.1 == i) && !(q.1 + 1 == i && q.2.category == 2)) = lv2) (hd : decode cc pc = .ok (.istore i, 2)) (k : WW p l e R s m args below meth c cells slots Q nL D g tb (pc + 2) lv2 st M) : WW p l e R s m args below meth c cells slots Q nL D g tb pc lv (.int x :: st) M := fun H locs ls h1 h2 h3 => lv_istore C0.1 C0.2.1 hd h3 hn hl (fun ls2 h4 => k H locs ls2 h1 h2 h4)
theorem r_istore_n (C0 : CC p s m args c cc nL own D g tb) {kk : Fin 4} {x : Int32} {lv2 : List (Nat × Value)} (hn : (kk : Nat) < nL) (hl : ((kk : Nat), Value.int x) :: lv.filter (fun q => !(q.1 == (kk : Nat)) && !(q.1 + 1 == (kk : Nat) && q.2.category == 2)) = lv2) (hd : decode cc pc = .ok (.istore_n kk, 1)) (k : WW p l e R s m args below meth c cells slots Q nL D g tb (pc + 1) lv2 st M) : WW p l e R s m args below meth c cells slots Q nL D g tb pc lv (.int x :: st) M := fun H locs ls h1 h2 h3 => lv_istore_n C0.1 C0.2.1 hd rfl h3 hn hl (fun ls2 h4 => k H locs ls2 h1 h2 h4)
theorem r_astore (C0 : CC p s m args c cc nL own D g tb) {i : Nat} {x : Nat} {lv2 : List (Nat × Value)} (hn : i < nL) (hl : (i, Value.ref x) :: lv.filter (fun q => !(q.1 == i) && !(q.1 + 1 == i && q.2.category == 2)) = lv2) (hd : decode cc pc = .ok (.astore i, 2)) (k : WW p l e R s m args below meth c cells slots Q nL D g tb (pc + 2) lv2 st M) : WW p l e R s m args below meth c cells slots Q nL D g tb pc lv (.ref x :: st) M := fun H locs ls h1 h2 h3 => lv_astore C0.1 C0.2.1 hd h3 hn hl (fun ls2 h4 => k H locs ls2 h1 h2 h4)
theorem r_astore_n (C0 : CC p s m args c cc nL own D g tb) {kk : Fin 4} {x : Nat} {lv2 : List (Nat × Value)} (hn : (kk : Nat) < nL) (hl : ((kk : Nat), Value.ref x) :: lv.filter (fun q => !(q.1 == (kk : Nat)) && !(q.1 + 1 == (kk : Nat) && q.2.category == 2)) = lv2) (hd : decode cc pc = .ok (.astore_n kk, 1)) (k : WW p l e R s m args below meth c cells slots Q nL D g tb (pc + 1) lv2 st M) : WW p l e R s m args below meth c cells slots Q nL D g tb pc lv (.ref x :: st) M := fun H locs ls h1 h2 h3 => lv_astore_n C0.1 C0.2.1 hd rfl h3 hn hl (fun ls2 h4 => k H locs ls2 h1 h2 h4)
theorem r_dstore (C0 : CC p s m args c cc nL own D g tb) {i : Nat} {x : UInt64} {lv2 : List (Nat × Value)} (hn : i + 1 < nL) (hl : (i, Value.double x) :: lv.filter (fun q => !(q.1 == i) && (!(q.1 == i + 1) && !(q.1 + 1 == i && q.2.category == 2))) = lv2) (hd : decode cc pc = .ok (.dstore i, 2)) (k : WW p l e R s m args below meth c cells slots Q nL D g tb (pc + 2) lv2 st M) : WW p l e R s m args below meth c cells slots Q nL D g tb pc lv (.double x :: st) M := fun H locs ls h1 h2 h3 => lv_dstore C0.1 C0.2.1 hd h3 hn hl (fun ls2 h4 => k H locs ls2 h1 h2 h4)
theorem r_dstore_n (C0 : CC p s m args c cc nL own D g tb) {kk : Fin 4} {x : UInt64} {lv2 : List (Nat × Value)} (hn : (kk : Nat) + 1 < nL) (hl : ((kk : Nat), Value.double x) :: lv.filter (fun q => !(q.1 == (kk : Nat)) && (!(q.1 == (kk : Nat) + 1) && !(q.1 + 1 == (kk : Nat) && q.2.category == 2))) = lv2) (hd : decode cc pc = .ok (.dstore_n kk, 1)) (k : WW p l e R s m args below meth c cells slots Q nL D g tb (pc + 1) lv2 st M) : WW p l e R s m args below meth c cells slots Q nL D g tb pc lv (.double x :: st) M := fun H locs ls h1 h2 h3 => lv_dstore_n C0.1 C0.2.1 hd rfl h3 hn hl (fun ls2 h4 => k H locs ls2 h1 h2 h4)
theorem r_iinc (C0 : CC p s m args c cc nL own D g tb) {i : Nat} {n : Int} {x v : Int32} {lv2 : List (Nat × Value)} (j : Nat) (hj : lv[j]? = some (i, .int x)) (hv : x + Int32.ofInt n = v) (hn : i < nL) (hl : (i, Value.int v) :: lv.filter (fun q => !(q.1 == i) && !(q.1 + 1 == i && q.2.category == 2)) = lv2) (hd : decode cc pc = .ok (.iinc i n, 3)) (k : WW p l e R s m args below meth c cells slots Q nL D g tb (pc + 3) lv2 st M) : WW p l e R s m args below meth c cells slots Q nL D g tb pc lv st M := fun H locs ls h1 h2 h3 => lv_iinc C0.1 C0.2.1 hd h3 hj hv hn hl (fun ls2 h4 => k H locs ls2 h1 h2 h4)
theorem r_iadd (C0 : CC p s m args c cc nL own D g tb) {x y : Int32} (hd : decode cc pc = .ok (.iadd, 1)) (k : WW p l e R s m args below meth c cells slots Q nL D g tb (pc + 1) lv (.int (x + y) :: st) M) : WW p l e R s m args below meth c cells slots Q nL D g tb pc lv (.int y :: .int x :: st) M := fun H locs ls h1 h2 h3 => lv_iadd C0.1 C0.2.1 hd (k H locs ls h1 h2 h3)
theorem r_isub (C0 : CC p s m args c cc nL own D g tb) {x y : Int32} (hd : decode cc pc = .ok (.isub, 1)) (k : WW p l e R s m args below meth c cells slots Q nL D g tb (pc + 1) lv (.int (x - y) :: st) M) : WW p l e R s m args below meth c cells slots Q nL D g tb pc lv (.int y :: .int x :: st) M := fun H locs ls h1 h2 h3 => lv_isub C0.1 C0.2.1 hd (k H locs ls h1 h2 h3)
theorem r_imul (C0 : CC p s m args c cc nL own D g tb) {x y : Int32} (hd : decode cc pc = .ok (.imul, 1)) (k : WW p l e R s m args below meth c cells slots Q nL D g tb (pc + 1) lv (.int (x * y) :: st) M) : WW p l e R s m args below meth c cells slots Q nL D g tb pc lv (.int y :: .int x :: st) M := fun H locs ls h1 h2 h3 => lv_imul C0.1 C0.2.1 hd (k H locs ls h1 h2 h3)
theorem r_iand (C0 : CC p s m args c cc nL own D g tb) {x y : Int32} (hd : decode cc pc = .ok (.iand, 1)) (k : WW p l e R s m args below meth c cells slots Q nL D g tb (pc + 1) lv (.int (x &&& y) :: st) M) : WW p l e R s m args below meth c cells slots Q nL D g tb pc lv (.int y :: .int x :: st) M := fun H locs ls h1 h2 h3 => lv_iand C0.1 C0.2.1 hd (k H locs ls h1 h2 h3)
theorem r_ior (C0 : CC p s m args c cc nL own D g tb) {x y : Int32} (hd : decode cc pc = .ok (.ior, 1)) (k : WW p l e R s m args below meth c cells slots Q nL D g tb (pc + 1) lv (.int (x ||| y) :: st) M) : WW p l e R s m args below meth c cells slots Q nL D g tb pc lv (.int y :: .int x :: st) M := fun H locs ls h1 h2 h3 => lv_ior C0.1 C0.2.1 hd (k H locs ls h1 h2 h3)
theorem r_ishl (C0 : CC p s m args c cc nL own D g tb) {x y : Int32} (hd : decode cc pc = .ok (.ishl, 1)) (k : WW p l e R s m args below meth c cells slots Q nL D g tb (pc + 1) lv (.int (x <<< (y &&& 31)) :: st) M) : WW p l e R s m args below meth c cells slots Q nL D g tb pc lv (.int y :: .int x :: st) M := fun H locs ls h1 h2 h3 => lv_ishl C0.1 C0.2.1 hd (k H locs ls h1 h2 h3)
theorem r_ishr (C0 : CC p s m args c cc nL own D g tb) {x y : Int32} (hd : decode cc pc = .ok (.ishr, 1)) (k : WW p l e R s m args below meth c cells slots Q nL D g tb (pc + 1) lv (.int (x >>> (y &&& 31)) :: st) M) : WW p l e R s m args below meth c cells slots Q nL D g tb pc lv (.int y :: .int x :: st) M := fun H locs ls h1 h2 h3 => lv_ishr C0.1 C0.2.1 hd (k H locs ls h1 h2 h3)
theorem r_idiv (C0 : CC p s m args c cc nL own D g tb) {x y : Int32} (hne : ¬ y = 0) (hd : decode cc pc = .ok (.idiv, 1)) (k : WW p l e R s m args below meth c cells slots Q nL D g tb (pc + 1) lv (.int (x / y) :: st) M) : WW p l e R s m args below meth c cells slots Q nL D g tb pc lv (.int y :: .int x :: st) M := fun H locs ls h1 h2 h3 => lv_idiv C0.1 C0.2.1 hd hne (k H locs ls h1 h2 h3)
theorem r_irem (C0 : CC p s m args c cc nL own D g tb) {x y : Int32} (hne : ¬ y = 0) (hd : decode cc pc = .ok (.irem, 1)) (k : WW p l e R s m args below meth c cells slots Q nL D g tb (pc + 1) lv (.int (x - x / y * y) :: st) M) : WW p l e R s m args below meth c cells slots Q nL D g tb pc lv (.int y :: .int x :: st) M := fun H locs ls h1 h2 h3 => lv_irem C0.1 C0.2.1 hd hne (k H locs ls h1 h2 h3)
theorem r_iushr (C0 : CC p s m args c cc nL own D g tb) {x y : Int32} (hd : decode cc pc = .ok (.iushr, 1)) (k : WW p l e R s m args below meth c cells slots Q nL D g tb (pc + 1) lv (.int ((x.toUInt32 >>> (y.toUInt32 &&& Int32.toUInt32 31)).toInt32) :: st) M) : WW p l e R s m args below meth c cells slots Q nL D g tb pc lv (.int y :: .int x :: st) M := fun H locs ls h1 h2 h3 => lv_iushr C0.1 C0.2.1 hd rfl (k H locs ls h1 h2 h3)
theorem r_i2b (C0 : CC p s m args c cc nL own D g tb) {x : Int32} (hd : decode cc pc = .ok (.i2b, 1)) (k : WW p l e R s m args below meth c cells slots Q nL D g tb (pc + 1) lv (.int x.toInt8.toInt32 :: st) M) : WW p l e R s m args below meth c cells slots Q nL D g tb pc lv (.int x :: st) M := fun H locs ls h1 h2 h3 => lv_i2b C0.1 C0.2.1 hd rfl (k H locs ls h1 h2 h3)
theorem r_i2l (C0 : CC p s m args c cc nL own D g tb) {x : Int32} (hd : decode cc pc = .ok (.i2l, 1)) (k : WW p l e R s m args below meth c cells slots Q nL D g tb (pc + 1) lv (.long x.toInt64 :: st) M) : WW p l e R s m args below meth c cells slots Q nL D g tb pc lv (.int x :: st) M := fun H locs ls h1 h2 h3 => lv_i2l C0.1 C0.2.1 hd rfl (k H locs ls h1 h2 h3)
theorem r_dup (C0 : CC p s m args c cc nL own D g tb) {v : Value} (hv : v.category = 1) (hd : decode cc pc = .ok (.dup, 1)) (k : WW p l e R s m args below meth c cells slots Q nL D g tb (pc + 1) lv (v :: v :: st) M) : WW p l e R s m args below meth c cells slots Q nL D g tb pc lv (v :: st) M := fun H locs ls h1 h2 h3 => lv_dup C0.1 C0.2.1 hd hv (k H locs ls h1 h2 h3)
theorem r_pop (C0 : CC p s m args c cc nL own D g tb) {v : Value} (hv : v.category = 1) (hd : decode cc pc = .ok (.pop, 1)) (k : WW p l e R s m args below meth c cells slots Q nL D g tb (pc + 1) lv st M) : WW p l e R s m args below meth c cells slots Q nL D g tb pc lv (v :: st) M := fun H locs ls h1 h2 h3 => lv_pop C0.1 C0.2.1 hd hv (k H locs ls h1 h2 h3)
theorem r_dup2 (C0 : CC p s m args c cc nL own D g tb) {v w : Value} (hv : v.category = 1) (hw : w.category = 1) (hd : decode cc pc = .ok (.dup2, 1)) (k : WW p l e R s m args below meth c cells slots Q nL D g tb (pc + 1) lv (v :: w :: v :: w :: st) M) : WW p l e R s m args below meth c cells slots Q nL D g tb pc lv (v :: w :: st) M := fun H locs ls h1 h2 h3 => lv_dup2_11 C0.1 C0.2.1 hd hv hw (k H locs ls h1 h2 h3)
theorem r_goto (C0 : CC p s m args c cc nL own D g tb) {off : Int} {tgt : Nat} (ht : (pc : Int) + off = (tgt : Int)) (hd : decode cc pc = .ok (.goto off, 3)) (k : WW p l e R s m args below meth c cells slots Q nL D g tb tgt lv st M) : WW p l e R s m args below meth c cells slots Q nL D g tb pc lv st M := fun H locs ls h1 h2 h3 => lv_goto C0.1 C0.2.1 hd ht (k H locs ls h1 h2 h3)
theorem r_if_eq (C0 : CC p s m args c cc nL own D g tb) {x : Int32} {off : Int} {tgt : Nat} (ht : (pc : Int) + off = (tgt : Int)) (hd : decode cc pc = .ok (.ifCond .eq off, 3)) (k1 : (x = 0) → WW p l e R s m args below meth c cells slots Q nL D g tb tgt lv st M) (k2 : ¬ (x = 0) → WW p l e R s m args below meth c cells slots Q nL D g tb (pc + 3) lv st M) : WW p l e R s m args below meth c cells slots Q nL D g tb pc lv (.int x :: st) M := fun H locs ls h1 h2 h3 => lv_if_eq C0.1 C0.2.1 hd ht (fun q => k1 q H locs ls h1 h2 h3) (fun q => k2 q H locs ls h1 h2 h3)
theorem r_if_ne (C0 : CC p s m args c cc nL own D g tb) {x : Int32} {off : Int} {tgt : Nat} (ht : (pc : Int) + off = (tgt : Int)) (hd : decode cc pc = .ok (.ifCond .ne off, 3)) (k1 : (¬ x = 0) → WW p l e R s m args below meth c cells slots Q nL D g tb tgt lv st M) (k2 : (x = 0) → WW p l e R s m args below meth c cells slots Q nL D g tb (pc + 3) lv st M) : WW p l e R s m args below meth c cells slots Q nL D g tb pc lv (.int x :: st) M := fun H locs ls h1 h2 h3 => lv_if_ne C0.1 C0.2.1 hd ht (fun q => k1 q H locs ls h1 h2 h3) (fun q => k2 q H locs ls h1 h2 h3)
theorem r_if_lt (C0 : CC p s m args c cc nL own D g tb) {x : Int32} {off : Int} {tgt : Nat} (ht : (pc : Int) + off = (tgt : Int)) (hd : decode cc pc = .ok (.ifCond .lt off, 3)) (k1 : (x < 0) → WW p l e R s m args below meth c cells slots Q nL D g tb tgt lv st M) (k2 : ¬ (x < 0) → WW p l e R s m args below meth c cells slots Q nL D g tb (pc + 3) lv st M) : WW p l e R s m args below meth c cells slots Q nL D g tb pc lv (.int x :: st) M := fun H locs ls h1 h2 h3 => lv_if_lt C0.1 C0.2.1 hd ht (fun q => k1 q H locs ls h1 h2 h3) (fun q => k2 q H locs ls h1 h2 h3)
theorem r_if_ge (C0 : CC p s m args c cc nL own D g tb) {x : Int32} {off : Int} {tgt : Nat} (ht : (pc : Int) + off = (tgt : Int)) (hd : decode cc pc = .ok (.ifCond .ge off, 3)) (k1 : (0 ≤ x) → WW p l e R s m args below meth c cells slots Q nL D g tb tgt lv st M) (k2 : ¬ (0 ≤ x) → WW p l e R s m args below meth c cells slots Q nL D g tb (pc + 3) lv st M) : WW p l e R s m args below meth c cells slots Q nL D g tb pc lv (.int x :: st) M := fun H locs ls h1 h2 h3 => lv_if_ge C0.1 C0.2.1 hd ht (fun q => k1 q H locs ls h1 h2 h3) (fun q => k2 q H locs ls h1 h2 h3)
theorem r_if_gt (C0 : CC p s m args c cc nL own D g tb) {x : Int32} {off : Int} {tgt : Nat} (ht : (pc : Int) + off = (tgt : Int)) (hd : decode cc pc = .ok (.ifCond .gt off, 3)) (k1 : (0 < x) → WW p l e R s m args below meth c cells slots Q nL D g tb tgt lv st M) (k2 : ¬ (0 < x) → WW p l e R s m args below meth c cells slots Q nL D g tb (pc + 3) lv st M) : WW p l e R s m args below meth c cells slots Q nL D g tb pc lv (.int x :: st) M := fun H locs ls h1 h2 h3 => lv_if_gt C0.1 C0.2.1 hd ht (fun q => k1 q H locs ls h1 h2 h3) (fun q => k2 q H locs ls h1 h2 h3)
theorem r_if_le (C0 : CC p s m args c cc nL own D g tb) {x : Int32} {off : Int} {tgt : Nat} (ht : (pc : Int) + off = (tgt : Int)) (hd : decode cc pc = .ok (.ifCond .le off, 3)) (k1 : (x ≤ 0) → WW p l e R s m args below meth c cells slots Q nL D g tb tgt lv st M) (k2 : ¬ (x ≤ 0) → WW p l e R s m args below meth c cells slots Q nL D g tb (pc + 3) lv st M) : WW p l e R s m args below meth c cells slots Q nL D g tb pc lv (.int x :: st) M := fun H locs ls h1 h2 h3 => lv_if_le C0.1 C0.2.1 hd ht (fun q => k1 q H locs ls h1 h2 h3) (fun q => k2 q H locs ls h1 h2 h3)
theorem r_icmp_eq (C0 : CC p s m args c cc nL own D g tb) {x y : Int32} {off : Int} {tgt : Nat} (ht : (pc : Int) + off = (tgt : Int)) (hd : decode cc pc = .ok (.if_icmp .eq off, 3)) (k1 : (x = y) → WW p l e R s m args below meth c cells slots Q nL D g tb tgt lv st M) (k2 : ¬ (x = y) → WW p l e R s m args below meth c cells slots Q nL D g tb (pc + 3) lv st M) : WW p l e R s m args below meth c cells slots Q nL D g tb pc lv (.int y :: .int x :: st) M := fun H locs ls h1 h2 h3 => lv_icmp_eq C0.1 C0.2.1 hd ht (fun q => k1 q H locs ls h1 h2 h3) (fun q => k2 q H locs ls h1 h2 h3)
theorem r_icmp_ne (C0 : CC p s m args c cc nL own D g tb) {x y : Int32} {off : Int} {tgt : Nat} (ht : (pc : Int) + off = (tgt : Int)) (hd : decode cc pc = .ok (.if_icmp .ne off, 3)) (k1 : (¬ x = y) → WW p l e R s m args below meth c cells slots Q nL D g tb tgt lv st M) (k2 : (x = y) → WW p l e R s m args below meth c cells slots Q nL D g tb (pc + 3) lv st M) : WW p l e R s m args below meth c cells slots Q nL D g tb pc lv (.int y :: .int x :: st) M := fun H locs ls h1 h2 h3 => lv_icmp_ne C0.1 C0.2.1 hd ht (fun q => k1 q H locs ls h1 h2 h3) (fun q => k2 q H locs ls h1 h2 h3)
theorem r_icmp_lt (C0 : CC p s m args c cc nL own D g tb) {x y : Int32} {off : Int} {tgt : Nat} (ht : (pc : Int) + off = (tgt : Int)) (hd : decode cc pc = .ok (.if_icmp .lt off, 3)) (k1 : (x < y) → WW p l e R s m args below meth c cells slots Q nL D g tb tgt lv st M) (k2 : ¬ (x < y) → WW p l e R s m args below meth c cells slots Q nL D g tb (pc + 3) lv st M) : WW p l e R s m args below meth c cells slots Q nL D g tb pc lv (.int y :: .int x :: st) M := fun H locs ls h1 h2 h3 => lv_icmp_lt C0.1 C0.2.1 hd ht (fun q => k1 q H locs ls h1 h2 h3) (fun q => k2 q H locs ls h1 h2 h3)
theorem r_icmp_ge (C0 : CC p s m args c cc nL own D g tb) {x y : Int32} {off : Int} {tgt : Nat} (ht : (pc : Int) + off = (tgt : Int)) (hd : decode cc pc = .ok (.if_icmp .ge off, 3)) (k1 : (y ≤ x) → WW p l e R s m args below meth c cells slots Q nL D g tb tgt lv st M) (k2 : ¬ (y ≤ x) → WW p l e R s m args below meth c cells slots Q nL D g tb (pc + 3) lv st M) : WW p l e R s m args below meth c cells slots Q nL D g tb pc lv (.int y :: .int x :: st) M := fun H locs ls h1 h2 h3 => lv_icmp_ge C0.1 C0.2.1 hd ht (fun q => k1 q H locs ls h1 h2 h3) (fun q => k2 q H locs ls h1 h2 h3)
theorem r_icmp_gt (C0 : CC p s m args c cc nL own D g tb) {x y : Int32} {off : Int} {tgt : Nat} (ht : (pc : Int) + off = (tgt : Int)) (hd : decode cc pc = .ok (.if_icmp .gt off, 3)) (k1 : (y < x) → WW p l e R s m args below meth c cells slots Q nL D g tb tgt lv st M) (k2 : ¬ (y < x) → WW p l e R s m args below meth c cells slots Q nL D g tb (pc + 3) lv st M) : WW p l e R s m args below meth c cells slots Q nL D g tb pc lv (.int y :: .int x :: st) M := fun H locs ls h1 h2 h3 => lv_icmp_gt C0.1 C0.2.1 hd ht (fun q => k1 q H locs ls h1 h2 h3) (fun q => k2 q H locs ls h1 h2 h3)
theorem r_icmp_le (C0 : CC p s m args c cc nL own D g tb) {x y : Int32} {off : Int} {tgt : Nat} (ht : (pc : Int) + off = (tgt : Int)) (hd : decode cc pc = .ok (.if_icmp .le off, 3)) (k1 : (x ≤ y) → WW p l e R s m args below meth c cells slots Q nL D g tb tgt lv st M) (k2 : ¬ (x ≤ y) → WW p l e R s m args below meth c cells slots Q nL D g tb (pc + 3) lv st M) : WW p l e R s m args below meth c cells slots Q nL D g tb pc lv (.int y :: .int x :: st) M := fun H locs ls h1 h2 h3 => lv_icmp_le C0.1 C0.2.1 hd ht (fun q => k1 q H locs ls h1 h2 h3) (fun q => k2 q H locs ls h1 h2 h3)
theorem r_get0 (C0 : CC p s m args c cc nL own D g tb) {b n index : Nat} {ref : String} (hq : (0, b, n) ∈ tb) (j : Nat) (hj : j < 9) {v : Value} (hv : (x_f0 g b M)[j]? = some v) (hsame : ref = RX4) (hw : Cond.fieldLink own index ref (TX4 j).2.1 (TX4 j).2.2.1 ∈ xA) (hd : decode cc pc = .ok (.getfield index, 3)) (k : WW p l e R s m args below meth c cells slots Q nL D g tb (pc + 3) lv (v :: st) M) : WW p l e R s m args below meth c cells slots Q nL D g tb pc lv (.ref (g.1 0 b) :: st) M := by
  intro H locs ls h1 h2 h3
  obtain ⟨i, hi⟩ := List.getElem?_of_mem hq
  obtain ⟨hx, hb, hml, hown, hts, hK, hT, -⟩ := C0
  have e1 : (TX4 j).1 = ref := by rw [hsame]; exact (by decide +kernel : ∀ j, j < 9 → (TX4 j).1 = RX4) j hj
  exact va_get (D := D) (cl := xCl) (ci := 3) (C := RX4) (T := TX4) (N := 9) hx hb hts x_lays0 hown hK h1 i (x_ws_at hi) rfl j hj (hts _ hw) (fun x h => by rw [← e1]; exact h) hv hd (k H locs ls h1 h2 h3)
def x_o0 : Nat → Option Nat := fun j => match j with
  | 0 => some 0
  | 1 => some 1
  | 2 => some 2
  | 3 => some 3
  | 4 => some 4
  | 5 => some 5
  | 6 => some 6
  | 7 => some 7
  | 8 => some 8
  | _ => none
theorem x_o0_lt {j z : Nat} (h : x_o0 j = some z) : j < 9 ∧ z < 9 ∧ (TX4 j).2.2.2 = false := by
  unfold x_o0 at h
  split at h <;> first | (cases h; exact ⟨by decide, by decide, by decide⟩) | cases h
theorem x_set0 {g : xG} {b j z : Nat} {M : xM} {x : Int32} (h : x_o0 j = some z) : (x_f0 g b M).set j (.int x) = x_f0 g b (upd M (b + z) x) := by
  unfold x_o0 at h
  split at h <;> first | (cases h; simp [x_f0, upd]) | cases h
theorem r_put0 (C0 : CC p s m args c cc nL own D g tb) {b n index : Nat} {ref : String} {x : Int32} {ty : FieldType} (hq : (0, b, n) ∈ tb) (j : Nat) {z : Nat} (hz : x_o0 j = some z) (hsame : ref = RX4) (hw : Cond.fieldLink own index ref (TX4 j).2.1 (TX4 j).2.2.1 ∈ xA) (hty : tyX4 j = ty) (hn : narrow ty (.int x) = .int x) (hfit : fits ty (.int x) = true) (hd : decode cc pc = .ok (.putfield index, 3)) (k : WW p l e R s m args below meth c cells slots Q nL D g tb (pc + 3) lv st (upd M (b + z) x)) : WW p l e R s m args below meth c cells slots Q nL D g tb pc lv (.int x :: .ref (g.1 0 b) :: st) M := by
  intro H locs ls h1 h2 h3
  obtain ⟨i, hi⟩ := List.getElem?_of_mem hq
  obtain ⟨hx, hb, hml, hown, hts, hK, hT, -⟩ := C0
  obtain ⟨hj, hz2, hfin⟩ := x_o0_lt hz
  have e1 : (TX4 j).1 = ref := by rw [hsame]; exact (by decide +kernel : ∀ j, j < 9 → (TX4 j).1 = RX4) j hj
  refine va_put (D := D) (cl := xCl) (ci := 3) (v := .int x) (ty := ty) (C := RX4) (T := TX4) (N := 9) hx hb hts x_lays0 tyX4 tyX4_ok nmX4 hown hK h1 (x_apart hT M s.heap.size) h2 i (x_ws_at hi) rfl j hj (hts _ hw) (fun x h => by rw [← e1]; exact h) hfin (by rw [← hty]; exact tyX4_ok j hj) hn hfit (by simpa [x_f0] using hj) hd (fun H1 locs1 hP hD hS => k H1 locs1 ls (x_conv hi hP ?_ (x_other hT hi ⟨Nat.le_add_right _ _, Nat.add_lt_add_left hz2 b⟩)) hS h3)
  intro hv
  show va_at D xCl (x_ad g (0, b, n), .inr (3, x_f0 g b (upd M (b + z) x))) H1
  rw [← x_set0 hz]
  exact hv
theorem r_get1 (C0 : CC p s m args c cc nL own D g tb) {b n index : Nat} {ref : String} (hq : (1, b, n) ∈ tb) (j : Nat) (hj : j < 8) {v : Value} (hv : (x_f1 g b M)[j]? = some v) (hsame : ref = RX1) (hw : Cond.fieldLink own index ref (TX1 j).2.1 (TX1 j).2.2.1 ∈ xA) (hd : decode cc pc = .ok (.getfield index, 3)) (k : WW p l e R s m args below meth c cells slots Q nL D g tb (pc + 3) lv (v :: st) M) : WW p l e R s m args below meth c cells slots Q nL D g tb pc lv (.ref (g.1 1 b) :: st) M := by
  intro H locs ls h1 h2 h3
  obtain ⟨i, hi⟩ := List.getElem?_of_mem hq
  obtain ⟨hx, hb, hml, hown, hts, hK, hT, -⟩ := C0
  have e1 : (TX1 j).1 = ref := by rw [hsame]; exact (by decide +kernel : ∀ j, j < 8 → (TX1 j).1 = RX1) j hj
  exact va_get (D := D) (cl := xCl) (ci := 0) (C := RX1) (T := TX1) (N := 8) hx hb hts x_lays1 hown hK h1 i (x_ws_at hi) rfl j hj (hts _ hw) (fun x h => by rw [← e1]; exact h) hv hd (k H locs ls h1 h2 h3)
def x_o1 : Nat → Option Nat := fun j => match j with
  | 0 => some 0
  | 1 => some 1
  | 2 => some 2
  | 3 => some 3
  | 4 => some 4
  | 5 => some 5
  | 6 => some 6
  | 7 => some 7
  | _ => none
theorem x_o1_lt {j z : Nat} (h : x_o1 j = some z) : j < 8 ∧ z < 8 ∧ (TX1 j).2.2.2 = false := by
  unfold x_o1 at h
  split at h <;> first | (cases h; exact ⟨by decide, by decide, by decide⟩) | cases h
theorem x_set1 {g : xG} {b j z : Nat} {M : xM} {x : Int32} (h : x_o1 j = some z) : (x_f1 g b M).set j (.int x) = x_f1 g b (upd M (b + z) x) := by
  unfold x_o1 at h
  split at h <;> first | (cases h; simp [x_f1, upd]) | cases h
theorem r_put1 (C0 : CC p s m args c cc nL own D g tb) {b n index : Nat} {ref : String} {x : Int32} {ty : FieldType} (hq : (1, b, n) ∈ tb) (j : Nat) {z : Nat} (hz : x_o1 j = some z) (hsame : ref = RX1) (hw : Cond.fieldLink own index ref (TX1 j).2.1 (TX1 j).2.2.1 ∈ xA) (hty : tyX1 j = ty) (hn : narrow ty (.int x) = .int x) (hfit : fits ty (.int x) = true) (hd : decode cc pc = .ok (.putfield index, 3)) (k : WW p l e R s m args below meth c cells slots Q nL D g tb (pc + 3) lv st (upd M (b + z) x)) : WW p l e R s m args below meth c cells slots Q nL D g tb pc lv (.int x :: .ref (g.1 1 b) :: st) M := by
  intro H locs ls h1 h2 h3
  obtain ⟨i, hi⟩ := List.getElem?_of_mem hq
  obtain ⟨hx, hb, hml, hown, hts, hK, hT, -⟩ := C0
  obtain ⟨hj, hz2, hfin⟩ := x_o1_lt hz
  have e1 : (TX1 j).1 = ref := by rw [hsame]; exact (by decide +kernel : ∀ j, j < 8 → (TX1 j).1 = RX1) j hj
  refine va_put (D := D) (cl := xCl) (ci := 0) (v := .int x) (ty := ty) (C := RX1) (T := TX1) (N := 8) hx hb hts x_lays1 tyX1 tyX1_ok nmX1 hown hK h1 (x_apart hT M s.heap.size) h2 i (x_ws_at hi) rfl j hj (hts _ hw) (fun x h => by rw [← e1]; exact h) hfin (by rw [← hty]; exact tyX1_ok j hj) hn hfit (by simpa [x_f1] using hj) hd (fun H1 locs1 hP hD hS => k H1 locs1 ls (x_conv hi hP ?_ (x_other hT hi ⟨Nat.le_add_right _ _, Nat.add_lt_add_left hz2 b⟩)) hS h3)
  intro hv
  show va_at D xCl (x_ad g (1, b, n), .inr (0, x_f1 g b (upd M (b + z) x))) H1
  rw [← x_set1 hz]
  exact hv
theorem r_get2 (C0 : CC p s m args c cc nL own D g tb) {b n index : Nat} {ref : String} (hq : (2, b, n) ∈ tb) (j : Nat) (hj : j < 14) {v : Value} (hv : (x_f2 g b M)[j]? = some v) (hsame : ref = RX2) (hw : Cond.fieldLink own index ref (TX2 j).2.1 (TX2 j).2.2.1 ∈ xA) (hd : decode cc pc = .ok (.getfield index, 3)) (k : WW p l e R s m args below meth c cells slots Q nL D g tb (pc + 3) lv (v :: st) M) : WW p l e R s m args below meth c cells slots Q nL D g tb pc lv (.ref (g.1 2 b) :: st) M := by
  intro H locs ls h1 h2 h3
  obtain ⟨i, hi⟩ := List.getElem?_of_mem hq
  obtain ⟨hx, hb, hml, hown, hts, hK, hT, -⟩ := C0
  have e1 : (TX2 j).1 = ref := by rw [hsame]; exact (by decide +kernel : ∀ j, j < 14 → (TX2 j).1 = RX2) j hj
  exact va_get (D := D) (cl := xCl) (ci := 1) (C := RX2) (T := TX2) (N := 14) hx hb hts x_lays2 hown hK h1 i (x_ws_at hi) rfl j hj (hts _ hw) (fun x h => by rw [← e1]; exact h) hv hd (k H locs ls h1 h2 h3)
def x_o2 : Nat → Option Nat := fun j => match j with
  | 1 => some 9
  | 3 => some 10
  | 5 => some 8
  | 6 => some 0
  | 7 => some 7
  | 8 => some 5
  | 9 => some 6
  | 10 => some 1
  | 11 => some 2
  | 12 => some 3
  | 13 => some 4
  | _ => none
theorem x_o2_lt {j z : Nat} (h : x_o2 j = some z) : j < 14 ∧ z < 11 ∧ (TX2 j).2.2.2 = false := by
  unfold x_o2 at h
  split at h <;> first | (cases h; exact ⟨by decide, by decide, by decide⟩) | cases h
theorem x_set2 {g : xG} {b j z : Nat} {M : xM} {x : Int32} (h : x_o2 j = some z) : (x_f2 g b M).set j (.int x) = x_f2 g b (upd M (b + z) x) := by
  unfold x_o2 at h
  split at h <;> first | (cases h; simp [x_f2, upd]) | cases h
theorem r_put2 (C0 : CC p s m args c cc nL own D g tb) {b n index : Nat} {ref : String} {x : Int32} {ty : FieldType} (hq : (2, b, n) ∈ tb) (j : Nat) {z : Nat} (hz : x_o2 j = some z) (hsame : ref = RX2) (hw : Cond.fieldLink own index ref (TX2 j).2.1 (TX2 j).2.2.1 ∈ xA) (hty : tyX2 j = ty) (hn : narrow ty (.int x) = .int x) (hfit : fits ty (.int x) = true) (hd : decode cc pc = .ok (.putfield index, 3)) (k : WW p l e R s m args below meth c cells slots Q nL D g tb (pc + 3) lv st (upd M (b + z) x)) : WW p l e R s m args below meth c cells slots Q nL D g tb pc lv (.int x :: .ref (g.1 2 b) :: st) M := by
  intro H locs ls h1 h2 h3
  obtain ⟨i, hi⟩ := List.getElem?_of_mem hq
  obtain ⟨hx, hb, hml, hown, hts, hK, hT, -⟩ := C0
  obtain ⟨hj, hz2, hfin⟩ := x_o2_lt hz
  have e1 : (TX2 j).1 = ref := by rw [hsame]; exact (by decide +kernel : ∀ j, j < 14 → (TX2 j).1 = RX2) j hj
  refine va_put (D := D) (cl := xCl) (ci := 1) (v := .int x) (ty := ty) (C := RX2) (T := TX2) (N := 14) hx hb hts x_lays2 tyX2 tyX2_ok nmX2 hown hK h1 (x_apart hT M s.heap.size) h2 i (x_ws_at hi) rfl j hj (hts _ hw) (fun x h => by rw [← e1]; exact h) hfin (by rw [← hty]; exact tyX2_ok j hj) hn hfit (by simpa [x_f2] using hj) hd (fun H1 locs1 hP hD hS => k H1 locs1 ls (x_conv hi hP ?_ (x_other hT hi ⟨Nat.le_add_right _ _, Nat.add_lt_add_left hz2 b⟩)) hS h3)
  intro hv
  show va_at D xCl (x_ad g (2, b, n), .inr (1, x_f2 g b (upd M (b + z) x))) H1
  rw [← x_set2 hz]
  exact hv
theorem r_get3 (C0 : CC p s m args c cc nL own D g tb) {b n index : Nat} {ref : String} (hq : (3, b, n) ∈ tb) (j : Nat) (hj : j < 10) {v : Value} (hv : (x_f3 g b M)[j]? = some v) (hsame : ref = RX3) (hw : Cond.fieldLink own index ref (TX3 j).2.1 (TX3 j).2.2.1 ∈ xA) (hd : decode cc pc = .ok (.getfield index, 3)) (k : WW p l e R s m args below meth c cells slots Q nL D g tb (pc + 3) lv (v :: st) M) : WW p l e R s m args below meth c cells slots Q nL D g tb pc lv (.ref (g.1 3 b) :: st) M := by
  intro H locs ls h1 h2 h3
  obtain ⟨i, hi⟩ := List.getElem?_of_mem hq
  obtain ⟨hx, hb, hml, hown, hts, hK, hT, -⟩ := C0
  have e1 : (TX3 j).1 = ref := by rw [hsame]; exact (by decide +kernel : ∀ j, j < 10 → (TX3 j).1 = RX3) j hj
  exact va_get (D := D) (cl := xCl) (ci := 2) (C := RX3) (T := TX3) (N := 10) hx hb hts x_lays3 hown hK h1 i (x_ws_at hi) rfl j hj (hts _ hw) (fun x h => by rw [← e1]; exact h) hv hd (k H locs ls h1 h2 h3)
def x_o3 : Nat → Option Nat := fun j => match j with
  | 1 => some 1
  | 2 => some 2
  | 3 => some 3
  | 6 => some 6
  | 7 => some 7
  | 8 => some 8
  | 9 => some 9
  | _ => none
theorem x_o3_lt {j z : Nat} (h : x_o3 j = some z) : j < 10 ∧ z < 10 ∧ (TX3 j).2.2.2 = false := by
  unfold x_o3 at h
  split at h <;> first | (cases h; exact ⟨by decide, by decide, by decide⟩) | cases h
theorem x_set3 {g : xG} {b j z : Nat} {M : xM} {x : Int32} (h : x_o3 j = some z) : (x_f3 g b M).set j (.int x) = x_f3 g b (upd M (b + z) x) := by
  unfold x_o3 at h
  split at h <;> first | (cases h; simp [x_f3, upd]) | cases h
theorem r_put3 (C0 : CC p s m args c cc nL own D g tb) {b n index : Nat} {ref : String} {x : Int32} {ty : FieldType} (hq : (3, b, n) ∈ tb) (j : Nat) {z : Nat} (hz : x_o3 j = some z) (hsame : ref = RX3) (hw : Cond.fieldLink own index ref (TX3 j).2.1 (TX3 j).2.2.1 ∈ xA) (hty : tyX3 j = ty) (hn : narrow ty (.int x) = .int x) (hfit : fits ty (.int x) = true) (hd : decode cc pc = .ok (.putfield index, 3)) (k : WW p l e R s m args below meth c cells slots Q nL D g tb (pc + 3) lv st (upd M (b + z) x)) : WW p l e R s m args below meth c cells slots Q nL D g tb pc lv (.int x :: .ref (g.1 3 b) :: st) M := by
  intro H locs ls h1 h2 h3
  obtain ⟨i, hi⟩ := List.getElem?_of_mem hq
  obtain ⟨hx, hb, hml, hown, hts, hK, hT, -⟩ := C0
  obtain ⟨hj, hz2, hfin⟩ := x_o3_lt hz
  have e1 : (TX3 j).1 = ref := by rw [hsame]; exact (by decide +kernel : ∀ j, j < 10 → (TX3 j).1 = RX3) j hj
  refine va_put (D := D) (cl := xCl) (ci := 2) (v := .int x) (ty := ty) (C := RX3) (T := TX3) (N := 10) hx hb hts x_lays3 tyX3 tyX3_ok nmX3 hown hK h1 (x_apart hT M s.heap.size) h2 i (x_ws_at hi) rfl j hj (hts _ hw) (fun x h => by rw [← e1]; exact h) hfin (by rw [← hty]; exact tyX3_ok j hj) hn hfit (by simpa [x_f3] using hj) hd (fun H1 locs1 hP hD hS => k H1 locs1 ls (x_conv hi hP ?_ (x_other hT hi ⟨Nat.le_add_right _ _, Nat.add_lt_add_left hz2 b⟩)) hS h3)
  intro hv
  show va_at D xCl (x_ad g (3, b, n), .inr (2, x_f3 g b (upd M (b + z) x))) H1
  rw [← x_set3 hz]
  exact hv
theorem r_get4 (C0 : CC p s m args c cc nL own D g tb) {b n index : Nat} {ref : String} (hq : (4, b, n) ∈ tb) (j : Nat) (hj : j < 11) {v : Value} (hv : (x_f4 g b M)[j]? = some v) (hsame : ref = RX6) (hw : Cond.fieldLink own index ref (TX6 j).2.1 (TX6 j).2.2.1 ∈ xA) (hd : decode cc pc = .ok (.getfield index, 3)) (k : WW p l e R s m args below meth c cells slots Q nL D g tb (pc + 3) lv (v :: st) M) : WW p l e R s m args below meth c cells slots Q nL D g tb pc lv (.ref (g.1 4 b) :: st) M := by
  intro H locs ls h1 h2 h3
  obtain ⟨i, hi⟩ := List.getElem?_of_mem hq
  obtain ⟨hx, hb, hml, hown, hts, hK, hT, -⟩ := C0
  have e1 : (TX6 j).1 = ref := by rw [hsame]; exact (by decide +kernel : ∀ j, j < 11 → (TX6 j).1 = RX6) j hj
  exact va_get (D := D) (cl := xCl) (ci := 4) (C := RX6) (T := TX6) (N := 11) hx hb hts x_lays4 hown hK h1 i (x_ws_at hi) rfl j hj (hts _ hw) (fun x h => by rw [← e1]; exact h) hv hd (k H locs ls h1 h2 h3)
def x_o4 : Nat → Option Nat := fun j => match j with
  | 5 => some 5
  | 6 => some 6
  | 10 => some 10
  | _ => none
theorem x_o4_lt {j z : Nat} (h : x_o4 j = some z) : j < 11 ∧ z < 11 ∧ (TX6 j).2.2.2 = false := by
  unfold x_o4 at h
  split at h <;> first | (cases h; exact ⟨by decide, by decide, by decide⟩) | cases h
theorem x_set4 {g : xG} {b j z : Nat} {M : xM} {x : Int32} (h : x_o4 j = some z) : (x_f4 g b M).set j (.int x) = x_f4 g b (upd M (b + z) x) := by
  unfold x_o4 at h
  split at h <;> first | (cases h; simp [x_f4, upd]) | cases h
theorem r_put4 (C0 : CC p s m args c cc nL own D g tb) {b n index : Nat} {ref : String} {x : Int32} {ty : FieldType} (hq : (4, b, n) ∈ tb) (j : Nat) {z : Nat} (hz : x_o4 j = some z) (hsame : ref = RX6) (hw : Cond.fieldLink own index ref (TX6 j).2.1 (TX6 j).2.2.1 ∈ xA) (hty : tyX6 j = ty) (hn : narrow ty (.int x) = .int x) (hfit : fits ty (.int x) = true) (hd : decode cc pc = .ok (.putfield index, 3)) (k : WW p l e R s m args below meth c cells slots Q nL D g tb (pc + 3) lv st (upd M (b + z) x)) : WW p l e R s m args below meth c cells slots Q nL D g tb pc lv (.int x :: .ref (g.1 4 b) :: st) M := by
  intro H locs ls h1 h2 h3
  obtain ⟨i, hi⟩ := List.getElem?_of_mem hq
  obtain ⟨hx, hb, hml, hown, hts, hK, hT, -⟩ := C0
  obtain ⟨hj, hz2, hfin⟩ := x_o4_lt hz
  have e1 : (TX6 j).1 = ref := by rw [hsame]; exact (by decide +kernel : ∀ j, j < 11 → (TX6 j).1 = RX6) j hj
  refine va_put (D := D) (cl := xCl) (ci := 4) (v := .int x) (ty := ty) (C := RX6) (T := TX6) (N := 11) hx hb hts x_lays4 tyX6 tyX6_ok nmX6 hown hK h1 (x_apart hT M s.heap.size) h2 i (x_ws_at hi) rfl j hj (hts _ hw) (fun x h => by rw [← e1]; exact h) hfin (by rw [← hty]; exact tyX6_ok j hj) hn hfit (by simpa [x_f4] using hj) hd (fun H1 locs1 hP hD hS => k H1 locs1 ls (x_conv hi hP ?_ (x_other hT hi ⟨Nat.le_add_right _ _, Nat.add_lt_add_left hz2 b⟩)) hS h3)
  intro hv
  show va_at D xCl (x_ad g (4, b, n), .inr (4, x_f4 g b (upd M (b + z) x))) H1
  rw [← x_set4 hz]
  exact hv
theorem r_get5 (C0 : CC p s m args c cc nL own D g tb) {b n index : Nat} {ref : String} (hq : (5, b, n) ∈ tb) (j : Nat) (hj : j < 20) {v : Value} (hv : (x_f5 g b M)[j]? = some v) (hsame : ref = RX7) (hw : Cond.fieldLink own index ref (TX7 j).2.1 (TX7 j).2.2.1 ∈ xA) (hd : decode cc pc = .ok (.getfield index, 3)) (k : WW p l e R s m args below meth c cells slots Q nL D g tb (pc + 3) lv (v :: st) M) : WW p l e R s m args below meth c cells slots Q nL D g tb pc lv (.ref (g.1 5 b) :: st) M := by
  intro H locs ls h1 h2 h3
  obtain ⟨i, hi⟩ := List.getElem?_of_mem hq
  obtain ⟨hx, hb, hml, hown, hts, hK, hT, -⟩ := C0
  have e1 : (TX7 j).1 = ref := by rw [hsame]; exact (by decide +kernel : ∀ j, j < 20 → (TX7 j).1 = RX7) j hj
  exact va_get (D := D) (cl := xCl) (ci := 5) (C := RX7) (T := TX7) (N := 20) hx hb hts x_lays5 hown hK h1 i (x_ws_at hi) rfl j hj (hts _ hw) (fun x h => by rw [← e1]; exact h) hv hd (k H locs ls h1 h2 h3)
def x_o5 : Nat → Option Nat := fun j => match j with
  | 1 => some 1
  | 2 => some 2
  | 3 => some 3
  | 4 => some 4
  | 9 => some 9
  | 12 => some 12
  | 15 => some 15
  | 16 => some 16
  | 17 => some 17
  | 18 => some 18
  | 19 => some 19
  | _ => none
theorem x_o5_lt {j z : Nat} (h : x_o5 j = some z) : j < 20 ∧ z < 20 ∧ (TX7 j).2.2.2 = false := by
  unfold x_o5 at h
  split at h <;> first | (cases h; exact ⟨by decide, by decide, by decide⟩) | cases h
theorem x_set5 {g : xG} {b j z : Nat} {M : xM} {x : Int32} (h : x_o5 j = some z) : (x_f5 g b M).set j (.int x) = x_f5 g b (upd M (b + z) x) := by
  unfold x_o5 at h
  split at h <;> first | (cases h; simp [x_f5, upd]) | cases h
theorem r_put5 (C0 : CC p s m args c cc nL own D g tb) {b n index : Nat} {ref : String} {x : Int32} {ty : FieldType} (hq : (5, b, n) ∈ tb) (j : Nat) {z : Nat} (hz : x_o5 j = some z) (hsame : ref = RX7) (hw : Cond.fieldLink own index ref (TX7 j).2.1 (TX7 j).2.2.1 ∈ xA) (hty : tyX7 j = ty) (hn : narrow ty (.int x) = .int x) (hfit : fits ty (.int x) = true) (hd : decode cc pc = .ok (.putfield index, 3)) (k : WW p l e R s m args below meth c cells slots Q nL D g tb (pc + 3) lv st (upd M (b + z) x)) : WW p l e R s m args below meth c cells slots Q nL D g tb pc lv (.int x :: .ref (g.1 5 b) :: st) M := by
  intro H locs ls h1 h2 h3
  obtain ⟨i, hi⟩ := List.getElem?_of_mem hq
  obtain ⟨hx, hb, hml, hown, hts, hK, hT, -⟩ := C0
  obtain ⟨hj, hz2, hfin⟩ := x_o5_lt hz
  have e1 : (TX7 j).1 = ref := by rw [hsame]; exact (by decide +kernel : ∀ j, j < 20 → (TX7 j).1 = RX7) j hj
  refine va_put (D := D) (cl := xCl) (ci := 5) (v := .int x) (ty := ty) (C := RX7) (T := TX7) (N := 20) hx hb hts x_lays5 tyX7 tyX7_ok nmX7 hown hK h1 (x_apart hT M s.heap.size) h2 i (x_ws_at hi) rfl j hj (hts _ hw) (fun x h => by rw [← e1]; exact h) hfin (by rw [← hty]; exact tyX7_ok j hj) hn hfit (by simpa [x_f5] using hj) hd (fun H1 locs1 hP hD hS => k H1 locs1 ls (x_conv hi hP ?_ (x_other hT hi ⟨Nat.le_add_right _ _, Nat.add_lt_add_left hz2 b⟩)) hS h3)
  intro hv
  show va_at D xCl (x_ad g (5, b, n), .inr (5, x_f5 g b (upd M (b + z) x))) H1
  rw [← x_set5 hz]
  exact hv
theorem r_iald (C0 : CC p s m args c cc nL own D g tb) {b n : Nat} {i : Int32} (hq : (6, b, n) ∈ tb) (hin : vp_in i n) (hd : decode cc pc = .ok (.iaload, 1)) (k : WW p l e R s m args below meth c cells slots Q nL D g tb (pc + 1) lv (.int (M (b + i.toNatClampNeg)) :: st) M) : WW p l e R s m args below meth c cells slots Q nL D g tb pc lv (.int i :: .ref (g.1 6 b) :: st) M := by
  intro H locs ls h1 h2 h3
  obtain ⟨q, hi⟩ := List.getElem?_of_mem hq
  obtain ⟨hx, hb, hml, hown, hts, hK, hT, -⟩ := C0
  exact va_iald hx hb hK h1 q 0 (x_ws_at hi) rfl hin hd (k H locs ls h1 h2 h3)
theorem r_iast (C0 : CC p s m args c cc nL own D g tb) {b n : Nat} {i x : Int32} (hq : (6, b, n) ∈ tb) (hin : vp_in i n) (hd : decode cc pc = .ok (.iastore, 1)) (k : WW p l e R s m args below meth c cells slots Q nL D g tb (pc + 1) lv st (upd M (b + i.toNatClampNeg) x)) : WW p l e R s m args below meth c cells slots Q nL D g tb pc lv (.int x :: .int i :: .ref (g.1 6 b) :: st) M := by
  intro H locs ls h1 h2 h3
  obtain ⟨q, hi⟩ := List.getElem?_of_mem hq
  obtain ⟨hx, hb, hml, hown, hts, hK, hT, -⟩ := C0
  have hlt : i.toNatClampNeg < n := Nat.not_le.mp fun q => hin (Or.inr q)
  refine va_iast hx hb hK h1 (x_apart hT M s.heap.size) h2 q 0 (x_ws_at hi) rfl hin hd (fun H1 locs1 hP hD hS => k H1 locs1 ls (x_conv hi hP ?_ (x_other hT hi ⟨Nat.le_add_right _ _, Nat.add_lt_add_left hlt b⟩)) hS h3)
  intro hv
  refine (show va_at D xCl (x_ad g (6, b, n), .inl (g.2.1 0, n, .inl (fun j => upd M (b + i.toNatClampNeg) x (b + j)))) H1 from ?_)
  have e : (fun j => upd M (b + i.toNatClampNeg) x (b + j)) = upd (fun j => M (b + j)) i.toNatClampNeg x := by
    funext j
    simp [upd]
  rw [e]
  exact hv
theorem r_bald (C0 : CC p s m args c cc nL own D g tb) {b n : Nat} {i : Int32} (hq : (7, b, n) ∈ tb) (hin : vp_in i n) (hd : decode cc pc = .ok (.baload, 1)) (k : WW p l e R s m args below meth c cells slots Q nL D g tb (pc + 1) lv (.int (M (b + i.toNatClampNeg)) :: st) M) : WW p l e R s m args below meth c cells slots Q nL D g tb pc lv (.int i :: .ref (g.1 7 b) :: st) M := by
  intro H locs ls h1 h2 h3
  obtain ⟨q, hi⟩ := List.getElem?_of_mem hq
  obtain ⟨hx, hb, hml, hown, hts, hK, hT, -⟩ := C0
  exact va_bald hx hb hK h1 q 1 (x_ws_at hi) rfl hin hd (k H locs ls h1 h2 h3)
theorem r_bast (C0 : CC p s m args c cc nL own D g tb) {b n : Nat} {i x : Int32} (hq : (7, b, n) ∈ tb) (hin : vp_in i n) (hd : decode cc pc = .ok (.bastore, 1)) (k : WW p l e R s m args below meth c cells slots Q nL D g tb (pc + 1) lv st (upd M (b + i.toNatClampNeg) (vp_nar .byte x))) : WW p l e R s m args below meth c cells slots Q nL D g tb pc lv (.int x :: .int i :: .ref (g.1 7 b) :: st) M := by
  intro H locs ls h1 h2 h3
  obtain ⟨q, hi⟩ := List.getElem?_of_mem hq
  obtain ⟨hx, hb, hml, hown, hts, hK, hT, -⟩ := C0
  have hlt : i.toNatClampNeg < n := Nat.not_le.mp fun q => hin (Or.inr q)
  refine va_bast hx hb hK h1 (x_apart hT M s.heap.size) h2 q 1 (x_ws_at hi) rfl hin hd (fun H1 locs1 hP hD hS => k H1 locs1 ls (x_conv hi hP ?_ (x_other hT hi ⟨Nat.le_add_right _ _, Nat.add_lt_add_left hlt b⟩)) hS h3)
  intro hv
  refine (show va_at D xCl (x_ad g (7, b, n), .inl (g.2.1 1, n, .inl (fun j => upd M (b + i.toNatClampNeg) (vp_nar .byte x) (b + j)))) H1 from ?_)
  have e : (fun j => upd M (b + i.toNatClampNeg) (vp_nar .byte x) (b + j)) = upd (fun j => M (b + j)) i.toNatClampNeg (vp_nar .byte x) := by
    funext j
    simp [upd]
  rw [e]
  exact hv
theorem r_zald (C0 : CC p s m args c cc nL own D g tb) {b n : Nat} {i : Int32} (hq : (8, b, n) ∈ tb) (hin : vp_in i n) (hd : decode cc pc = .ok (.baload, 1)) (k : WW p l e R s m args below meth c cells slots Q nL D g tb (pc + 1) lv (.int (M (b + i.toNatClampNeg)) :: st) M) : WW p l e R s m args below meth c cells slots Q nL D g tb pc lv (.int i :: .ref (g.1 8 b) :: st) M := by
  intro H locs ls h1 h2 h3
  obtain ⟨q, hi⟩ := List.getElem?_of_mem hq
  obtain ⟨hx, hb, hml, hown, hts, hK, hT, -⟩ := C0
  exact va_zald hx hb hK h1 q 2 (x_ws_at hi) rfl hin hd (k H locs ls h1 h2 h3)
theorem r_zast (C0 : CC p s m args c cc nL own D g tb) {b n : Nat} {i x : Int32} (hq : (8, b, n) ∈ tb) (hin : vp_in i n) (hd : decode cc pc = .ok (.bastore, 1)) (k : WW p l e R s m args below meth c cells slots Q nL D g tb (pc + 1) lv st (upd M (b + i.toNatClampNeg) (vp_nar .boolean x))) : WW p l e R s m args below meth c cells slots Q nL D g tb pc lv (.int x :: .int i :: .ref (g.1 8 b) :: st) M := by
  intro H locs ls h1 h2 h3
  obtain ⟨q, hi⟩ := List.getElem?_of_mem hq
  obtain ⟨hx, hb, hml, hown, hts, hK, hT, -⟩ := C0
  have hlt : i.toNatClampNeg < n := Nat.not_le.mp fun q => hin (Or.inr q)
  refine va_zast hx hb hK h1 (x_apart hT M s.heap.size) h2 q 2 (x_ws_at hi) rfl hin hd (fun H1 locs1 hP hD hS => k H1 locs1 ls (x_conv hi hP ?_ (x_other hT hi ⟨Nat.le_add_right _ _, Nat.add_lt_add_left hlt b⟩)) hS h3)
  intro hv
  refine (show va_at D xCl (x_ad g (8, b, n), .inl (g.2.1 2, n, .inl (fun j => upd M (b + i.toNatClampNeg) (vp_nar .boolean x) (b + j)))) H1 from ?_)
  have e : (fun j => upd M (b + i.toNatClampNeg) (vp_nar .boolean x) (b + j)) = upd (fun j => M (b + j)) i.toNatClampNeg (vp_nar .boolean x) := by
    funext j
    simp [upd]
  rw [e]
  exact hv
theorem r_lald (C0 : CC p s m args c cc nL own D g tb) {b n : Nat} {i : Int32} (hq : (9, b, n) ∈ tb) (hin : vp_in i n) (hd : decode cc pc = .ok (.laload, 1)) (k : WW p l e R s m args below meth c cells slots Q nL D g tb (pc + 1) lv (.long (M (b + i.toNatClampNeg)).toInt64 :: st) M) : WW p l e R s m args below meth c cells slots Q nL D g tb pc lv (.int i :: .ref (g.1 9 b) :: st) M := by
  intro H locs ls h1 h2 h3
  obtain ⟨q, hi⟩ := List.getElem?_of_mem hq
  obtain ⟨hx, hb, hml, hown, hts, hK, hT, -⟩ := C0
  exact va_lald hx hb hK h1 q 3 (x_ws_at hi) rfl hin hd (k H locs ls h1 h2 h3)
theorem r_aald10 (C0 : CC p s m args c cc nL own D g tb) {b n : Nat} {i : Int32} (hq : (10, b, n) ∈ tb) (hin : vp_in i n) (hd : decode cc pc = .ok (.aaload, 1)) (k : WW p l e R s m args below meth c cells slots Q nL D g tb (pc + 1) lv (.ref (g.1 0 (b + 9 * i.toNatClampNeg)) :: st) M) : WW p l e R s m args below meth c cells slots Q nL D g tb pc lv (.int i :: .ref (g.1 10 b) :: st) M := by
  intro H locs ls h1 h2 h3
  obtain ⟨q, hi⟩ := List.getElem?_of_mem hq
  obtain ⟨hx, hb, hml, hown, hts, hK, hT, -⟩ := C0
  exact va_aldq hx hb hK h1 q 4 (x_ws_at hi) rfl hin hd (k H locs ls h1 h2 h3)
theorem r_aald11 (C0 : CC p s m args c cc nL own D g tb) {b n : Nat} {i : Int32} (hq : (11, b, n) ∈ tb) (hin : vp_in i n) (hd : decode cc pc = .ok (.aaload, 1)) (k : WW p l e R s m args below meth c cells slots Q nL D g tb (pc + 1) lv (.ref (g.1 1 (b + 8 * i.toNatClampNeg)) :: st) M) : WW p l e R s m args below meth c cells slots Q nL D g tb pc lv (.int i :: .ref (g.1 11 b) :: st) M := by
  intro H locs ls h1 h2 h3
  obtain ⟨q, hi⟩ := List.getElem?_of_mem hq
  obtain ⟨hx, hb, hml, hown, hts, hK, hT, -⟩ := C0
  exact va_aldq hx hb hK h1 q 5 (x_ws_at hi) rfl hin hd (k H locs ls h1 h2 h3)
theorem r_aald12 (C0 : CC p s m args c cc nL own D g tb) {b n : Nat} {i : Int32} (hq : (12, b, n) ∈ tb) (hin : vp_in i n) (hd : decode cc pc = .ok (.aaload, 1)) (k : WW p l e R s m args below meth c cells slots Q nL D g tb (pc + 1) lv (.ref (g.1 2 (b + 128 * i.toNatClampNeg)) :: st) M) : WW p l e R s m args below meth c cells slots Q nL D g tb pc lv (.int i :: .ref (g.1 12 b) :: st) M := by
  intro H locs ls h1 h2 h3
  obtain ⟨q, hi⟩ := List.getElem?_of_mem hq
  obtain ⟨hx, hb, hml, hown, hts, hK, hT, -⟩ := C0
  exact va_aldq hx hb hK h1 q 6 (x_ws_at hi) rfl hin hd (k H locs ls h1 h2 h3)
theorem r_alen6 (C0 : CC p s m args c cc nL own D g tb) {b n : Nat} {v : Int32} (hq : (6, b, n) ∈ tb) (hv : Int32.ofNat n = v) (hd : decode cc pc = .ok (.arraylength, 1)) (k : WW p l e R s m args below meth c cells slots Q nL D g tb (pc + 1) lv (.int v :: st) M) : WW p l e R s m args below meth c cells slots Q nL D g tb pc lv (.ref (g.1 6 b) :: st) M := by
  intro H locs ls h1 h2 h3
  obtain ⟨q, hi⟩ := List.getElem?_of_mem hq
  obtain ⟨hx, hb, hml, hown, hts, hK, hT, -⟩ := C0
  exact va_alen hx hb hK h1 q 0 (x_ws_at hi) rfl hv hd (k H locs ls h1 h2 h3)
theorem r_alen7 (C0 : CC p s m args c cc nL own D g tb) {b n : Nat} {v : Int32} (hq : (7, b, n) ∈ tb) (hv : Int32.ofNat n = v) (hd : decode cc pc = .ok (.arraylength, 1)) (k : WW p l e R s m args below meth c cells slots Q nL D g tb (pc + 1) lv (.int v :: st) M) : WW p l e R s m args below meth c cells slots Q nL D g tb pc lv (.ref (g.1 7 b) :: st) M := by
  intro H locs ls h1 h2 h3
  obtain ⟨q, hi⟩ := List.getElem?_of_mem hq
  obtain ⟨hx, hb, hml, hown, hts, hK, hT, -⟩ := C0
  exact va_alen hx hb hK h1 q 1 (x_ws_at hi) rfl hv hd (k H locs ls h1 h2 h3)
theorem r_alen8 (C0 : CC p s m args c cc nL own D g tb) {b n : Nat} {v : Int32} (hq : (8, b, n) ∈ tb) (hv : Int32.ofNat n = v) (hd : decode cc pc = .ok (.arraylength, 1)) (k : WW p l e R s m args below meth c cells slots Q nL D g tb (pc + 1) lv (.int v :: st) M) : WW p l e R s m args below meth c cells slots Q nL D g tb pc lv (.ref (g.1 8 b) :: st) M := by
  intro H locs ls h1 h2 h3
  obtain ⟨q, hi⟩ := List.getElem?_of_mem hq
  obtain ⟨hx, hb, hml, hown, hts, hK, hT, -⟩ := C0
  exact va_alen hx hb hK h1 q 2 (x_ws_at hi) rfl hv hd (k H locs ls h1 h2 h3)
theorem r_alen10 (C0 : CC p s m args c cc nL own D g tb) {b n : Nat} {v : Int32} (hq : (10, b, n) ∈ tb) (hv : Int32.ofNat n = v) (hd : decode cc pc = .ok (.arraylength, 1)) (k : WW p l e R s m args below meth c cells slots Q nL D g tb (pc + 1) lv (.int v :: st) M) : WW p l e R s m args below meth c cells slots Q nL D g tb pc lv (.ref (g.1 10 b) :: st) M := by
  intro H locs ls h1 h2 h3
  obtain ⟨q, hi⟩ := List.getElem?_of_mem hq
  obtain ⟨hx, hb, hml, hown, hts, hK, hT, -⟩ := C0
  exact va_alen hx hb hK h1 q 4 (x_ws_at hi) rfl hv hd (k H locs ls h1 h2 h3)
theorem r_alen11 (C0 : CC p s m args c cc nL own D g tb) {b n : Nat} {v : Int32} (hq : (11, b, n) ∈ tb) (hv : Int32.ofNat n = v) (hd : decode cc pc = .ok (.arraylength, 1)) (k : WW p l e R s m args below meth c cells slots Q nL D g tb (pc + 1) lv (.int v :: st) M) : WW p l e R s m args below meth c cells slots Q nL D g tb pc lv (.ref (g.1 11 b) :: st) M := by
  intro H locs ls h1 h2 h3
  obtain ⟨q, hi⟩ := List.getElem?_of_mem hq
  obtain ⟨hx, hb, hml, hown, hts, hK, hT, -⟩ := C0
  exact va_alen hx hb hK h1 q 5 (x_ws_at hi) rfl hv hd (k H locs ls h1 h2 h3)
theorem r_alen12 (C0 : CC p s m args c cc nL own D g tb) {b n : Nat} {v : Int32} (hq : (12, b, n) ∈ tb) (hv : Int32.ofNat n = v) (hd : decode cc pc = .ok (.arraylength, 1)) (k : WW p l e R s m args below meth c cells slots Q nL D g tb (pc + 1) lv (.int v :: st) M) : WW p l e R s m args below meth c cells slots Q nL D g tb pc lv (.ref (g.1 12 b) :: st) M := by
  intro H locs ls h1 h2 h3
  obtain ⟨q, hi⟩ := List.getElem?_of_mem hq
  obtain ⟨hx, hb, hml, hown, hts, hK, hT, -⟩ := C0
  exact va_alen hx hb hK h1 q 6 (x_ws_at hi) rfl hv hd (k H locs ls h1 h2 h3)
theorem WW.sub {lv2 : List (Nat × Value)} (ks : List Nat) (hl : lv_pick lv ks = lv2) (k : WW p l e R s m args below meth c cells slots Q nL D g tb pc lv2 st M) : WW p l e R s m args below meth c cells slots Q nL D g tb pc lv st M := fun H locs ls h1 h2 h3 => k H locs ls h1 h2 (lv_sub h3 ks hl)
end XR
end
section
theorem x_blind {as : List Value} {D : va_G} {g : xG} {tb : List xQ} {M : xM} {sz : Nat} : FrameBlind (va_Pc as (fun U => U.heap.size = sz ∧ x_B D g tb M U)) :=
  fun a U g' mk q => ⟨q.1, q.2.1, q.2.2.1, va_K.moved (u := U) (U := U.calling g' mk a) (Vm.Alike.refl U.vm) q.2.2.2.1, x_KS.calling g' mk a q.2.2.2.2⟩
def x_Qi (D : va_G) (g : xG) (tb : List xQ) (r : Int32) (M : xM) (sz : Nat) : Array Value → State → Outcome → State → Prop := va_Qi (fun r' (_ : Unit) => r' = r) (fun _ t => x_B D g tb M t) (x_A g tb sz)
def x_Qv (D : va_G) (g : xG) (tb : List xQ) (M : xM) (sz : Nat) : Array Value → State → Outcome → State → Prop := va_Qv (fun (_ : Unit) => True) (fun _ t => x_B D g tb M t) (x_A g tb sz)
def x_Qr (D : va_G) (g : xG) (tb : List xQ) (k r : Nat) (M : xM) (sz : Nat) : Array Value → State → Outcome → State → Prop := va_Qr (fun (_ : Unit) => True) (fun _ a t => a = g.1 k r ∧ x_B D g tb M t) (x_A g tb sz)
/-- contracts: an int, nothing, a reference -/
def cI (l : Launch) (D : va_G) (g : xG) (tb : List xQ) (y : MethodName) (cc : ByteArray) (nL : Nat) (ret : FieldType) (rm : Room) (as : List Value) (M : xM) (r : Int32) (M' : xM) : Prop :=
  ∀ sz, Met l y (ws_ y cc nL (some ret)) rm (va_Pc as (fun U => U.heap.size = sz ∧ x_B D g tb M U)) (x_Qi D g tb r M' sz) 0 0 (x_A g tb sz)
def cV (l : Launch) (D : va_G) (g : xG) (tb : List xQ) (y : MethodName) (cc : ByteArray) (nL : Nat) (rm : Room) (as : List Value) (M : xM) (M' : xM) : Prop :=
  ∀ sz, Met l y (ws_ y cc nL none) rm (va_Pc as (fun U => U.heap.size = sz ∧ x_B D g tb M U)) (x_Qv D g tb M' sz) 0 0 (x_A g tb sz)
def cR (l : Launch) (D : va_G) (g : xG) (tb : List xQ) (y : MethodName) (cc : ByteArray) (nL : Nat) (ret : FieldType) (k : Nat) (rm : Room) (as : List Value) (M : xM) (r : Nat) (M' : xM) : Prop :=
  ∀ sz, Met l y (ws_ y cc nL (some ret)) rm (va_Pc as (fun U => U.heap.size = sz ∧ x_B D g tb M U)) (x_Qr D g tb k r M' sz) 0 0 (x_A g tb sz)
theorem x_start {l : Launch} {D : va_G} {g : xG} {tb : List xQ} {M : xM} {y : MethodName} {cc : ByteArray} {nL : Nat} {ret : Option FieldType} {rm : Room} {as : List Value} {sz : Nat} {Qc : Array Value → State → Outcome → State → Prop} {own : String} {lv : List (Nat × Value)} {mc ms : Nat} {free : Addr → Prop}
    (hy : plainName y.cls = true) (hown' : y.cls = own) (hlv : lv_args 0 as = lv) (hln : (lg_sl as).length ≤ nL) (hT : x_T g tb)
    (body : ∀ (p : Program) (e : Env) (s : State) (m : MethodId) (below : List Frame) (meth : Method) (c : Code), s.heap.size = sz → CC p s m as.toArray c cc nL own D g tb → meth.sig.returnType = ret → meth.locks = false → WW p l e rm s m as.toArray below meth c 0 0 (MQ below Qc as.toArray s mc ms free) nL D g tb 0 lv [] M) :
    Met l y (ws_ y cc nL ret) rm (va_Pc as (fun U => U.heap.size = sz ∧ x_B D g tb M U)) Qc mc ms free := by
  refine Met.ofW (cc := cc) (maxL := nL) (ret := ret) hy rfl ?_
  intro p e s m args below meth c s₁ B hml hv
  obtain ⟨rfl, hsz, hP, hK, hKS⟩ := hv
  have hts0 := atoms_spec (ws := ws_ y cc nL ret) B.pre
  have hts : ∀ w ∈ xA, w.before as.toArray s = true := fun w h => hts0 w (List.mem_cons_of_mem _ h)
  have hown : s.vm.findClass own = some m.cls := by rw [← hown']; exact findClass_of_methodNamed B.named
  have hl := lv_entry as (n := nL) hln
  rw [lg_entry_eq]
  rw [hlv] at hl
  exact body p e s m below meth c hsz ⟨B.exec, B.bytes, hml, hown, hts, hK, hT, hKS⟩ B.returns B.notSynchronized s.heap [] _ hP va_S.rf hl
section XE
variable {p : Program} {l : Launch} {e : Env} {R : Room} {s : State} {m : MethodId} {args : Array Value} {below : List Frame} {meth : Method} {c : Code} {cells slots : Nat} {Q : State → Prop}
variable {cc : ByteArray} {nL : Nat} {own : String} {D : va_G} {g : xG} {tb : List xQ} {pc : Nat} {lv : List (Nat × Value)} {st : List Value} {M : xM}
theorem x_Bend (C0 : CC p s m args c cc nL own D g tb) {H : Heap} {locs : List Loc} {t : State} (h1 : x_H D g tb M H) (h2 : va_S (x_A g tb s.heap.size) s.heap H locs) (ht : t.heap = H) (hW : s.WarmedH t.vm) : x_B D g tb M t :=
  ⟨by rw [ht]; exact h1, va_K.moved hW.alike C0.2.2.2.2.2.1, x_KS.kept C0.2.2.2.2.2.2.2 h2 ht hW⟩
theorem r_iret (C0 : CC p s m args c cc nL own D g tb) {v r : Int32} {M' : xM} (hr : meth.sig.returnType = some .int) (hlk : meth.locks = false) (hf : (some (v, M) : Option (Int32 × xM)) = some (r, M')) (hd : decode cc pc = .ok (.ireturn, 1)) :
    WW p l e R s m args below meth c cells slots (MQ below (x_Qi D g tb r M' s.heap.size) args s cells slots (x_A g tb s.heap.size)) nL D g tb pc lv [.int v] M := by
  cases hf
  intro H locs ls h1 h2 h3
  exact W.iret C0.1 C0.2.1 hr (fun t ht hW => ⟨⟨v, (), rfl, rfl, x_Bend C0 h1 h2 ht hW⟩, h2.F ht⟩) h2.2.2 hd hlk
def isb (v : Int32) : Bool := v == 0 || v == 1
theorem isb_nar {v : Int32} (h : isb v = true) : narrow .boolean (.int v) = .int v := by
  unfold isb at h
  simp only [Bool.or_eq_true, beq_iff_eq] at h
  rcases h with rfl | rfl <;> rfl
theorem r_zret (C0 : CC p s m args c cc nL own D g tb) {v r : Int32} {M' : xM} (hr : meth.sig.returnType = some .boolean) (hlk : meth.locks = false) (hz : isb v = true) (hf : (some (v, M) : Option (Int32 × xM)) = some (r, M')) (hd : decode cc pc = .ok (.ireturn, 1)) :
    WW p l e R s m args below meth c cells slots (MQ below (x_Qi D g tb r M' s.heap.size) args s cells slots (x_A g tb s.heap.size)) nL D g tb pc lv [.int v] M := by
  cases hf
  intro H locs ls h1 h2 h3
  exact W.zret C0.1 C0.2.1 hr (isb_nar hz) (fun t ht hW => ⟨⟨v, (), rfl, rfl, x_Bend C0 h1 h2 ht hW⟩, h2.F ht⟩) h2.2.2 hd hlk
theorem r_vret (C0 : CC p s m args c cc nL own D g tb) {M' : xM} (hr : meth.sig.returnType = none) (hlk : meth.locks = false) (hf : (some M : Option xM) = some M') (hd : decode cc pc = .ok (.return_, 1)) :
    WW p l e R s m args below meth c cells slots (MQ below (x_Qv D g tb M' s.heap.size) args s cells slots (x_A g tb s.heap.size)) nL D g tb pc lv [] M := by
  cases hf
  intro H locs ls h1 h2 h3
  exact W.vret C0.1 C0.2.1 hr (fun t ht hW => ⟨⟨(), rfl, trivial, x_Bend C0 h1 h2 ht hW⟩, h2.F ht⟩) h2.2.2 hd hlk
theorem r_aret (C0 : CC p s m args c cc nL own D g tb) {k v r : Nat} {M' : xM} {n : String} (hr : meth.sig.returnType = some (.object n)) (hlk : meth.locks = false) (hf : (some (v, M) : Option (Nat × xM)) = some (r, M')) (hd : decode cc pc = .ok (.areturn, 1)) :
    WW p l e R s m args below meth c cells slots (MQ below (x_Qr D g tb k r M' s.heap.size) args s cells slots (x_A g tb s.heap.size)) nL D g tb pc lv [.ref (g.1 k v)] M := by
  cases hf
  intro H locs ls h1 h2 h3
  exact W.aret C0.1 C0.2.1 hr (Or.inl ⟨n, rfl⟩) (Or.inr ⟨_, rfl⟩) (fun t ht hW => ⟨⟨(), _, rfl, trivial, rfl, x_Bend C0 h1 h2 ht hW⟩, h2.F ht⟩) h2.2.2 hd hlk
theorem x_good {y : MethodName} {cc : ByteArray} {n : Nat} {ret : Option FieldType} (ws : List Cond) (h : ∀ w ∈ ws, w ∈ xA) (hc : Cond.code y cc n ret ∈ xA) : GoodIn xA (ws ++ ws_ y cc n ret) := by
  intro w hw
  have hm : w ∈ xA := by
    rcases List.mem_append.mp hw with h1 | h1
    · exact h w h1
    · rcases List.mem_cons.mp h1 with rfl | h2
      · exact hc
      · exact h2
  exact ⟨hm, good_of_word (xA_good hm)⟩
theorem x_goodV {own C : String} {idx : Nat} {y : MethodName} {cc : ByteArray} {n : Nat} {ret : Option FieldType} (h1 : Cond.methodLink own idx y ∈ xA) (h2 : Cond.instanceMethod y ∈ xA) (h3 : Cond.selects C y y ∈ xA) (h4 : Cond.initialized C ∈ xA) (h5 : Cond.code y cc n ret ∈ xA) : GoodIn xA (wsV own idx C y (ws_ y cc n ret)) :=
  x_good _ (by simp only [List.mem_cons, List.not_mem_nil, or_false]; rintro w (rfl | rfl | rfl | rfl) <;> assumption) h5
theorem x_goodS {own : String} {idx : Nat} {y : MethodName} {cc : ByteArray} {n : Nat} {ret : Option FieldType} (h1 : Cond.methodLink own idx y ∈ xA) (h2 : Cond.static y ∈ xA) (h4 : Cond.initialized y.cls ∈ xA) (h5 : Cond.code y cc n ret ∈ xA) : GoodIn xA (va_wsS own idx y (ws_ y cc n ret)) :=
  x_good _ (by simp only [List.mem_cons, List.not_mem_nil, or_false]; rintro w (rfl | rfl | rfl) <;> assumption) h5
theorem x_rec0 (C0 : CC p s m args c cc nL own D g tb) {b n : Nat} (hq : (0, b, n) ∈ tb) : ∀ (M : xM) (H : Heap) (locs : List Loc), x_H D g tb M H → va_S (x_A g tb s.heap.size) s.heap H locs → ∃ cell : Cell, H[g.1 0 b]? = some cell ∧ cell.vm.isStatics = false ∧ s.vm.findClass RX4 = some cell.cls := by
  intro M H locs h1 _
  obtain ⟨i, hi⟩ := List.getElem?_of_mem hq
  exact va_recv (q := (RX4, TX4, 9)) (ci := 3) C0.2.2.2.2.2.1 h1 rfl (x_ws_at hi)
theorem x_rec1 (C0 : CC p s m args c cc nL own D g tb) {b n : Nat} (hq : (1, b, n) ∈ tb) : ∀ (M : xM) (H : Heap) (locs : List Loc), x_H D g tb M H → va_S (x_A g tb s.heap.size) s.heap H locs → ∃ cell : Cell, H[g.1 1 b]? = some cell ∧ cell.vm.isStatics = false ∧ s.vm.findClass RX1 = some cell.cls := by
  intro M H locs h1 _
  obtain ⟨i, hi⟩ := List.getElem?_of_mem hq
  exact va_recv (q := (RX1, TX1, 8)) (ci := 0) C0.2.2.2.2.2.1 h1 rfl (x_ws_at hi)
theorem x_rec2 (C0 : CC p s m args c cc nL own D g tb) {b n : Nat} (hq : (2, b, n) ∈ tb) : ∀ (M : xM) (H : Heap) (locs : List Loc), x_H D g tb M H → va_S (x_A g tb s.heap.size) s.heap H locs → ∃ cell : Cell, H[g.1 2 b]? = some cell ∧ cell.vm.isStatics = false ∧ s.vm.findClass RX2 = some cell.cls := by
  intro M H locs h1 _
  obtain ⟨i, hi⟩ := List.getElem?_of_mem hq
  exact va_recv (q := (RX2, TX2, 14)) (ci := 1) C0.2.2.2.2.2.1 h1 rfl (x_ws_at hi)
theorem x_rec3 (C0 : CC p s m args c cc nL own D g tb) {b n : Nat} (hq : (3, b, n) ∈ tb) : ∀ (M : xM) (H : Heap) (locs : List Loc), x_H D g tb M H → va_S (x_A g tb s.heap.size) s.heap H locs → ∃ cell : Cell, H[g.1 3 b]? = some cell ∧ cell.vm.isStatics = false ∧ s.vm.findClass RX3 = some cell.cls := by
  intro M H locs h1 _
  obtain ⟨i, hi⟩ := List.getElem?_of_mem hq
  exact va_recv (q := (RX3, TX3, 10)) (ci := 2) C0.2.2.2.2.2.1 h1 rfl (x_ws_at hi)
theorem x_rec4 (C0 : CC p s m args c cc nL own D g tb) {b n : Nat} (hq : (4, b, n) ∈ tb) : ∀ (M : xM) (H : Heap) (locs : List Loc), x_H D g tb M H → va_S (x_A g tb s.heap.size) s.heap H locs → ∃ cell : Cell, H[g.1 4 b]? = some cell ∧ cell.vm.isStatics = false ∧ s.vm.findClass RX6 = some cell.cls := by
  intro M H locs h1 _
  obtain ⟨i, hi⟩ := List.getElem?_of_mem hq
  exact va_recv (q := (RX6, TX6, 11)) (ci := 4) C0.2.2.2.2.2.1 h1 rfl (x_ws_at hi)
theorem x_rec5 (C0 : CC p s m args c cc nL own D g tb) {b n : Nat} (hq : (5, b, n) ∈ tb) : ∀ (M : xM) (H : Heap) (locs : List Loc), x_H D g tb M H → va_S (x_A g tb s.heap.size) s.heap H locs → ∃ cell : Cell, H[g.1 5 b]? = some cell ∧ cell.vm.isStatics = false ∧ s.vm.findClass RX7 = some cell.cls := by
  intro M H locs h1 _
  obtain ⟨i, hi⟩ := List.getElem?_of_mem hq
  exact va_recv (q := (RX7, TX7, 20)) (ci := 5) C0.2.2.2.2.2.1 h1 rfl (x_ws_at hi)
theorem r_callVi (C0 : CC p s m args c cc nL own D g tb) {y : MethodName} {bytes : ByteArray} {maxL idx n : Nat} {rm : Room} {As rest stk : List Value} {C : String} {a : Nat} {ret : FieldType} {r : Int32} {M' : xM}
    (hM : cI l D g tb y bytes maxL ret rm (.ref a :: As) M r M') (w1 : Cond.methodLink own idx y ∈ xA) (w2 : Cond.instanceMethod y ∈ xA) (w3 : Cond.selects C y y ∈ xA) (w4 : Cond.initialized C ∈ xA) (w5 : Cond.code y bytes maxL (some ret) ∈ xA)
    (hrec : ∀ (M : xM) (H : Heap) (locs : List Loc), x_H D g tb M H → va_S (x_A g tb s.heap.size) s.heap H locs → ∃ cell : Cell, H[a]? = some cell ∧ cell.vm.isStatics = false ∧ s.vm.findClass C = some cell.cls)  (hdd : y.cls = C ∧ y.cls ≠ "java/lang/invoke/MethodHandle" ∧ y.cls ≠ "java/lang/invoke/VarHandle" ∧ (parseMethodDescriptor y.desc).map (fun d => d.parameters.length) = some n) (hn : As.length = n) (hrm : rm.cells = 0 ∧ rm.slots = 0) (hR : rm.frames + 1 ≤ R.frames ∧ 8 + (maxL + 11) + rm.locals ≤ R.locals) (hfc : cells + 0 ≤ R.cells) (hfs : slots + 0 ≤ R.slots)
    (hst : stk = As.reverse ++ .ref a :: rest) (hcat : (rest.map fun v => v.category).sum ≤ 8) (hd : decode cc pc = .ok (.invokevirtual idx, 3)) (k : WW p l e R s m args below meth c cells slots Q nL D g tb (pc + 3) lv (.int r :: rest) M') : WW p l e R s m args below meth c cells slots Q nL D g tb pc lv stk M := by
  intro H locs ls h1 h2 h3
  subst hst
  obtain ⟨hx, hb, hml, hown, hts, hK, hT, hKS⟩ := C0
  obtain ⟨hrc, hrs⟩ := hrm
  refine va_calli (va_runV (As := As) (rest := rest) ⟨hx, hb, hml, hown, hts⟩ (hM H.size) (cwV n hts (x_goodV w1 w2 w3 w4 w5) rfl hrc hrs hdd hR) ⟨x_blind, hrec M H _ h1 h2, fun U hU hW => ⟨rfl, by rw [hU], by rw [hU]; exact h1, va_K.moved hW.alike hK, x_KS.kept hKS h2 hU hW⟩⟩ rfl hn h3.1 rfl (lv_room hcat) hd ⟨hfc, hfs⟩) h2 (fun q _ hq => x_Aup h2.1 q hq) (fun q hq => x_Aup h2.1 q hq) ?_
  rintro r' u t H1 locs1 ht hvm rfl hB hz1 hk1 hS1
  exact k H1 locs1 ls (ht ▸ hB.1) hS1 h3
theorem r_callVv (C0 : CC p s m args c cc nL own D g tb) {y : MethodName} {bytes : ByteArray} {maxL idx n : Nat} {rm : Room} {As rest stk : List Value} {C : String} {a : Nat} {M' : xM}
    (hM : cV l D g tb y bytes maxL  rm (.ref a :: As) M M') (w1 : Cond.methodLink own idx y ∈ xA) (w2 : Cond.instanceMethod y ∈ xA) (w3 : Cond.selects C y y ∈ xA) (w4 : Cond.initialized C ∈ xA) (w5 : Cond.code y bytes maxL none ∈ xA)
    (hrec : ∀ (M : xM) (H : Heap) (locs : List Loc), x_H D g tb M H → va_S (x_A g tb s.heap.size) s.heap H locs → ∃ cell : Cell, H[a]? = some cell ∧ cell.vm.isStatics = false ∧ s.vm.findClass C = some cell.cls)  (hdd : y.cls = C ∧ y.cls ≠ "java/lang/invoke/MethodHandle" ∧ y.cls ≠ "java/lang/invoke/VarHandle" ∧ (parseMethodDescriptor y.desc).map (fun d => d.parameters.length) = some n) (hn : As.length = n) (hrm : rm.cells = 0 ∧ rm.slots = 0) (hR : rm.frames + 1 ≤ R.frames ∧ 8 + (maxL + 11) + rm.locals ≤ R.locals) (hfc : cells + 0 ≤ R.cells) (hfs : slots + 0 ≤ R.slots)
    (hst : stk = As.reverse ++ .ref a :: rest) (hcat : (rest.map fun v => v.category).sum ≤ 8) (hd : decode cc pc = .ok (.invokevirtual idx, 3)) (k : WW p l e R s m args below meth c cells slots Q nL D g tb (pc + 3) lv rest M') : WW p l e R s m args below meth c cells slots Q nL D g tb pc lv stk M := by
  intro H locs ls h1 h2 h3
  subst hst
  obtain ⟨hx, hb, hml, hown, hts, hK, hT, hKS⟩ := C0
  obtain ⟨hrc, hrs⟩ := hrm
  refine va_callv (va_runV (As := As) (rest := rest) ⟨hx, hb, hml, hown, hts⟩ (hM H.size) (cwV n hts (x_goodV w1 w2 w3 w4 w5) rfl hrc hrs hdd hR) ⟨x_blind, hrec M H _ h1 h2, fun U hU hW => ⟨rfl, by rw [hU], by rw [hU]; exact h1, va_K.moved hW.alike hK, x_KS.kept hKS h2 hU hW⟩⟩ rfl hn h3.1 rfl (lv_room hcat) hd ⟨hfc, hfs⟩) h2 (fun q _ hq => x_Aup h2.1 q hq) (fun q hq => x_Aup h2.1 q hq) ?_
  rintro u t H1 locs1 ht hvm - hB hz1 hk1 hS1
  exact k H1 locs1 ls (ht ▸ hB.1) hS1 h3
theorem r_callVr (C0 : CC p s m args c cc nL own D g tb) {y : MethodName} {bytes : ByteArray} {maxL idx n : Nat} {rm : Room} {As rest stk : List Value} {C : String} {a : Nat} {ret : FieldType} {kd r : Nat} {M' : xM}
    (hM : cR l D g tb y bytes maxL ret kd rm (.ref a :: As) M r M') (w1 : Cond.methodLink own idx y ∈ xA) (w2 : Cond.instanceMethod y ∈ xA) (w3 : Cond.selects C y y ∈ xA) (w4 : Cond.initialized C ∈ xA) (w5 : Cond.code y bytes maxL (some ret) ∈ xA)
    (hrec : ∀ (M : xM) (H : Heap) (locs : List Loc), x_H D g tb M H → va_S (x_A g tb s.heap.size) s.heap H locs → ∃ cell : Cell, H[a]? = some cell ∧ cell.vm.isStatics = false ∧ s.vm.findClass C = some cell.cls)  (hdd : y.cls = C ∧ y.cls ≠ "java/lang/invoke/MethodHandle" ∧ y.cls ≠ "java/lang/invoke/VarHandle" ∧ (parseMethodDescriptor y.desc).map (fun d => d.parameters.length) = some n) (hn : As.length = n) (hrm : rm.cells = 0 ∧ rm.slots = 0) (hR : rm.frames + 1 ≤ R.frames ∧ 8 + (maxL + 11) + rm.locals ≤ R.locals) (hfc : cells + 0 ≤ R.cells) (hfs : slots + 0 ≤ R.slots)
    (hst : stk = As.reverse ++ .ref a :: rest) (hcat : (rest.map fun v => v.category).sum ≤ 8) (hd : decode cc pc = .ok (.invokevirtual idx, 3)) (k : WW p l e R s m args below meth c cells slots Q nL D g tb (pc + 3) lv (.ref (g.1 kd r) :: rest) M') : WW p l e R s m args below meth c cells slots Q nL D g tb pc lv stk M := by
  intro H locs ls h1 h2 h3
  subst hst
  obtain ⟨hx, hb, hml, hown, hts, hK, hT, hKS⟩ := C0
  obtain ⟨hrc, hrs⟩ := hrm
  refine va_callr (va_runV (As := As) (rest := rest) ⟨hx, hb, hml, hown, hts⟩ (hM H.size) (cwV n hts (x_goodV w1 w2 w3 w4 w5) rfl hrc hrs hdd hR) ⟨x_blind, hrec M H _ h1 h2, fun U hU hW => ⟨rfl, by rw [hU], by rw [hU]; exact h1, va_K.moved hW.alike hK, x_KS.kept hKS h2 hU hW⟩⟩ rfl hn h3.1 rfl (lv_room hcat) hd ⟨hfc, hfs⟩) h2 (fun q _ hq => x_Aup h2.1 q hq) (fun q hq => x_Aup h2.1 q hq) ?_
  rintro u ra t H1 locs1 ht hvm - hB hz1 hk1 hS1
  obtain ⟨rfl, hB⟩ := hB
  exact k H1 locs1 ls (ht ▸ hB.1) hS1 h3
theorem r_callSi (C0 : CC p s m args c cc nL own D g tb) {y : MethodName} {bytes : ByteArray} {maxL idx n : Nat} {rm : Room} {As rest stk : List Value} {ret : FieldType} {r : Int32} {M' : xM}
    (hM : cI l D g tb y bytes maxL ret rm (As) M r M') (w1 : Cond.methodLink own idx y ∈ xA) (w2 : Cond.static y ∈ xA) (w4 : Cond.initialized y.cls ∈ xA) (w5 : Cond.code y bytes maxL (some ret) ∈ xA)
     (hdd : y.cls ≠ "java/lang/invoke/MethodHandle" ∧ y.cls ≠ "java/lang/invoke/VarHandle" ∧ (parseMethodDescriptor y.desc).map (fun d => d.parameters.length) = some n) (hn : As.length = n) (hrm : rm.cells = 0 ∧ rm.slots = 0) (hR : rm.frames + 1 ≤ R.frames ∧ 8 + (maxL + 11) + rm.locals ≤ R.locals) (hfc : cells + 0 ≤ R.cells) (hfs : slots + 0 ≤ R.slots)
    (hst : stk = As.reverse ++ rest) (hcat : (rest.map fun v => v.category).sum ≤ 8) (hd : decode cc pc = .ok (.invokestatic idx, 3)) (k : WW p l e R s m args below meth c cells slots Q nL D g tb (pc + 3) lv (.int r :: rest) M') : WW p l e R s m args below meth c cells slots Q nL D g tb pc lv stk M := by
  intro H locs ls h1 h2 h3
  subst hst
  obtain ⟨hx, hb, hml, hown, hts, hK, hT, hKS⟩ := C0
  obtain ⟨hrc, hrs⟩ := hrm
  refine va_calli (va_runS (As := As) (rest := rest) ⟨hx, hb, hml, hown, hts⟩ (hM H.size) (va_cwS n hts (x_goodS w1 w2 w4 w5) rfl hrc hrs hdd hR) ⟨x_blind, fun U hU hW => ⟨rfl, by rw [hU], by rw [hU]; exact h1, va_K.moved hW.alike hK, x_KS.kept hKS h2 hU hW⟩⟩ rfl hn h3.1 rfl (lv_room hcat) hd ⟨hfc, hfs⟩) h2 (fun q _ hq => x_Aup h2.1 q hq) (fun q hq => x_Aup h2.1 q hq) ?_
  rintro r' u t H1 locs1 ht hvm rfl hB hz1 hk1 hS1
  exact k H1 locs1 ls (ht ▸ hB.1) hS1 h3
theorem r_callSv (C0 : CC p s m args c cc nL own D g tb) {y : MethodName} {bytes : ByteArray} {maxL idx n : Nat} {rm : Room} {As rest stk : List Value} {M' : xM}
    (hM : cV l D g tb y bytes maxL  rm (As) M M') (w1 : Cond.methodLink own idx y ∈ xA) (w2 : Cond.static y ∈ xA) (w4 : Cond.initialized y.cls ∈ xA) (w5 : Cond.code y bytes maxL none ∈ xA)
     (hdd : y.cls ≠ "java/lang/invoke/MethodHandle" ∧ y.cls ≠ "java/lang/invoke/VarHandle" ∧ (parseMethodDescriptor y.desc).map (fun d => d.parameters.length) = some n) (hn : As.length = n) (hrm : rm.cells = 0 ∧ rm.slots = 0) (hR : rm.frames + 1 ≤ R.frames ∧ 8 + (maxL + 11) + rm.locals ≤ R.locals) (hfc : cells + 0 ≤ R.cells) (hfs : slots + 0 ≤ R.slots)
    (hst : stk = As.reverse ++ rest) (hcat : (rest.map fun v => v.category).sum ≤ 8) (hd : decode cc pc = .ok (.invokestatic idx, 3)) (k : WW p l e R s m args below meth c cells slots Q nL D g tb (pc + 3) lv rest M') : WW p l e R s m args below meth c cells slots Q nL D g tb pc lv stk M := by
  intro H locs ls h1 h2 h3
  subst hst
  obtain ⟨hx, hb, hml, hown, hts, hK, hT, hKS⟩ := C0
  obtain ⟨hrc, hrs⟩ := hrm
  refine va_callv (va_runS (As := As) (rest := rest) ⟨hx, hb, hml, hown, hts⟩ (hM H.size) (va_cwS n hts (x_goodS w1 w2 w4 w5) rfl hrc hrs hdd hR) ⟨x_blind, fun U hU hW => ⟨rfl, by rw [hU], by rw [hU]; exact h1, va_K.moved hW.alike hK, x_KS.kept hKS h2 hU hW⟩⟩ rfl hn h3.1 rfl (lv_room hcat) hd ⟨hfc, hfs⟩) h2 (fun q _ hq => x_Aup h2.1 q hq) (fun q hq => x_Aup h2.1 q hq) ?_
  rintro u t H1 locs1 ht hvm - hB hz1 hk1 hS1
  exact k H1 locs1 ls (ht ▸ hB.1) hS1 h3
theorem r_callSr (C0 : CC p s m args c cc nL own D g tb) {y : MethodName} {bytes : ByteArray} {maxL idx n : Nat} {rm : Room} {As rest stk : List Value} {ret : FieldType} {kd r : Nat} {M' : xM}
    (hM : cR l D g tb y bytes maxL ret kd rm (As) M r M') (w1 : Cond.methodLink own idx y ∈ xA) (w2 : Cond.static y ∈ xA) (w4 : Cond.initialized y.cls ∈ xA) (w5 : Cond.code y bytes maxL (some ret) ∈ xA)
     (hdd : y.cls ≠ "java/lang/invoke/MethodHandle" ∧ y.cls ≠ "java/lang/invoke/VarHandle" ∧ (parseMethodDescriptor y.desc).map (fun d => d.parameters.length) = some n) (hn : As.length = n) (hrm : rm.cells = 0 ∧ rm.slots = 0) (hR : rm.frames + 1 ≤ R.frames ∧ 8 + (maxL + 11) + rm.locals ≤ R.locals) (hfc : cells + 0 ≤ R.cells) (hfs : slots + 0 ≤ R.slots)
    (hst : stk = As.reverse ++ rest) (hcat : (rest.map fun v => v.category).sum ≤ 8) (hd : decode cc pc = .ok (.invokestatic idx, 3)) (k : WW p l e R s m args below meth c cells slots Q nL D g tb (pc + 3) lv (.ref (g.1 kd r) :: rest) M') : WW p l e R s m args below meth c cells slots Q nL D g tb pc lv stk M := by
  intro H locs ls h1 h2 h3
  subst hst
  obtain ⟨hx, hb, hml, hown, hts, hK, hT, hKS⟩ := C0
  obtain ⟨hrc, hrs⟩ := hrm
  refine va_callr (va_runS (As := As) (rest := rest) ⟨hx, hb, hml, hown, hts⟩ (hM H.size) (va_cwS n hts (x_goodS w1 w2 w4 w5) rfl hrc hrs hdd hR) ⟨x_blind, fun U hU hW => ⟨rfl, by rw [hU], by rw [hU]; exact h1, va_K.moved hW.alike hK, x_KS.kept hKS h2 hU hW⟩⟩ rfl hn h3.1 rfl (lv_room hcat) hd ⟨hfc, hfs⟩) h2 (fun q _ hq => x_Aup h2.1 q hq) (fun q hq => x_Aup h2.1 q hq) ?_
  rintro u ra t H1 locs1 ht hvm - hB hz1 hk1 hS1
  obtain ⟨rfl, hB⟩ := hB
  exact k H1 locs1 ls (ht ▸ hB.1) hS1 h3
end XE
/-! what the mirrors are made of -/
def gd {α : Type} (c : Bool) (x : Option α) : Option α := match c with
  | true => x
  | false => none
theorem gd_e {α : Type} {c : Bool} {x : Option α} {r : α} (h : gd c x = some r) : c = true ∧ x = some r := by
  cases c
  · cases h
  · exact ⟨rfl, h⟩
theorem gd_t {α : Type} {c : Bool} {x : Option α} (h : c = true) : gd c x = x := by rw [h]; rfl
def bd {α β : Type} (o : Option α) (f : α → Option β) : Option β := match o with
  | some a => f a
  | none => none
theorem bd_e {α β : Type} {o : Option α} {f : α → Option β} {r : β} (h : bd o f = some r) : ∃ a, o = some a ∧ f a = some r := by
  cases o with
  | none => cases h
  | some a => exact ⟨a, rfl, h⟩
theorem bd_s {α β : Type} {o : Option α} {f : α → Option β} {a : α} (h : o = some a) : bd o f = f a := by rw [h]; rfl
def bd2 {α γ β : Type} (o : Option (α × γ)) (f : α → γ → Option β) : Option β := match o with
  | some q => f q.1 q.2
  | none => none
theorem bd2_e {α γ β : Type} {o : Option (α × γ)} {f : α → γ → Option β} {r : β} (h : bd2 o f = some r) : ∃ a b, o = some (a, b) ∧ f a b = some r := by
  cases o with
  | none => cases h
  | some q => exact ⟨q.1, q.2, rfl, h⟩
theorem bd2_s {α γ β : Type} {o : Option (α × γ)} {f : α → γ → Option β} {a : α} {b : γ} (h : o = some (a, b)) : bd2 o f = f a b := by rw [h]; rfl
theorem ie_t {α : Sort _} {c : Prop} [Decidable c] {a b r : α} (h : (if c then a else b) = r) (hc : c) : a = r := (if_pos hc).symm.trans h
theorem ie_f {α : Sort _} {c : Prop} [Decidable c] {a b r : α} (h : (if c then a else b) = r) (hc : ¬ c) : b = r := (if_neg hc).symm.trans h
def inb (i : Int32) (n : Nat) : Bool := decide (0 ≤ i.toInt) && decide (i.toInt < n)
theorem inb_in {i : Int32} {n : Nat} (h : inb i n = true) : vp_in i n := by
  unfold inb at h
  simp only [Bool.and_eq_true, decide_eq_true_eq] at h
  exact vp_in_iff.mpr h
theorem inb_lt {i : Int32} {n : Nat} (h : inb i n = true) : i.toNatClampNeg < n := Nat.not_le.mp fun q => inb_in h (Or.inr q)
/-- enough rounds for every loop -/
def FU : Nat := 4096
end
section
/-! what lies in a table; starts by the kind of the answer; switches, Math -/
def x_mk (tb : List xQ) (b : Nat) : Prop := (2, b, 0) ∈ tb ∧ (10, b + 23, 6) ∈ tb ∧ (11, b + 77, 6) ∈ tb ∧ (6, b + 11, 12) ∈ tb ∧ (∀ i, i < 6 → (0, b + 23 + 9 * i, 0) ∈ tb) ∧ ∀ i, i < 6 → (1, b + 77 + 8 * i, 0) ∈ tb
def x_rd (tb : List xQ) : Prop := (3, 1777, 0) ∈ tb ∧ (7, 1792, 700) ∈ tb ∧ (6, 1787, 5) ∈ tb
def x_fb (tb : List xQ) : Prop := (4, 1664, 0) ∈ tb ∧ x_mk tb 0 ∧ x_mk tb 128 ∧ x_mk tb 256 ∧ x_rd tb ∧ (12, 384, 8) ∈ tb ∧ (12, 1408, 2) ∈ tb ∧ (8, 1675, 2) ∈ tb ∧ (7, 1677, 100) ∈ tb ∧ (∀ i, i < 8 → x_mk tb (384 + 128 * i)) ∧ ∀ i, i < 2 → x_mk tb (1408 + 128 * i)
def x_md (tb : List xQ) : Prop := (5, 2500, 0) ∈ tb ∧ (6, 2520, 125) ∈ tb ∧ (6, 2645, 125) ∈ tb ∧ (6, 2770, 125) ∈ tb ∧ (6, 2895, 1000) ∈ tb ∧ (6, 3895, 250) ∈ tb ∧ (8, 4145, 2) ∈ tb ∧ (6, 4147, 5) ∈ tb ∧ (6, 4152, 100) ∈ tb ∧ (6, 4252, 700) ∈ tb
def iabs (x : Int32) : Int32 := if 0 ≤ x then x else 0 - x
def imin (x y : Int32) : Int32 := if y < x then y else x
theorem x_startI {l : Launch} {D : va_G} {g : xG} {tb : List xQ} {M M' : xM} {y : MethodName} {cc : ByteArray} {nL : Nat} {rm : Room} {as : List Value} {own : String} {lv : List (Nat × Value)} {r : Int32}
    (hy : plainName y.cls = true) (hown' : y.cls = own) (hlv : lv_args 0 as = lv) (hln : (lg_sl as).length ≤ nL) (hT : x_T g tb)
    (body : ∀ (p : Program) (e : Env) (s : State) (m : MethodId) (args : Array Value) (below : List Frame) (meth : Method) (c : Code) (Q : State → Prop), CC p s m args c cc nL own D g tb → (∀ {pc : Nat} {lv : List (Nat × Value)} {v : Int32} {M0 : xM}, (some (v, M0) : Option (Int32 × xM)) = some (r, M') → decode cc pc = .ok (.ireturn, 1) → WW p l e rm s m args below meth c 0 0 Q nL D g tb pc lv [.int v] M0) → WW p l e rm s m args below meth c 0 0 Q nL D g tb 0 lv [] M) : cI l D g tb y cc nL .int rm as M r M' := by
  intro sz
  refine x_start hy hown' hlv hln hT ?_
  rintro p e s m below meth c rfl C0 hr hlk
  exact body p e s m _ below meth c _ C0 (fun hf hd => r_iret C0 hr hlk hf hd)
theorem x_startZ {l : Launch} {D : va_G} {g : xG} {tb : List xQ} {M M' : xM} {y : MethodName} {cc : ByteArray} {nL : Nat} {rm : Room} {as : List Value} {own : String} {lv : List (Nat × Value)} {r : Int32}
    (hy : plainName y.cls = true) (hown' : y.cls = own) (hlv : lv_args 0 as = lv) (hln : (lg_sl as).length ≤ nL) (hT : x_T g tb)
    (body : ∀ (p : Program) (e : Env) (s : State) (m : MethodId) (args : Array Value) (below : List Frame) (meth : Method) (c : Code) (Q : State → Prop), CC p s m args c cc nL own D g tb → (∀ {pc : Nat} {lv : List (Nat × Value)} {v : Int32} {M0 : xM}, isb v = true → (some (v, M0) : Option (Int32 × xM)) = some (r, M') → decode cc pc = .ok (.ireturn, 1) → WW p l e rm s m args below meth c 0 0 Q nL D g tb pc lv [.int v] M0) → WW p l e rm s m args below meth c 0 0 Q nL D g tb 0 lv [] M) : cI l D g tb y cc nL .boolean rm as M r M' := by
  intro sz
  refine x_start hy hown' hlv hln hT ?_
  rintro p e s m below meth c rfl C0 hr hlk
  exact body p e s m _ below meth c _ C0 (fun hz hf hd => r_zret C0 hr hlk hz hf hd)
theorem x_startV {l : Launch} {D : va_G} {g : xG} {tb : List xQ} {M M' : xM} {y : MethodName} {cc : ByteArray} {nL : Nat} {rm : Room} {as : List Value} {own : String} {lv : List (Nat × Value)}
    (hy : plainName y.cls = true) (hown' : y.cls = own) (hlv : lv_args 0 as = lv) (hln : (lg_sl as).length ≤ nL) (hT : x_T g tb)
    (body : ∀ (p : Program) (e : Env) (s : State) (m : MethodId) (args : Array Value) (below : List Frame) (meth : Method) (c : Code) (Q : State → Prop), CC p s m args c cc nL own D g tb → (∀ {pc : Nat} {lv : List (Nat × Value)} {M0 : xM}, (some M0 : Option xM) = some M' → decode cc pc = .ok (.return_, 1) → WW p l e rm s m args below meth c 0 0 Q nL D g tb pc lv [] M0) → WW p l e rm s m args below meth c 0 0 Q nL D g tb 0 lv [] M) : cV l D g tb y cc nL rm as M M' := by
  intro sz
  refine x_start hy hown' hlv hln hT ?_
  rintro p e s m below meth c rfl C0 hr hlk
  exact body p e s m _ below meth c _ C0 (fun hf hd => r_vret C0 hr hlk hf hd)
section XS
variable {p : Program} {l : Launch} {e : Env} {R : Room} {s : State} {m : MethodId} {args : Array Value} {below : List Frame} {meth : Method} {c : Code} {cells slots : Nat} {Q : State → Prop}
variable {cc : ByteArray} {nL : Nat} {own : String} {D : va_G} {g : xG} {tb : List xQ} {pc : Nat} {lv : List (Nat × Value)} {st : List Value} {M : xM}
theorem r_tsc (C0 : CC p s m args c cc nL own D g tb) {dflt lo hi : Int} {offs : Array Int} {len : Nat} {x : Int32} {cst : Int32} {off : Int} {tgt : Nat} (hq : x = cst) (h1 : ¬ cst.toInt < lo) (h2 : ¬ hi < cst.toInt) (ho : offs[(cst.toInt - lo).toNat]? = some off) (ht : (pc : Int) + off = (tgt : Int)) (hd : decode cc pc = .ok (.tableswitch dflt lo hi offs, len)) (k : WW p l e R s m args below meth c cells slots Q nL D g tb tgt lv st M) : WW p l e R s m args below meth c cells slots Q nL D g tb pc lv (.int x :: st) M := by
  subst hq
  exact fun H locs ls h4 h5 h6 => lv_tableIn C0.1 C0.2.1 hd h1 h2 ho ht (k H locs ls h4 h5 h6)
theorem r_tsd (C0 : CC p s m args c cc nL own D g tb) {dflt lo hi : Int} {offs : Array Int} {len : Nat} {x : Int32} {tgt : Nat} (h : x.toInt < lo ∨ hi < x.toInt) (ht : (pc : Int) + dflt = (tgt : Int)) (hd : decode cc pc = .ok (.tableswitch dflt lo hi offs, len)) (k : WW p l e R s m args below meth c cells slots Q nL D g tb tgt lv st M) : WW p l e R s m args below meth c cells slots Q nL D g tb pc lv (.int x :: st) M :=
  fun H locs ls h4 h5 h6 => lv_tableOut C0.1 C0.2.1 hd h ht (k H locs ls h4 h5 h6)
theorem r_abs (C0 : CC p s m args c cc nL own D g tb) {idx : Nat} {x : Int32} (w1 : Cond.methodLink own idx Lib.Math.abs.name ∈ xA) (w2 : Cond.static Lib.Math.abs.name ∈ xA) (w3 : Cond.initialized "java/lang/Math" ∈ xA) (w4 : Cond.code Lib.Math.abs.name Lib.Math.abs.code 1 (some .int) ∈ xA) (hfr : 1 ≤ R.frames) (hlo : (st.map fun v => v.category).sum + 13 ≤ R.locals) (hc : cells ≤ R.cells) (hs : slots ≤ R.slots) (hd : decode cc pc = .ok (.invokestatic idx, 3)) (k : WW p l e R s m args below meth c cells slots Q nL D g tb (pc + 3) lv (.int (iabs x) :: st) M) : WW p l e R s m args below meth c cells slots Q nL D g tb pc lv (.int x :: st) M :=
  fun H locs ls h4 h5 h6 => va_mabs C0.1 C0.2.1 (C0.2.2.1.trans h6.1.symm) C0.2.2.2.1 (C0.2.2.2.2.1 _ w1) (C0.2.2.2.2.1 _ w2) (C0.2.2.2.2.1 _ w3) (C0.2.2.2.2.1 _ w4) hfr hlo hc hs hd (k H locs ls h4 h5 h6)
theorem r_min (C0 : CC p s m args c cc nL own D g tb) {idx : Nat} {x y : Int32} (w1 : Cond.methodLink own idx Lib.Math.min.name ∈ xA) (w2 : Cond.static Lib.Math.min.name ∈ xA) (w3 : Cond.initialized "java/lang/Math" ∈ xA) (w4 : Cond.code Lib.Math.min.name Lib.Math.min.code 2 (some .int) ∈ xA) (hfr : 1 ≤ R.frames) (hlo : (st.map fun v => v.category).sum + 13 ≤ R.locals) (hc : cells ≤ R.cells) (hs : slots ≤ R.slots) (hd : decode cc pc = .ok (.invokestatic idx, 3)) (k : WW p l e R s m args below meth c cells slots Q nL D g tb (pc + 3) lv (.int (imin x y) :: st) M) : WW p l e R s m args below meth c cells slots Q nL D g tb pc lv (.int y :: .int x :: st) M :=
  fun H locs ls h4 h5 h6 => va_mmin C0.1 C0.2.1 (C0.2.2.1.trans h6.1.symm) C0.2.2.2.1 (C0.2.2.2.2.1 _ w1) (C0.2.2.2.2.1 _ w2) (C0.2.2.2.2.1 _ w3) (C0.2.2.2.2.1 _ w4) hfr hlo hc hs hd (k H locs ls h4 h5 h6)
end XS
theorem isb_fit {v : Int32} (h : isb v = true) : fits .boolean (.int v) = true := by
  unfold isb at h
  simp only [Bool.or_eq_true, beq_iff_eq] at h
  rcases h with rfl | rfl <;> rfl
def lp {α : Type} (z : α) (F : α → α) : Nat → α
  | 0 => z
  | n + 1 => F (lp z F n)
theorem lp_ind {α : Type} {z : α} {F : α → α} {P : α → Prop} (hz : P z) (hs : ∀ f, P f → P (F f)) : ∀ n, P (lp z F n)
  | 0 => hz
  | n + 1 => hs _ (lp_ind hz hs n)
section XT
variable {p : Program} {l : Launch} {e : Env} {R : Room} {s : State} {m : MethodId} {args : Array Value} {below : List Frame} {meth : Method} {c : Code} {cells slots : Nat} {Q : State → Prop}
variable {cc : ByteArray} {nL : Nat} {own : String} {D : va_G} {g : xG} {tb : List xQ} {pc : Nat} {lv : List (Nat × Value)} {st : List Value} {M : xM}
theorem r_ialdc (C0 : CC p s m args c cc nL own D g tb) {b n z : Nat} {i : Int32} (hq : (6, b, n) ∈ tb) (hin : inb i n = true) (hz : b + i.toNatClampNeg = z) (hd : decode cc pc = .ok (.iaload, 1)) (k : WW p l e R s m args below meth c cells slots Q nL D g tb (pc + 1) lv (.int (M z) :: st) M) : WW p l e R s m args below meth c cells slots Q nL D g tb pc lv (.int i :: .ref (g.1 6 b) :: st) M :=
  r_iald C0 hq (inb_in hin) hd (by rw [hz]; exact k)
theorem r_iastc (C0 : CC p s m args c cc nL own D g tb) {b n z : Nat} {i x : Int32} (hq : (6, b, n) ∈ tb) (hin : inb i n = true) (hz : b + i.toNatClampNeg = z) (hd : decode cc pc = .ok (.iastore, 1)) (k : WW p l e R s m args below meth c cells slots Q nL D g tb (pc + 1) lv st (upd M z x)) : WW p l e R s m args below meth c cells slots Q nL D g tb pc lv (.int x :: .int i :: .ref (g.1 6 b) :: st) M :=
  r_iast C0 hq (inb_in hin) hd (by rw [hz]; exact k)
theorem r_baldc (C0 : CC p s m args c cc nL own D g tb) {b n z : Nat} {i : Int32} (hq : (7, b, n) ∈ tb) (hin : inb i n = true) (hz : b + i.toNatClampNeg = z) (hd : decode cc pc = .ok (.baload, 1)) (k : WW p l e R s m args below meth c cells slots Q nL D g tb (pc + 1) lv (.int (M z) :: st) M) : WW p l e R s m args below meth c cells slots Q nL D g tb pc lv (.int i :: .ref (g.1 7 b) :: st) M :=
  r_bald C0 hq (inb_in hin) hd (by rw [hz]; exact k)
theorem r_bastc (C0 : CC p s m args c cc nL own D g tb) {b n z : Nat} {i x : Int32} (hq : (7, b, n) ∈ tb) (hin : inb i n = true) (hz : b + i.toNatClampNeg = z) (hd : decode cc pc = .ok (.bastore, 1)) (k : WW p l e R s m args below meth c cells slots Q nL D g tb (pc + 1) lv st (upd M z (vp_nar .byte x))) : WW p l e R s m args below meth c cells slots Q nL D g tb pc lv (.int x :: .int i :: .ref (g.1 7 b) :: st) M :=
  r_bast C0 hq (inb_in hin) hd (by rw [hz]; exact k)
theorem r_zaldc (C0 : CC p s m args c cc nL own D g tb) {b n z : Nat} {i : Int32} (hq : (8, b, n) ∈ tb) (hin : inb i n = true) (hz : b + i.toNatClampNeg = z) (hd : decode cc pc = .ok (.baload, 1)) (k : WW p l e R s m args below meth c cells slots Q nL D g tb (pc + 1) lv (.int (M z) :: st) M) : WW p l e R s m args below meth c cells slots Q nL D g tb pc lv (.int i :: .ref (g.1 8 b) :: st) M :=
  r_zald C0 hq (inb_in hin) hd (by rw [hz]; exact k)
theorem r_zastc (C0 : CC p s m args c cc nL own D g tb) {b n z : Nat} {i x : Int32} (hq : (8, b, n) ∈ tb) (hin : inb i n = true) (hz : b + i.toNatClampNeg = z) (hd : decode cc pc = .ok (.bastore, 1)) (k : WW p l e R s m args below meth c cells slots Q nL D g tb (pc + 1) lv st (upd M z (vp_nar .boolean x))) : WW p l e R s m args below meth c cells slots Q nL D g tb pc lv (.int x :: .int i :: .ref (g.1 8 b) :: st) M :=
  r_zast C0 hq (inb_in hin) hd (by rw [hz]; exact k)
theorem r_iincc (C0 : CC p s m args c cc nL own D g tb) {i : Nat} {n : Int} {x k0 : Int32} {lv2 : List (Nat × Value)} (j : Nat) (hj : lv[j]? = some (i, .int x)) (hv : Int32.ofInt n = k0) (hn : i < nL) (hl : (i, Value.int (x + k0)) :: lv.filter (fun q => !(q.1 == i) && !(q.1 + 1 == i && q.2.category == 2)) = lv2) (hd : decode cc pc = .ok (.iinc i n, 3)) (k : WW p l e R s m args below meth c cells slots Q nL D g tb (pc + 3) lv2 st M) : WW p l e R s m args below meth c cells slots Q nL D g tb pc lv st M :=
  r_iinc C0 j hj (by rw [hv]) hn hl hd k
end XT
end
section
abbrev x_nms : List String := ["java/lang/RuntimeException", "java/lang/Exception"]
def x_tk (k ik ic : Nat) : Prop := Bundle.fit (x_ex k) = true ∧ Cond.classLink RX6 ik (x_ex k) ∈ xA ∧ Cond.initialized (x_ex k) ∈ xA ∧ (∀ w ∈ (vx_atS RX6 ic (x_ex k) x_nms).filter goodWord, w ∈ xA) ∧ (∀ w ∈ (vx_atS RX6 ic (x_ex k) x_nms).filter (fun w => !goodWord w), w ∈ x_dw) ∧ ∀ w ∈ Cond.classLink RX6 ik (x_ex k) :: Cond.initialized (x_ex k) :: vx_atS RX6 ic (x_ex k) x_nms, vx_ot w = true
set_option maxRecDepth 100000 in
theorem x_tk1 : x_tk 1 206 210 := ⟨by decide +kernel, w4_48, w1_18, fun w h => List.mem_filter.mpr ⟨(by decide +kernel : ∀ w ∈ (vx_atS RX6 210 (x_ex 1) x_nms).filter goodWord, w ∈ lw_tbl) w h, (List.mem_filter.mp h).2⟩, by decide +kernel, by decide +kernel⟩
set_option maxRecDepth 100000 in
theorem x_tk2 : x_tk 2 200 204 := ⟨by decide +kernel, w4_133, w1_19, fun w h => List.mem_filter.mpr ⟨(by decide +kernel : ∀ w ∈ (vx_atS RX6 204 (x_ex 2) x_nms).filter goodWord, w ∈ lw_tbl) w h, (List.mem_filter.mp h).2⟩, by decide +kernel, by decide +kernel⟩
set_option maxRecDepth 100000 in
theorem x_tk3 : x_tk 3 279 283 := ⟨by decide +kernel, w5_104, w1_20, fun w h => List.mem_filter.mpr ⟨(by decide +kernel : ∀ w ∈ (vx_atS RX6 283 (x_ex 3) x_nms).filter goodWord, w ∈ lw_tbl) w h, (List.mem_filter.mp h).2⟩, by decide +kernel, by decide +kernel⟩
end
section
/-! methods that throw: 0 is a return; 1 IllegalArgument, 2 IndexOutOfBounds, 3 IllegalState, 4 NoSuchElement -/
def tX (D : va_G) (g : xG) (tb : List xQ) (k : Nat) (M : xM) (sz : Nat) : String → State → State → Prop := vx_X (fun (_ : Unit) => ¬ k = 0) (fun E _ t => E = x_ex k ∧ x_H D g tb M t.heap) (x_A g tb sz)
def tI (l : Launch) (D : va_G) (g : xG) (tb : List xQ) (y : MethodName) (cc : ByteArray) (nL : Nat) (ret : FieldType) (rm : Room) (mc : Nat) (as : List Value) (M : xM) (k : Nat) (r : Int32) (M' : xM) : Prop :=
  ∀ sz, vx_Met l y (ws_ y cc nL (some ret)) rm (va_Pc as (fun U => U.heap.size = sz ∧ x_B D g tb M U)) (va_Qi (fun r' (_ : Unit) => k = 0 ∧ r' = r) (fun _ t => x_B D g tb M' t) (x_A g tb sz)) (tX D g tb k M' sz) mc (6 * mc) (x_A g tb sz)
def tV (l : Launch) (D : va_G) (g : xG) (tb : List xQ) (y : MethodName) (cc : ByteArray) (nL : Nat) (rm : Room) (mc : Nat) (as : List Value) (M : xM) (k : Nat) (M' : xM) : Prop :=
  ∀ sz, vx_Met l y (ws_ y cc nL none) rm (va_Pc as (fun U => U.heap.size = sz ∧ x_B D g tb M U)) (va_Qv (fun (_ : Unit) => k = 0) (fun _ t => x_B D g tb M' t) (x_A g tb sz)) (tX D g tb k M' sz) mc (6 * mc) (x_A g tb sz)
def tR (l : Launch) (D : va_G) (g : xG) (tb : List xQ) (y : MethodName) (cc : ByteArray) (nL : Nat) (ret : FieldType) (kd : Nat) (rm : Room) (mc : Nat) (as : List Value) (M : xM) (k r : Nat) (M' : xM) : Prop :=
  ∀ sz, vx_Met l y (ws_ y cc nL (some ret)) rm (va_Pc as (fun U => U.heap.size = sz ∧ x_B D g tb M U)) (va_Qr (fun (_ : Unit) => k = 0 ∧ ((kd, r, 0) : xQ) ∈ tb) (fun _ a t => a = g.1 kd r ∧ x_B D g tb M' t) (x_A g tb sz)) (tX D g tb k M' sz) mc (6 * mc) (x_A g tb sz)
theorem x_tstart {l : Launch} {D : va_G} {g : xG} {tb : List xQ} {M : xM} {y : MethodName} {cc : ByteArray} {nL : Nat} {ret : Option FieldType} {rm : Room} {as : List Value} {sz : Nat} {Qc : Array Value → State → Outcome → State → Prop} {XC : String → State → State → Prop} {own : String} {lv : List (Nat × Value)} {mc ms : Nat} {free : Addr → Prop}
    (hy : plainName y.cls = true) (hown' : y.cls = own) (hlv : lv_args 0 as = lv) (hln : (lg_sl as).length ≤ nL) (hT : x_T g tb)
    (body : ∀ (p : Program) (e : Env) (s : State) (m : MethodId) (below : List Frame) (meth : Method) (c : Code), s.heap.size = sz → CC p s m as.toArray c cc nL own D g tb → meth.sig.returnType = ret → meth.locks = false → (∀ x ∈ c.exceptionTable.toList, False) → WW p l e rm s m as.toArray below meth c 0 0 (vx_MQ below Qc XC as.toArray s mc ms free) nL D g tb 0 lv [] M) :
    vx_Met l y (ws_ y cc nL ret) rm (va_Pc as (fun U => U.heap.size = sz ∧ x_B D g tb M U)) Qc XC mc ms free := by
  refine vx_ofW (cc := cc) (maxL := nL) (ret := ret) hy rfl ?_
  intro p e s m args below meth c s₁ B hml htab hv
  obtain ⟨rfl, hsz, hP, hK, hKS⟩ := hv
  have hts0 := atoms_spec (ws := ws_ y cc nL ret) B.pre
  have hts : ∀ w ∈ xA, w.before as.toArray s = true := fun w h => hts0 w (List.mem_cons_of_mem _ h)
  have hown : s.vm.findClass own = some m.cls := by rw [← hown']; exact findClass_of_methodNamed B.named
  have hl := lv_entry as (n := nL) hln
  rw [lg_entry_eq]
  rw [hlv] at hl
  exact body p e s m below meth c hsz ⟨B.exec, B.bytes, hml, hown, hts, hK, hT, hKS⟩ B.returns B.notSynchronized htab s.heap [] _ hP va_S.rf hl
section XU
variable {p : Program} {l : Launch} {e : Env} {R : Room} {s : State} {m : MethodId} {args : Array Value} {below : List Frame} {meth : Method} {c : Code} {cells slots : Nat} {Q : State → Prop}
variable {cc : ByteArray} {nL : Nat} {own : String} {D : va_G} {g : xG} {tb : List xQ} {pc : Nat} {lv : List (Nat × Value)} {st : List Value} {M : xM}
theorem WW.widen {k n : Nat} (h1 : cells ≤ k) (h2 : slots ≤ n) (kk : WW p l e R s m args below meth c k n Q nL D g tb pc lv st M) : WW p l e R s m args below meth c cells slots Q nL D g tb pc lv st M := fun H locs ls a b d => W.widen h1 h2 (kk H locs ls a b d)
/-- it goes on to the caller -/
theorem r_out {Qc : Array Value → State → Outcome → State → Prop} {mc ms k : Nat} {M' : xM} {H : Heap} {locs : List Loc} {ls : Array Slot} {rest : List Value} {E : String} {ce : Cell} {q : Addr} (hlk : meth.locks = false) (htab : ∀ x ∈ c.exceptionTable.toList, False) (hk : ¬ k = 0) (hE : E = x_ex k) (hH : x_H D g tb M' H) (hS : va_S (x_A g tb s.heap.size) s.heap H locs) (hc : H[q]? = some ce) (hv : ce.vm = .none) (hcl : s.vm.findClass E = some ce.cls) (h1 : cells ≤ mc) (h2 : slots ≤ ms) :
    vx_W p l e R s m args below meth c H locs cells slots (vx_MQ below Qc (tX D g tb k M' s.heap.size) args s mc ms (x_A g tb s.heap.size)) (F0 m pc ls rest) q :=
  vx_out (fun x hx => (htab x hx).elim) hlk hc hv hcl (fun t ht _ => ⟨(), hk, ⟨hE, by rw [ht]; exact hH⟩, hS.F ht⟩) hS.2.2 h1 h2
theorem r_throw (C0 : CC p s m args c cc nL own D g tb) (hlst : l.stackTraces = false) (hlk : meth.locks = false) (htab : ∀ x ∈ c.exceptionTable.toList, False) {Qc : Array Value → State → Outcome → State → Prop} {mc ms k ik ic is si : Nat} {tx : String} (hown6 : own = RX6) (hk : x_tk k ik ic) (hk0 : ¬ k = 0) (hsi : x_sl[si]? = some (own, is, tx))
    (d0 : decode cc pc = .ok (.new ik, 3)) (d3 : decode cc (pc + 3) = .ok (.dup, 1)) (d4 : decode cc (pc + 4) = .ok (.ldc is, 2)) (d6 : decode cc (pc + 6) = .ok (.invokespecial ic, 3)) (d9 : decode cc (pc + 9) = .ok (.athrow, 1))
    (hf1 : 5 < R.frames) (hl1 : (st.map fun v => v.category).sum + 82 ≤ R.locals) (hc1 : cells + 1 ≤ R.cells) (hs1 : slots + 6 ≤ R.slots) (hc : cells + 1 ≤ mc) (hs : slots + 6 ≤ ms) :
    WW p l e R s m args below meth c cells slots (vx_MQ below Qc (tX D g tb k M s.heap.size) args s mc ms (x_A g tb s.heap.size)) nL D g tb pc lv st M := by
  intro H locs ls h1 h2 h3
  subst hown6
  obtain ⟨hx, hb, hml, hown, hts, hK, hT, k1, k2, k3, k4, kU, kN, -⟩ := C0
  obtain ⟨t1, t2, t3, t4, t5, t6⟩ := hk
  refine vx_throwS (own := RX6) (cls := x_ex k) (names := x_nms) (ik := ik) (is := is) (ic := ic) (A := x_A g tb s.heap.size) hx hb hlst hown t1 (by decide +kernel) (hts _ t2) (hts _ t3) (k3 si _ hsi) ?_ t6 kU kN h2 (h3.1.trans hml.symm) d0 d3 d4 d6 d9 (fun x hx => (htab x hx).elim) hf1 hl1 hc1 hs1 hlk ?_ h2.2.2 hc hs
  · exact vx_hat (fun w hw => hts w (t4 w hw)) t5 (fun w hw => (k1 w hw).use (by
      simp only [x_dw, List.mem_cons, List.not_mem_nil, or_false] at hw
      rcases hw with rfl | rfl | rfl | rfl | rfl | rfl | rfl | rfl | rfl | rfl | rfl
      all_goals rfl))
  · intro t ha hz hq
    refine ⟨(), hk0, ⟨rfl, va_P.kept h1 (fun k q hk => hq q.1 (h1 k q hk).lt)⟩, ?_⟩
    exact ⟨Nat.le_trans h2.1 hz, fun q a b => (hq q (Nat.lt_of_lt_of_le a h2.1)).trans (h2.2.1 q a b)⟩
theorem r_throww (C0 : CC p s m args c cc nL own D g tb) (hlst : l.stackTraces = false) (hlk : meth.locks = false) (htab : ∀ x ∈ c.exceptionTable.toList, False) {Qc : Array Value → State → Outcome → State → Prop} {mc ms k ik ic is si : Nat} {tx : String} (hown6 : own = RX6) (hk : x_tk k ik ic) (hk0 : ¬ k = 0) (hsi : x_sl[si]? = some (own, is, tx))
    (d0 : decode cc pc = .ok (.new ik, 3)) (d3 : decode cc (pc + 3) = .ok (.dup, 1)) (d4 : decode cc (pc + 4) = .ok (.ldc_w is, 3)) (d6 : decode cc (pc + 7) = .ok (.invokespecial ic, 3)) (d9 : decode cc (pc + 10) = .ok (.athrow, 1))
    (hf1 : 5 < R.frames) (hl1 : (st.map fun v => v.category).sum + 82 ≤ R.locals) (hc1 : cells + 1 ≤ R.cells) (hs1 : slots + 6 ≤ R.slots) (hc : cells + 1 ≤ mc) (hs : slots + 6 ≤ ms) :
    WW p l e R s m args below meth c cells slots (vx_MQ below Qc (tX D g tb k M s.heap.size) args s mc ms (x_A g tb s.heap.size)) nL D g tb pc lv st M := by
  intro H locs ls h1 h2 h3
  subst hown6
  obtain ⟨hx, hb, hml, hown, hts, hK, hT, k1, k2, k3, k4, kU, kN, -⟩ := C0
  obtain ⟨t1, t2, t3, t4, t5, t6⟩ := hk
  refine vx_throwSW (own := RX6) (cls := x_ex k) (names := x_nms) (ik := ik) (is := is) (ic := ic) (A := x_A g tb s.heap.size) hx hb hlst hown t1 (by decide +kernel) (hts _ t2) (hts _ t3) (k3 si _ hsi) ?_ t6 kU kN h2 (h3.1.trans hml.symm) d0 d3 d4 d6 d9 (fun x hx => (htab x hx).elim) hf1 hl1 hc1 hs1 hlk ?_ h2.2.2 hc hs
  · exact vx_hat (fun w hw => hts w (t4 w hw)) t5 (fun w hw => (k1 w hw).use (by
      simp only [x_dw, List.mem_cons, List.not_mem_nil, or_false] at hw
      rcases hw with rfl | rfl | rfl | rfl | rfl | rfl | rfl | rfl | rfl | rfl | rfl
      all_goals rfl))
  · intro t ha hz hq
    refine ⟨(), hk0, ⟨rfl, va_P.kept h1 (fun k q hk => hq q.1 (h1 k q hk).lt)⟩, ?_⟩
    exact ⟨Nat.le_trans h2.1 hz, fun q a b => (hq q (Nat.lt_of_lt_of_le a h2.1)).trans (h2.2.1 q a b)⟩
end XU
theorem x_tstartI {l : Launch} {D : va_G} {g : xG} {tb : List xQ} {M M' : xM} {y : MethodName} {cc : ByteArray} {nL mc : Nat} {rm : Room} {as : List Value} {own : String} {lv : List (Nat × Value)} {k : Nat} {r : Int32}
    (hy : plainName y.cls = true) (hown' : y.cls = own) (hlv : lv_args 0 as = lv) (hln : (lg_sl as).length ≤ nL) (hT : x_T g tb)
    (body : ∀ (p : Program) (e : Env) (s : State) (m : MethodId) (args : Array Value) (below : List Frame) (meth : Method) (c : Code) (Q : State → Prop), CC p s m args c cc nL own D g tb →
      (∀ {pc : Nat} {lv : List (Nat × Value)} {cells slots : Nat} {v : Int32} {M0 : xM}, cells ≤ mc → slots ≤ 6 * mc → (some (0, v, M0) : Option (Nat × Int32 × xM)) = some (k, r, M') → decode cc pc = .ok (.ireturn, 1) → WW p l e rm s m args below meth c cells slots Q nL D g tb pc lv [.int v] M0) →
      (∀ {pc : Nat} {H : Heap} {locs : List Loc} {ls : Array Slot} {rest : List Value} {E : String} {ce : Cell} {q : Addr} {k0 cells slots : Nat} {M0 : xM}, cells ≤ mc → slots ≤ 6 * mc → ¬ k0 = 0 → E = x_ex k0 → x_H D g tb M0 H → va_S (x_A g tb s.heap.size) s.heap H locs → H[q]? = some ce → ce.vm = .none → s.vm.findClass E = some ce.cls → (some (k0, (0 : Int32), M0) : Option (Nat × Int32 × xM)) = some (k, r, M') → vx_W p l e rm s m args below meth c H locs cells slots Q (F0 m pc ls rest) q) →
      (∀ {pc ik ic is si k0 cells slots : Nat} {lv : List (Nat × Value)} {st : List Value} {tx : String} {M0 : xM}, l.stackTraces = false → own = RX6 → x_tk k0 ik ic → ¬ k0 = 0 → x_sl[si]? = some (own, is, tx) → decode cc pc = .ok (.new ik, 3) → decode cc (pc + 3) = .ok (.dup, 1) → ((decode cc (pc + 4) = .ok (.ldc is, 2) ∧ decode cc (pc + 6) = .ok (.invokespecial ic, 3) ∧ decode cc (pc + 9) = .ok (.athrow, 1)) ∨ (decode cc (pc + 4) = .ok (.ldc_w is, 3) ∧ decode cc (pc + 7) = .ok (.invokespecial ic, 3) ∧ decode cc (pc + 10) = .ok (.athrow, 1))) →
        5 < rm.frames → (st.map fun v => v.category).sum + 82 ≤ rm.locals → cells + 1 ≤ rm.cells → slots + 6 ≤ rm.slots → cells + 1 ≤ mc → slots + 6 ≤ 6 * mc → (some (k0, (0 : Int32), M0) : Option (Nat × Int32 × xM)) = some (k, r, M') → WW p l e rm s m args below meth c cells slots Q nL D g tb pc lv st M0) →
      WW p l e rm s m args below meth c 0 0 Q nL D g tb 0 lv [] M) : tI l D g tb y cc nL .int rm mc as M k r M' := by
  intro sz
  refine x_tstart hy hown' hlv hln hT ?_
  rintro p e s m below meth c rfl C0 hr hlk htab
  refine body p e s m _ below meth c _ C0 ?_ ?_ ?_
  · intro pc lv cells slots v M0 a1 a2 hf hd
    cases hf
    exact fun H locs ls h1 h2 h3 => W.widen a1 a2 (vx_ret (W.iret C0.1 C0.2.1 hr (fun t ht hW => ⟨⟨_, (), rfl, ⟨rfl, rfl⟩, x_Bend C0 h1 h2 ht hW⟩, h2.F ht⟩) h2.2.2 hd hlk))
  · intro pc H locs ls rest E ce q k0 cells slots M0 a1 a2 a3 a4 a5 a6 a7 a8 a9 hf
    cases hf
    exact r_out hlk htab a3 a4 a5 a6 a7 a8 a9 a1 a2
  · intro pc ik ic is si k0 cells slots lv st tx M0 b1 b2 b3 b4 b5 d0 d3 dd c1 c2 c3 c4 c5 c6 hf
    cases hf
    rcases dd with ⟨d4, d6, d9⟩ | ⟨d4, d6, d9⟩
    · exact r_throw C0 b1 hlk htab b2 b3 b4 b5 d0 d3 d4 d6 d9 c1 c2 c3 c4 c5 c6
    · exact r_throww C0 b1 hlk htab b2 b3 b4 b5 d0 d3 d4 d6 d9 c1 c2 c3 c4 c5 c6
theorem x_tstartV {l : Launch} {D : va_G} {g : xG} {tb : List xQ} {M M' : xM} {y : MethodName} {cc : ByteArray} {nL mc : Nat} {rm : Room} {as : List Value} {own : String} {lv : List (Nat × Value)} {k : Nat} {r : Unit}
    (hy : plainName y.cls = true) (hown' : y.cls = own) (hlv : lv_args 0 as = lv) (hln : (lg_sl as).length ≤ nL) (hT : x_T g tb)
    (body : ∀ (p : Program) (e : Env) (s : State) (m : MethodId) (args : Array Value) (below : List Frame) (meth : Method) (c : Code) (Q : State → Prop), CC p s m args c cc nL own D g tb →
      (∀ {pc : Nat} {lv : List (Nat × Value)} {cells slots : Nat} {M0 : xM}, cells ≤ mc → slots ≤ 6 * mc → (some (0, (), M0) : Option (Nat × Unit × xM)) = some (k, r, M') → decode cc pc = .ok (.return_, 1) → WW p l e rm s m args below meth c cells slots Q nL D g tb pc lv [] M0) →
      (∀ {pc : Nat} {H : Heap} {locs : List Loc} {ls : Array Slot} {rest : List Value} {E : String} {ce : Cell} {q : Addr} {k0 cells slots : Nat} {M0 : xM}, cells ≤ mc → slots ≤ 6 * mc → ¬ k0 = 0 → E = x_ex k0 → x_H D g tb M0 H → va_S (x_A g tb s.heap.size) s.heap H locs → H[q]? = some ce → ce.vm = .none → s.vm.findClass E = some ce.cls → (some (k0, (), M0) : Option (Nat × Unit × xM)) = some (k, r, M') → vx_W p l e rm s m args below meth c H locs cells slots Q (F0 m pc ls rest) q) →
      (∀ {pc ik ic is si k0 cells slots : Nat} {lv : List (Nat × Value)} {st : List Value} {tx : String} {M0 : xM}, l.stackTraces = false → own = RX6 → x_tk k0 ik ic → ¬ k0 = 0 → x_sl[si]? = some (own, is, tx) → decode cc pc = .ok (.new ik, 3) → decode cc (pc + 3) = .ok (.dup, 1) → ((decode cc (pc + 4) = .ok (.ldc is, 2) ∧ decode cc (pc + 6) = .ok (.invokespecial ic, 3) ∧ decode cc (pc + 9) = .ok (.athrow, 1)) ∨ (decode cc (pc + 4) = .ok (.ldc_w is, 3) ∧ decode cc (pc + 7) = .ok (.invokespecial ic, 3) ∧ decode cc (pc + 10) = .ok (.athrow, 1))) →
        5 < rm.frames → (st.map fun v => v.category).sum + 82 ≤ rm.locals → cells + 1 ≤ rm.cells → slots + 6 ≤ rm.slots → cells + 1 ≤ mc → slots + 6 ≤ 6 * mc → (some (k0, (), M0) : Option (Nat × Unit × xM)) = some (k, r, M') → WW p l e rm s m args below meth c cells slots Q nL D g tb pc lv st M0) →
      WW p l e rm s m args below meth c 0 0 Q nL D g tb 0 lv [] M) : tV l D g tb y cc nL rm mc as M k M' := by
  intro sz
  refine x_tstart hy hown' hlv hln hT ?_
  rintro p e s m below meth c rfl C0 hr hlk htab
  refine body p e s m _ below meth c _ C0 ?_ ?_ ?_
  · intro pc lv cells slots M0 a1 a2 hf hd
    cases hf
    exact fun H locs ls h1 h2 h3 => W.widen a1 a2 (vx_ret (W.vret C0.1 C0.2.1 hr (fun t ht hW => ⟨⟨(), rfl, rfl, x_Bend C0 h1 h2 ht hW⟩, h2.F ht⟩) h2.2.2 hd hlk))
  · intro pc H locs ls rest E ce q k0 cells slots M0 a1 a2 a3 a4 a5 a6 a7 a8 a9 hf
    cases hf
    exact r_out hlk htab a3 a4 a5 a6 a7 a8 a9 a1 a2
  · intro pc ik ic is si k0 cells slots lv st tx M0 b1 b2 b3 b4 b5 d0 d3 dd c1 c2 c3 c4 c5 c6 hf
    cases hf
    rcases dd with ⟨d4, d6, d9⟩ | ⟨d4, d6, d9⟩
    · exact r_throw C0 b1 hlk htab b2 b3 b4 b5 d0 d3 d4 d6 d9 c1 c2 c3 c4 c5 c6
    · exact r_throww C0 b1 hlk htab b2 b3 b4 b5 d0 d3 d4 d6 d9 c1 c2 c3 c4 c5 c6
theorem x_tstartR {l : Launch} {D : va_G} {g : xG} {tb : List xQ} {M M' : xM} {y : MethodName} {cc : ByteArray} {nL mc : Nat} {rm : Room} {as : List Value} {own : String} {lv : List (Nat × Value)} {k : Nat} {r kd : Nat} {n : String}
    (hy : plainName y.cls = true) (hown' : y.cls = own) (hlv : lv_args 0 as = lv) (hln : (lg_sl as).length ≤ nL) (hT : x_T g tb)
    (body : ∀ (p : Program) (e : Env) (s : State) (m : MethodId) (args : Array Value) (below : List Frame) (meth : Method) (c : Code) (Q : State → Prop), CC p s m args c cc nL own D g tb →
      (∀ {pc : Nat} {lv : List (Nat × Value)} {cells slots : Nat} {v : Nat} {M0 : xM}, ((kd, v, 0) : xQ) ∈ tb → cells ≤ mc → slots ≤ 6 * mc → (some (0, v, M0) : Option (Nat × Nat × xM)) = some (k, r, M') → decode cc pc = .ok (.areturn, 1) → WW p l e rm s m args below meth c cells slots Q nL D g tb pc lv [.ref (g.1 kd v)] M0) →
      (∀ {pc : Nat} {H : Heap} {locs : List Loc} {ls : Array Slot} {rest : List Value} {E : String} {ce : Cell} {q : Addr} {k0 cells slots : Nat} {M0 : xM}, cells ≤ mc → slots ≤ 6 * mc → ¬ k0 = 0 → E = x_ex k0 → x_H D g tb M0 H → va_S (x_A g tb s.heap.size) s.heap H locs → H[q]? = some ce → ce.vm = .none → s.vm.findClass E = some ce.cls → (some (k0, (0 : Nat), M0) : Option (Nat × Nat × xM)) = some (k, r, M') → vx_W p l e rm s m args below meth c H locs cells slots Q (F0 m pc ls rest) q) →
      (∀ {pc ik ic is si k0 cells slots : Nat} {lv : List (Nat × Value)} {st : List Value} {tx : String} {M0 : xM}, l.stackTraces = false → own = RX6 → x_tk k0 ik ic → ¬ k0 = 0 → x_sl[si]? = some (own, is, tx) → decode cc pc = .ok (.new ik, 3) → decode cc (pc + 3) = .ok (.dup, 1) → ((decode cc (pc + 4) = .ok (.ldc is, 2) ∧ decode cc (pc + 6) = .ok (.invokespecial ic, 3) ∧ decode cc (pc + 9) = .ok (.athrow, 1)) ∨ (decode cc (pc + 4) = .ok (.ldc_w is, 3) ∧ decode cc (pc + 7) = .ok (.invokespecial ic, 3) ∧ decode cc (pc + 10) = .ok (.athrow, 1))) →
        5 < rm.frames → (st.map fun v => v.category).sum + 82 ≤ rm.locals → cells + 1 ≤ rm.cells → slots + 6 ≤ rm.slots → cells + 1 ≤ mc → slots + 6 ≤ 6 * mc → (some (k0, (0 : Nat), M0) : Option (Nat × Nat × xM)) = some (k, r, M') → WW p l e rm s m args below meth c cells slots Q nL D g tb pc lv st M0) →
      WW p l e rm s m args below meth c 0 0 Q nL D g tb 0 lv [] M) : tR l D g tb y cc nL (.object n) kd rm mc as M k r M' := by
  intro sz
  refine x_tstart hy hown' hlv hln hT ?_
  rintro p e s m below meth c rfl C0 hr hlk htab
  refine body p e s m _ below meth c _ C0 ?_ ?_ ?_
  · intro pc lv cells slots v M0 a0 a1 a2 hf hd
    cases hf
    exact fun H locs ls h1 h2 h3 => W.widen a1 a2 (vx_ret (W.aret C0.1 C0.2.1 hr (Or.inl ⟨n, rfl⟩) (Or.inr ⟨_, rfl⟩) (fun t ht hW => ⟨⟨(), _, rfl, ⟨rfl, a0⟩, rfl, x_Bend C0 h1 h2 ht hW⟩, h2.F ht⟩) h2.2.2 hd hlk))
  · intro pc H locs ls rest E ce q k0 cells slots M0 a1 a2 a3 a4 a5 a6 a7 a8 a9 hf
    cases hf
    exact r_out hlk htab a3 a4 a5 a6 a7 a8 a9 a1 a2
  · intro pc ik ic is si k0 cells slots lv st tx M0 b1 b2 b3 b4 b5 d0 d3 dd c1 c2 c3 c4 c5 c6 hf
    cases hf
    rcases dd with ⟨d4, d6, d9⟩ | ⟨d4, d6, d9⟩
    · exact r_throw C0 b1 hlk htab b2 b3 b4 b5 d0 d3 d4 d6 d9 c1 c2 c3 c4 c5 c6
    · exact r_throww C0 b1 hlk htab b2 b3 b4 b5 d0 d3 d4 d6 d9 c1 c2 c3 c4 c5 c6
section XUC
variable {p : Program} {l : Launch} {e : Env} {R : Room} {s : State} {m : MethodId} {args : Array Value} {below : List Frame} {meth : Method} {c : Code} {cells slots : Nat} {Q : State → Prop}
variable {cc : ByteArray} {nL : Nat} {own : String} {D : va_G} {g : xG} {tb : List xQ} {pc : Nat} {lv : List (Nat × Value)} {st : List Value} {M : xM}
theorem vx_callr_ {H : Heap} {locs : List Loc} {mc ms : Nat} {ls : Array Slot} {st0 rest : List Value} {A0 A1 AX : Nat → Prop} {H0 : Heap} {a : Array Value} {free : Addr → Prop} {S SX : Type} {post : S → Prop} {px : SX → Prop} {B : S → Nat → State → Prop} {BX : String → SX → State → Prop} (hr : vx_Run p l e R s m args below meth c H locs cells slots mc ms (F0 m pc ls st0) rest (va_Qr post B A1 a) (vx_X px BX AX) free) (hS : va_S A0 H0 H locs) (hA : ∀ q, q < H.size → A1 q → A0 q) (hf : ∀ q, free q → A0 q) (hAX : ∀ q, q < H.size → AX q → A0 q)
    (kx : ∀ (E : String) (ce : Cell) (q9 : Addr) (u : SX) (t : State) (H1 : Heap) (locs1 : List Loc), t.heap = H1 → s.vm.Alike t.vm → px u → BX E u t → H.size ≤ H1.size → (∀ q : Nat, q < H.size → ¬ AX q → H1[q]? = H[q]?) → va_S A0 H0 H1 locs1 → H1[q9]? = some ce → ce.vm = .none → s.vm.findClass E = some ce.cls → vx_W p l e R s m args below meth c H1 locs1 (cells + mc) (slots + ms) Q (F0 m pc ls rest) q9)
    (kk : ∀ (u : S) (ra : Nat) (t : State) (H1 : Heap) (locs1 : List Loc), t.heap = H1 → s.vm.Alike t.vm → post u → B u ra t → H.size ≤ H1.size → (∀ q : Nat, q < H.size → ¬ A1 q → H1[q]? = H[q]?) → va_S A0 H0 H1 locs1 → W p l e R s m args below meth c H1 locs1 (cells + mc) (slots + ms) Q (F0 m (pc + 3) ls (.ref ra :: rest))) : W p l e R s m args below meth c H locs cells slots Q (F0 m pc ls st0) := by
  intro T hT X
  rcases hr T hT X with ⟨v, st₀, t, T', L, h0, X', hL, e1, e2, ⟨⟨u, ra, hv, hp, hb⟩, hF⟩, st⟩ | ⟨q, st₀, t, T', L, E, ce, h0, X', hL, e1, e2, ⟨u, hp, hb, hF⟩, hce, hcv, hcl, st⟩
  · cases hv
    obtain ⟨k1, k2, k3⟩ := vx_keep h0 e1 hS hA hf hL hF
    obtain ⟨t2, a1, b1⟩ := kk u ra t T'.heap (locs ++ L) e1.symm (by rw [← e2]; exact X'.warmed.alike) hp hb k1 k2 k3 T' rfl X'
    exact ⟨t2, st t2 a1, b1⟩
  · obtain ⟨k1, k2, k3⟩ := vx_keep h0 e1 hS hAX hf hL hF
    obtain ⟨t2, a1, b1⟩ := kx E ce q u t T'.heap (locs ++ L) e1.symm (by rw [← e2]; exact X'.warmed.alike) hp hb k1 k2 k3 (by rw [e1]; exact hce) hcv hcl T' rfl X'
    exact ⟨t2, st.trans a1, b1⟩
theorem r_tcallVi (C0 : CC p s m args c cc nL own D g tb) {y : MethodName} {bytes : ByteArray} {maxL idx n mc1 k1 : Nat} {rm : Room} {As rest stk : List Value} {C : String} {a : Nat} {ret : FieldType} {r : Int32} {M' : xM}
    (hM : tI l D g tb y bytes maxL ret rm mc1 (.ref a :: As) M k1 r M') (w1 : Cond.methodLink own idx y ∈ xA) (w2 : Cond.instanceMethod y ∈ xA) (w3 : Cond.selects C y y ∈ xA) (w4 : Cond.initialized C ∈ xA) (w5 : Cond.code y bytes maxL (some ret) ∈ xA)
    (hrec : ∀ (M : xM) (H : Heap) (locs : List Loc), x_H D g tb M H → va_S (x_A g tb s.heap.size) s.heap H locs → ∃ cell : Cell, H[a]? = some cell ∧ cell.vm.isStatics = false ∧ s.vm.findClass C = some cell.cls)  (hdd : y.cls = C ∧ y.cls ≠ "java/lang/invoke/MethodHandle" ∧ y.cls ≠ "java/lang/invoke/VarHandle" ∧ (parseMethodDescriptor y.desc).map (fun d => d.parameters.length) = some n) (hn : As.length = n) (hrm : rm.cells = mc1 ∧ rm.slots = 6 * mc1) (hR : rm.frames + 1 ≤ R.frames ∧ 8 + (maxL + 11) + rm.locals ≤ R.locals) (hfc : cells + mc1 ≤ R.cells) (hfs : slots + 6 * mc1 ≤ R.slots)
    (hst : stk = As.reverse ++ .ref a :: rest) (hcat : (rest.map fun v => v.category).sum ≤ 8) (hd : decode cc pc = .ok (.invokevirtual idx, 3))
    (kx : ∀ (H1 : Heap) (locs1 : List Loc) (ls : Array Slot) (E : String) (ce : Cell) (q : Addr), ¬ k1 = 0 → E = x_ex k1 → x_H D g tb M' H1 → va_S (x_A g tb s.heap.size) s.heap H1 locs1 → lv_has ls nL lv → H1[q]? = some ce → ce.vm = .none → s.vm.findClass E = some ce.cls → vx_W p l e R s m args below meth c H1 locs1 (cells + mc1) (slots + 6 * mc1) Q (F0 m pc ls rest) q)
    (k : k1 = 0 → WW p l e R s m args below meth c (cells + mc1) (slots + 6 * mc1) Q nL D g tb (pc + 3) lv (.int r :: rest) M') : WW p l e R s m args below meth c cells slots Q nL D g tb pc lv stk M := by
  intro H locs ls h1 h2 h3
  subst hst
  obtain ⟨hx, hb, hml, hown, hts, hK, hT, hKS⟩ := C0
  obtain ⟨hrc, hrs⟩ := hrm
  refine vx_calli (vx_runV (As := As) (rest := rest) ⟨hx, hb, hml, hown, hts⟩ (hM H.size) (cwV n hts (x_goodV w1 w2 w3 w4 w5) rfl hrc hrs hdd hR) ⟨x_blind, hrec M H _ h1 h2, fun U hU hW => ⟨rfl, by rw [hU], by rw [hU]; exact h1, va_K.moved hW.alike hK, x_KS.kept hKS h2 hU hW⟩⟩ rfl hn h3.1 rfl (lv_room hcat) hd ⟨hfc, hfs⟩) h2 (fun q _ hq => x_Aup h2.1 q hq) (fun q hq => x_Aup h2.1 q hq) (fun q _ hq => x_Aup h2.1 q hq) ?_ ?_
  · rintro E ce q9 u t H1 locs1 ht hvm hk0 ⟨hE, hH⟩ hz1 hk1 hS1 hc1 hv1 hcl1
    exact kx H1 locs1 ls E ce q9 hk0 hE (ht ▸ hH) hS1 h3 hc1 hv1 hcl1
  · rintro r' u t H1 locs1 ht hvm ⟨hk0, rfl⟩ hB hz1 hk1 hS1
    exact k hk0 H1 locs1 ls (ht ▸ hB.1) hS1 h3
theorem r_tcallVv (C0 : CC p s m args c cc nL own D g tb) {y : MethodName} {bytes : ByteArray} {maxL idx n mc1 k1 : Nat} {rm : Room} {As rest stk : List Value} {C : String} {a : Nat} {M' : xM}
    (hM : tV l D g tb y bytes maxL rm mc1 (.ref a :: As) M k1 M') (w1 : Cond.methodLink own idx y ∈ xA) (w2 : Cond.instanceMethod y ∈ xA) (w3 : Cond.selects C y y ∈ xA) (w4 : Cond.initialized C ∈ xA) (w5 : Cond.code y bytes maxL none ∈ xA)
    (hrec : ∀ (M : xM) (H : Heap) (locs : List Loc), x_H D g tb M H → va_S (x_A g tb s.heap.size) s.heap H locs → ∃ cell : Cell, H[a]? = some cell ∧ cell.vm.isStatics = false ∧ s.vm.findClass C = some cell.cls)  (hdd : y.cls = C ∧ y.cls ≠ "java/lang/invoke/MethodHandle" ∧ y.cls ≠ "java/lang/invoke/VarHandle" ∧ (parseMethodDescriptor y.desc).map (fun d => d.parameters.length) = some n) (hn : As.length = n) (hrm : rm.cells = mc1 ∧ rm.slots = 6 * mc1) (hR : rm.frames + 1 ≤ R.frames ∧ 8 + (maxL + 11) + rm.locals ≤ R.locals) (hfc : cells + mc1 ≤ R.cells) (hfs : slots + 6 * mc1 ≤ R.slots)
    (hst : stk = As.reverse ++ .ref a :: rest) (hcat : (rest.map fun v => v.category).sum ≤ 8) (hd : decode cc pc = .ok (.invokevirtual idx, 3))
    (kx : ∀ (H1 : Heap) (locs1 : List Loc) (ls : Array Slot) (E : String) (ce : Cell) (q : Addr), ¬ k1 = 0 → E = x_ex k1 → x_H D g tb M' H1 → va_S (x_A g tb s.heap.size) s.heap H1 locs1 → lv_has ls nL lv → H1[q]? = some ce → ce.vm = .none → s.vm.findClass E = some ce.cls → vx_W p l e R s m args below meth c H1 locs1 (cells + mc1) (slots + 6 * mc1) Q (F0 m pc ls rest) q)
    (k : k1 = 0 → WW p l e R s m args below meth c (cells + mc1) (slots + 6 * mc1) Q nL D g tb (pc + 3) lv rest M') : WW p l e R s m args below meth c cells slots Q nL D g tb pc lv stk M := by
  intro H locs ls h1 h2 h3
  subst hst
  obtain ⟨hx, hb, hml, hown, hts, hK, hT, hKS⟩ := C0
  obtain ⟨hrc, hrs⟩ := hrm
  refine vx_callv (vx_runV (As := As) (rest := rest) ⟨hx, hb, hml, hown, hts⟩ (hM H.size) (cwV n hts (x_goodV w1 w2 w3 w4 w5) rfl hrc hrs hdd hR) ⟨x_blind, hrec M H _ h1 h2, fun U hU hW => ⟨rfl, by rw [hU], by rw [hU]; exact h1, va_K.moved hW.alike hK, x_KS.kept hKS h2 hU hW⟩⟩ rfl hn h3.1 rfl (lv_room hcat) hd ⟨hfc, hfs⟩) h2 (fun q _ hq => x_Aup h2.1 q hq) (fun q hq => x_Aup h2.1 q hq) (fun q _ hq => x_Aup h2.1 q hq) ?_ ?_
  · rintro E ce q9 u t H1 locs1 ht hvm hk0 ⟨hE, hH⟩ hz1 hk1 hS1 hc1 hv1 hcl1
    exact kx H1 locs1 ls E ce q9 hk0 hE (ht ▸ hH) hS1 h3 hc1 hv1 hcl1
  · rintro u t H1 locs1 ht hvm hk0 hB hz1 hk1 hS1
    exact k hk0 H1 locs1 ls (ht ▸ hB.1) hS1 h3
theorem r_tcallSi (C0 : CC p s m args c cc nL own D g tb) {y : MethodName} {bytes : ByteArray} {maxL idx n mc1 k1 : Nat} {rm : Room} {As rest stk : List Value} {ret : FieldType} {r : Int32} {M' : xM}
    (hM : tI l D g tb y bytes maxL ret rm mc1 (As) M k1 r M') (w1 : Cond.methodLink own idx y ∈ xA) (w2 : Cond.static y ∈ xA) (w4 : Cond.initialized y.cls ∈ xA) (w5 : Cond.code y bytes maxL (some ret) ∈ xA)
     (hdd : y.cls ≠ "java/lang/invoke/MethodHandle" ∧ y.cls ≠ "java/lang/invoke/VarHandle" ∧ (parseMethodDescriptor y.desc).map (fun d => d.parameters.length) = some n) (hn : As.length = n) (hrm : rm.cells = mc1 ∧ rm.slots = 6 * mc1) (hR : rm.frames + 1 ≤ R.frames ∧ 8 + (maxL + 11) + rm.locals ≤ R.locals) (hfc : cells + mc1 ≤ R.cells) (hfs : slots + 6 * mc1 ≤ R.slots)
    (hst : stk = As.reverse ++ rest) (hcat : (rest.map fun v => v.category).sum ≤ 8) (hd : decode cc pc = .ok (.invokestatic idx, 3))
    (kx : ∀ (H1 : Heap) (locs1 : List Loc) (ls : Array Slot) (E : String) (ce : Cell) (q : Addr), ¬ k1 = 0 → E = x_ex k1 → x_H D g tb M' H1 → va_S (x_A g tb s.heap.size) s.heap H1 locs1 → lv_has ls nL lv → H1[q]? = some ce → ce.vm = .none → s.vm.findClass E = some ce.cls → vx_W p l e R s m args below meth c H1 locs1 (cells + mc1) (slots + 6 * mc1) Q (F0 m pc ls rest) q)
    (k : k1 = 0 → WW p l e R s m args below meth c (cells + mc1) (slots + 6 * mc1) Q nL D g tb (pc + 3) lv (.int r :: rest) M') : WW p l e R s m args below meth c cells slots Q nL D g tb pc lv stk M := by
  intro H locs ls h1 h2 h3
  subst hst
  obtain ⟨hx, hb, hml, hown, hts, hK, hT, hKS⟩ := C0
  obtain ⟨hrc, hrs⟩ := hrm
  refine vx_calli (vx_runS (As := As) (rest := rest) ⟨hx, hb, hml, hown, hts⟩ (hM H.size) (va_cwS n hts (x_goodS w1 w2 w4 w5) rfl hrc hrs hdd hR) ⟨x_blind, fun U hU hW => ⟨rfl, by rw [hU], by rw [hU]; exact h1, va_K.moved hW.alike hK, x_KS.kept hKS h2 hU hW⟩⟩ rfl hn h3.1 rfl (lv_room hcat) hd ⟨hfc, hfs⟩) h2 (fun q _ hq => x_Aup h2.1 q hq) (fun q hq => x_Aup h2.1 q hq) (fun q _ hq => x_Aup h2.1 q hq) ?_ ?_
  · rintro E ce q9 u t H1 locs1 ht hvm hk0 ⟨hE, hH⟩ hz1 hk1 hS1 hc1 hv1 hcl1
    exact kx H1 locs1 ls E ce q9 hk0 hE (ht ▸ hH) hS1 h3 hc1 hv1 hcl1
  · rintro r' u t H1 locs1 ht hvm ⟨hk0, rfl⟩ hB hz1 hk1 hS1
    exact k hk0 H1 locs1 ls (ht ▸ hB.1) hS1 h3
theorem r_tcallSv (C0 : CC p s m args c cc nL own D g tb) {y : MethodName} {bytes : ByteArray} {maxL idx n mc1 k1 : Nat} {rm : Room} {As rest stk : List Value} {M' : xM}
    (hM : tV l D g tb y bytes maxL rm mc1 (As) M k1 M') (w1 : Cond.methodLink own idx y ∈ xA) (w2 : Cond.static y ∈ xA) (w4 : Cond.initialized y.cls ∈ xA) (w5 : Cond.code y bytes maxL none ∈ xA)
     (hdd : y.cls ≠ "java/lang/invoke/MethodHandle" ∧ y.cls ≠ "java/lang/invoke/VarHandle" ∧ (parseMethodDescriptor y.desc).map (fun d => d.parameters.length) = some n) (hn : As.length = n) (hrm : rm.cells = mc1 ∧ rm.slots = 6 * mc1) (hR : rm.frames + 1 ≤ R.frames ∧ 8 + (maxL + 11) + rm.locals ≤ R.locals) (hfc : cells + mc1 ≤ R.cells) (hfs : slots + 6 * mc1 ≤ R.slots)
    (hst : stk = As.reverse ++ rest) (hcat : (rest.map fun v => v.category).sum ≤ 8) (hd : decode cc pc = .ok (.invokestatic idx, 3))
    (kx : ∀ (H1 : Heap) (locs1 : List Loc) (ls : Array Slot) (E : String) (ce : Cell) (q : Addr), ¬ k1 = 0 → E = x_ex k1 → x_H D g tb M' H1 → va_S (x_A g tb s.heap.size) s.heap H1 locs1 → lv_has ls nL lv → H1[q]? = some ce → ce.vm = .none → s.vm.findClass E = some ce.cls → vx_W p l e R s m args below meth c H1 locs1 (cells + mc1) (slots + 6 * mc1) Q (F0 m pc ls rest) q)
    (k : k1 = 0 → WW p l e R s m args below meth c (cells + mc1) (slots + 6 * mc1) Q nL D g tb (pc + 3) lv rest M') : WW p l e R s m args below meth c cells slots Q nL D g tb pc lv stk M := by
  intro H locs ls h1 h2 h3
  subst hst
  obtain ⟨hx, hb, hml, hown, hts, hK, hT, hKS⟩ := C0
  obtain ⟨hrc, hrs⟩ := hrm
  refine vx_callv (vx_runS (As := As) (rest := rest) ⟨hx, hb, hml, hown, hts⟩ (hM H.size) (va_cwS n hts (x_goodS w1 w2 w4 w5) rfl hrc hrs hdd hR) ⟨x_blind, fun U hU hW => ⟨rfl, by rw [hU], by rw [hU]; exact h1, va_K.moved hW.alike hK, x_KS.kept hKS h2 hU hW⟩⟩ rfl hn h3.1 rfl (lv_room hcat) hd ⟨hfc, hfs⟩) h2 (fun q _ hq => x_Aup h2.1 q hq) (fun q hq => x_Aup h2.1 q hq) (fun q _ hq => x_Aup h2.1 q hq) ?_ ?_
  · rintro E ce q9 u t H1 locs1 ht hvm hk0 ⟨hE, hH⟩ hz1 hk1 hS1 hc1 hv1 hcl1
    exact kx H1 locs1 ls E ce q9 hk0 hE (ht ▸ hH) hS1 h3 hc1 hv1 hcl1
  · rintro u t H1 locs1 ht hvm hk0 hB hz1 hk1 hS1
    exact k hk0 H1 locs1 ls (ht ▸ hB.1) hS1 h3
theorem r_tcallVr (C0 : CC p s m args c cc nL own D g tb) {y : MethodName} {bytes : ByteArray} {maxL idx n mc1 k1 : Nat} {rm : Room} {As rest stk : List Value} {C : String} {a : Nat} {ret : FieldType} {kd r : Nat} {M' : xM}
    (hM : tR l D g tb y bytes maxL ret kd rm mc1 (.ref a :: As) M k1 r M') (w1 : Cond.methodLink own idx y ∈ xA) (w2 : Cond.instanceMethod y ∈ xA) (w3 : Cond.selects C y y ∈ xA) (w4 : Cond.initialized C ∈ xA) (w5 : Cond.code y bytes maxL (some ret) ∈ xA)
    (hrec : ∀ (M : xM) (H : Heap) (locs : List Loc), x_H D g tb M H → va_S (x_A g tb s.heap.size) s.heap H locs → ∃ cell : Cell, H[a]? = some cell ∧ cell.vm.isStatics = false ∧ s.vm.findClass C = some cell.cls)  (hdd : y.cls = C ∧ y.cls ≠ "java/lang/invoke/MethodHandle" ∧ y.cls ≠ "java/lang/invoke/VarHandle" ∧ (parseMethodDescriptor y.desc).map (fun d => d.parameters.length) = some n) (hn : As.length = n) (hrm : rm.cells = mc1 ∧ rm.slots = 6 * mc1) (hR : rm.frames + 1 ≤ R.frames ∧ 8 + (maxL + 11) + rm.locals ≤ R.locals) (hfc : cells + mc1 ≤ R.cells) (hfs : slots + 6 * mc1 ≤ R.slots)
    (hst : stk = As.reverse ++ .ref a :: rest) (hcat : (rest.map fun v => v.category).sum ≤ 8) (hd : decode cc pc = .ok (.invokevirtual idx, 3))
    (kx : ∀ (H1 : Heap) (locs1 : List Loc) (ls : Array Slot) (E : String) (ce : Cell) (q : Addr), ¬ k1 = 0 → E = x_ex k1 → x_H D g tb M' H1 → va_S (x_A g tb s.heap.size) s.heap H1 locs1 → lv_has ls nL lv → H1[q]? = some ce → ce.vm = .none → s.vm.findClass E = some ce.cls → vx_W p l e R s m args below meth c H1 locs1 (cells + mc1) (slots + 6 * mc1) Q (F0 m pc ls rest) q)
    (k : ((kd, r, 0) : xQ) ∈ tb → k1 = 0 → WW p l e R s m args below meth c (cells + mc1) (slots + 6 * mc1) Q nL D g tb (pc + 3) lv (.ref (g.1 kd r) :: rest) M') : WW p l e R s m args below meth c cells slots Q nL D g tb pc lv stk M := by
  intro H locs ls h1 h2 h3
  subst hst
  obtain ⟨hx, hb, hml, hown, hts, hK, hT, hKS⟩ := C0
  obtain ⟨hrc, hrs⟩ := hrm
  refine vx_callr_ (vx_runV (As := As) (rest := rest) ⟨hx, hb, hml, hown, hts⟩ (hM H.size) (cwV n hts (x_goodV w1 w2 w3 w4 w5) rfl hrc hrs hdd hR) ⟨x_blind, hrec M H _ h1 h2, fun U hU hW => ⟨rfl, by rw [hU], by rw [hU]; exact h1, va_K.moved hW.alike hK, x_KS.kept hKS h2 hU hW⟩⟩ rfl hn h3.1 rfl (lv_room hcat) hd ⟨hfc, hfs⟩) h2 (fun q _ hq => x_Aup h2.1 q hq) (fun q hq => x_Aup h2.1 q hq) (fun q _ hq => x_Aup h2.1 q hq) ?_ ?_
  · rintro E ce q9 u t H1 locs1 ht hvm hk0 ⟨hE, hH⟩ hz1 hk1 hS1 hc1 hv1 hcl1
    exact kx H1 locs1 ls E ce q9 hk0 hE (ht ▸ hH) hS1 h3 hc1 hv1 hcl1
  · rintro u ra t H1 locs1 ht hvm ⟨hk0, hm0⟩ ⟨rfl, hB⟩ hz1 hk1 hS1
    exact k hm0 hk0 H1 locs1 ls (ht ▸ hB.1) hS1 h3
end XUC
/-- a call that may throw -/
def tbd {α β γ : Type} (z : β) (o : Option (Nat × α × γ)) (f : α → γ → Option (Nat × β × γ)) : Option (Nat × β × γ) := match o with
  | some q => if q.1 = 0 then f q.2.1 q.2.2 else some (q.1, z, q.2.2)
  | none => none
theorem tbd_e {α β γ : Type} {z : β} {o : Option (Nat × α × γ)} {f : α → γ → Option (Nat × β × γ)} {res : Nat × β × γ} (h : tbd z o f = some res) : ∃ k r M, o = some (k, r, M) ∧ (¬ k = 0 → some (k, z, M) = some res) ∧ (k = 0 → f r M = some res) := by
  cases o with
  | none => cases h
  | some q => exact ⟨q.1, q.2.1, q.2.2, rfl, fun hk => (if_neg hk).symm.trans h, fun hk => (if_pos hk).symm.trans h⟩
theorem tbd_0 {α β γ : Type} {z : β} {o : Option (Nat × α × γ)} {f : α → γ → Option (Nat × β × γ)} {r : α} {M : γ} (h : o = some (0, r, M)) : tbd z o f = f r M := by rw [h]; rfl
theorem tbd_x {α β γ : Type} {z : β} {o : Option (Nat × α × γ)} {f : α → γ → Option (Nat × β × γ)} {k : Nat} {r : α} {M : γ} (h : o = some (k + 1, r, M)) : tbd z o f = some (k + 1, z, M) := by rw [h]; rfl
end
section
def nz (y : Int32) : Bool := !(y == 0)
theorem nz_e {y : Int32} (h : nz y = true) : ¬ y = 0 := by
  unfold nz at h
  simpa using h
theorem none_ne {α : Type} {r : α} {P : Prop} (h : (none : Option α) = some r) : P := by cases h
def iush (x y : Int32) : Int32 := (x.toUInt32 >>> (y.toUInt32 &&& Int32.toUInt32 31)).toInt32
end
section
/-! strings, the enum, their constants: rows -/
def isn (ty : FieldType) (v : Int32) : Bool := decide (narrow ty (.int v) = .int v)
theorem isn_e {ty : FieldType} {v : Int32} (h : isn ty v = true) : narrow ty (.int v) = .int v := of_decide_eq_true h
section XW
variable {p : Program} {l : Launch} {e : Env} {R : Room} {s : State} {m : MethodId} {args : Array Value} {below : List Frame} {meth : Method} {c : Code} {cells slots : Nat} {Q : State → Prop}
variable {cc : ByteArray} {nL : Nat} {own : String} {D : va_G} {g : xG} {tb : List xQ} {pc : Nat} {lv : List (Nat × Value)} {st : List Value} {M : xM}
theorem CC.kA (C0 : CC p s m args c cc nL own D g tb) : x_KA g (x_A g tb s.heap.size) s s.heap := C0.2.2.2.2.2.2.2.2.2.2.2
theorem CC.inj (C0 : CC p s m args c cc nL own D g tb) : ∀ i j, i < 9 → j < 9 → g.2.2 i = g.2.2 j → i = j := C0.2.2.2.2.2.2.2.2.2.2.1
theorem r_nret (C0 : CC p s m args c cc nL own D g tb) {v r : Int32} {M' : xM} {ty : FieldType} (hr : meth.sig.returnType = some ty) (hlk : meth.locks = false) (hz : narrow ty (.int v) = .int v) (hf : (some (v, M) : Option (Int32 × xM)) = some (r, M')) (hd : decode cc pc = .ok (.ireturn, 1)) :
    WW p l e R s m args below meth c cells slots (MQ below (x_Qi D g tb r M' s.heap.size) args s cells slots (x_A g tb s.heap.size)) nL D g tb pc lv [.int v] M := by
  cases hf
  intro H locs ls h1 h2 h3
  exact W.zret C0.1 C0.2.1 hr hz (fun t ht hW => ⟨⟨v, (), rfl, rfl, x_Bend C0 h1 h2 ht hW⟩, h2.F ht⟩) h2.2.2 hd hlk
def x_Qe (D : va_G) (g : xG) (tb : List xQ) (r : Int32) (M : xM) (sz : Nat) : Array Value → State → Outcome → State → Prop := va_Qe g.2.2 (fun r' (_ : Unit) => r' = x_en r) (fun _ t => x_B D g tb M t) (x_A g tb sz)
def cE (l : Launch) (D : va_G) (g : xG) (tb : List xQ) (y : MethodName) (cc : ByteArray) (nL : Nat) (ret : FieldType) (rm : Room) (as : List Value) (M : xM) (r : Int32) (M' : xM) : Prop :=
  ∀ sz, Met l y (ws_ y cc nL (some ret)) rm (va_Pc as (fun U => U.heap.size = sz ∧ x_B D g tb M U)) (x_Qe D g tb r M' sz) 0 0 (x_A g tb sz)
theorem r_eret (C0 : CC p s m args c cc nL own D g tb) {v r : Int32} {M' : xM} {n : String} (hr : meth.sig.returnType = some (.object n)) (hlk : meth.locks = false) (hf : (some (v, M) : Option (Int32 × xM)) = some (r, M')) (hd : decode cc pc = .ok (.areturn, 1)) :
    WW p l e R s m args below meth c cells slots (MQ below (x_Qe D g tb r M' s.heap.size) args s cells slots (x_A g tb s.heap.size)) nL D g tb pc lv [va_re g.2.2 (x_en v)] M := by
  cases hf
  intro H locs ls h1 h2 h3
  exact W.aret C0.1 C0.2.1 hr (Or.inl ⟨n, rfl⟩) (va_re_or _ _) (fun t ht hW => ⟨⟨x_en v, (), rfl, rfl, x_Bend C0 h1 h2 ht hW⟩, h2.F ht⟩) h2.2.2 hd hlk
theorem r_ldcs (C0 : CC p s m args c cc nL own D g tb) {index si : Nat} {tx : String} (hsi : x_sl[si]? = some (own, index, tx)) (hd : decode cc pc = .ok (.ldc index, 2)) (k : WW p l e R s m args below meth c cells slots Q nL D g tb (pc + 2) lv (.ref (g.1 20 si) :: st) M) : WW p l e R s m args below meth c cells slots Q nL D g tb pc lv st M :=
  fun H locs ls h1 h2 h3 => va_ldcS C0.1 C0.2.1 C0.2.2.2.1 (C0.2.2.2.2.2.2.2.2.2.1 si _ hsi) hd (k H locs ls h1 h2 h3)
theorem x_rec20 (C0 : CC p s m args c cc nL own D g tb) {i : Nat} (hi : i < 56) : ∀ (M : xM) (H : Heap) (locs : List Loc), x_H D g tb M H → va_S (x_A g tb s.heap.size) s.heap H locs → ∃ cell : Cell, H[g.1 20 i]? = some cell ∧ cell.vm.isStatics = false ∧ s.vm.findClass RJ0 = some cell.cls :=
  fun M H locs _ h2 => va_Orecv (C0.kA.2.2.1 i hi).1 h2
theorem r_sval (C0 : CC p s m args c cc nL own D g tb) {i index : Nat} (hi : i < 56) (hw : Cond.fieldLink own index "java/lang/String" "value" "[B" ∈ xA) (hd : decode cc pc = .ok (.getfield index, 3)) (k : WW p l e R s m args below meth c cells slots Q nL D g tb (pc + 3) lv (.ref (g.1 21 i) :: st) M) : WW p l e R s m args below meth c cells slots Q nL D g tb pc lv (.ref (g.1 20 i) :: st) M :=
  fun H locs ls h1 h2 h3 => vk_getf C0.1 C0.2.1 (C0.kA.2.2.1 i hi).2.2.1 h2 C0.2.2.2.1 (C0.2.2.2.2.1 _ hw) (fun _ h => h) hd (k H locs ls h1 h2 h3)
theorem r_scod (C0 : CC p s m args c cc nL own D g tb) {i index : Nat} (hi : i < 56) (hw : Cond.fieldLink own index "java/lang/String" "coder" "B" ∈ xA) (hd : decode cc pc = .ok (.getfield index, 3)) (k : WW p l e R s m args below meth c cells slots Q nL D g tb (pc + 3) lv (.int 0 :: st) M) : WW p l e R s m args below meth c cells slots Q nL D g tb pc lv (.ref (g.1 20 i) :: st) M :=
  fun H locs ls h1 h2 h3 => vk_getf C0.1 C0.2.1 (C0.kA.2.2.1 i hi).2.1 h2 C0.2.2.2.1 (C0.2.2.2.2.1 _ hw) (fun _ h => h) hd (k H locs ls h1 h2 h3)
theorem r_slen (C0 : CC p s m args c cc nL own D g tb) {i : Nat} (hi : i < 56) (hd : decode cc pc = .ok (.arraylength, 1)) (k : WW p l e R s m args below meth c cells slots Q nL D g tb (pc + 1) lv (.int (nI (x_slen i)) :: st) M) : WW p l e R s m args below meth c cells slots Q nL D g tb pc lv (.ref (g.1 21 i) :: st) M :=
  fun H locs ls h1 h2 h3 => va_tlen C0.1 C0.2.1 (C0.kA.2.2.1 i hi).2.2.2 h2 rfl hd (k H locs ls h1 h2 h3)
theorem r_sbyte (C0 : CC p s m args c cc nL own D g tb) {i : Nat} {j : Int32} (hi : i < 56) (hin : inb j (x_slen i) = true) (hd : decode cc pc = .ok (.baload, 1)) (k : WW p l e R s m args below meth c cells slots Q nL D g tb (pc + 1) lv (.int (x_sb i j.toNatClampNeg) :: st) M) : WW p l e R s m args below meth c cells slots Q nL D g tb pc lv (.int j :: .ref (g.1 21 i) :: st) M :=
  fun H locs ls h1 h2 h3 => va_tb C0.1 C0.2.1 (C0.kA.2.2.1 i hi).2.2.2 h2 (inb_in hin) rfl hd (k H locs ls h1 h2 h3)
theorem r_compact (C0 : CC p s m args c cc nL own D g tb) {index : Nat} (hw : Cond.fieldLink own index "java/lang/String" "COMPACT_STRINGS" "Z" ∈ xA) (hd : decode cc pc = .ok (.getstatic index, 3)) (k : WW p l e R s m args below meth c cells slots Q nL D g tb (pc + 3) lv (.int 1 :: st) M) : WW p l e R s m args below meth c cells slots Q nL D g tb pc lv st M :=
  fun H locs ls h1 h2 h3 => va_gets C0.1 C0.2.1 C0.kA.2.2.2.1 h2 C0.2.2.2.1 (C0.2.2.2.2.1 _ hw) (fun _ h => h) hd (k H locs ls h1 h2 h3)
theorem r_sioobe (C0 : CC p s m args c cc nL own D g tb) {index : Nat} (hw : Cond.fieldLink own index "jdk/internal/util/Preconditions" "SIOOBE_FORMATTER" "Ljava/util/function/BiFunction;" ∈ xA) (hd : decode cc pc = .ok (.getstatic index, 3)) (k : ∀ r : Option Nat, WW p l e R s m args below meth c cells slots Q nL D g tb (pc + 3) lv (va_rf r :: st) M) : WW p l e R s m args below meth c cells slots Q nL D g tb pc lv st M := by
  intro H locs ls h1 h2 h3
  rcases C0.kA.2.2.2.2.2.2.2.2.2 with hz | ⟨t, hz⟩
  · exact va_gets C0.1 C0.2.1 hz h2 C0.2.2.2.1 (C0.2.2.2.2.1 _ hw) (fun _ h => h) hd (k none H locs ls h1 h2 h3)
  · exact va_gets C0.1 C0.2.1 hz h2 C0.2.2.2.1 (C0.2.2.2.2.1 _ hw) (fun _ h => h) hd (k (some t) H locs ls h1 h2 h3)
/-- the enum: 0 is null, k + 1 the constant k -/
theorem x_en_s {x : Int32} {n : Nat} (h : inb (x - 1) n = true) (hn : n < 2147483647) : x_en x = some (x - 1).toNatClampNeg := by
  unfold inb at h
  simp only [Bool.and_eq_true, decide_eq_true_eq] at h
  obtain ⟨a, b⟩ := h
  have hx : x.toInt = (x - 1).toInt + 1 := by
    have e : x = (x - 1) + 1 := by simp
    have r1 : (1 : Int32).toInt = 1 := rfl
    have r2 : ((x - 1) + 1).toInt = ((x - 1).toInt + (1 : Int32).toInt).bmod (2 ^ 32) := Int32.toInt_add _ _
    rw [← e, r1] at r2
    rw [r2]
    exact Int.bmod_eq_of_le (by omega) (by omega)
  have h0 : ¬ x = 0 := by
    rintro rfl
    have r1 : (0 : Int32).toInt = 0 := rfl
    omega
  unfold x_en
  rw [if_neg h0]
  congr 1
  show x.toInt.toNat - 1 = (x - 1).toInt.toNat
  omega
theorem x_en_lt {x : Int32} (h : inb (x - 1) 9 = true) : (x - 1).toNatClampNeg < 9 := inb_lt h
theorem r_vword (C0 : CC p s m args c cc nL own D g tb) {x : Int32} {index : Nat} (hx : inb (x - 1) 9 = true) (hw : Cond.fieldLink own index "FogBellMarket$Verb" "word" "Ljava/lang/String;" ∈ xA) (hd : decode cc pc = .ok (.getfield index, 3)) (k : WW p l e R s m args below meth c cells slots Q nL D g tb (pc + 3) lv (.ref (g.1 20 (x_vw (x - 1).toNatClampNeg)) :: st) M) : WW p l e R s m args below meth c cells slots Q nL D g tb pc lv (va_re g.2.2 (x_en x) :: st) M := by
  rw [x_en_s hx (by decide)]
  exact fun H locs ls h1 h2 h3 => vk_getf C0.1 C0.2.1 (C0.kA.2.2.2.2.1 _ (inb_lt hx)).2.2.2.1 h2 C0.2.2.2.1 (C0.2.2.2.2.1 _ hw) (fun _ h => h) hd (k H locs ls h1 h2 h3)
theorem r_vkinds (C0 : CC p s m args c cc nL own D g tb) {x : Int32} {index : Nat} (hx : inb (x - 1) 9 = true) (hw : Cond.fieldLink own index "FogBellMarket$Verb" "kinds" "Ljava/lang/String;" ∈ xA) (hd : decode cc pc = .ok (.getfield index, 3)) (k : WW p l e R s m args below meth c cells slots Q nL D g tb (pc + 3) lv (.ref (g.1 20 (x_vk (x - 1).toNatClampNeg)) :: st) M) : WW p l e R s m args below meth c cells slots Q nL D g tb pc lv (va_re g.2.2 (x_en x) :: st) M := by
  rw [x_en_s hx (by decide)]
  exact fun H locs ls h1 h2 h3 => vk_getf C0.1 C0.2.1 (C0.kA.2.2.2.2.1 _ (inb_lt hx)).2.2.2.2 h2 C0.2.2.2.1 (C0.2.2.2.2.1 _ hw) (fun _ h => h) hd (k H locs ls h1 h2 h3)
theorem r_vord (C0 : CC p s m args c cc nL own D g tb) {x : Int32} {index : Nat} (hx : inb (x - 1) 9 = true) (hw : Cond.fieldLink own index "java/lang/Enum" "ordinal" "I" ∈ xA) (hd : decode cc pc = .ok (.getfield index, 3)) (k : WW p l e R s m args below meth c cells slots Q nL D g tb (pc + 3) lv (.int (nI (x - 1).toNatClampNeg) :: st) M) : WW p l e R s m args below meth c cells slots Q nL D g tb pc lv (va_re g.2.2 (x_en x) :: st) M := by
  rw [x_en_s hx (by decide)]
  exact fun H locs ls h1 h2 h3 => vk_getf C0.1 C0.2.1 (C0.kA.2.2.2.2.1 _ (inb_lt hx)).2.2.1 h2 C0.2.2.2.1 (C0.2.2.2.2.1 _ hw) (fun _ h => h) hd (k H locs ls h1 h2 h3)
theorem r_gverb (C0 : CC p s m args c cc nL own D g tb) {index i : Nat} {x : Int32} (hi : i < 9) (hx : x_en x = some i) (hw : Cond.fieldLink own index "FogBellMarket$Verb" (x_vn i) "LFogBellMarket$Verb;" ∈ xA) (hd : decode cc pc = .ok (.getstatic index, 3)) (k : WW p l e R s m args below meth c cells slots Q nL D g tb (pc + 3) lv (va_re g.2.2 (x_en x) :: st) M) : WW p l e R s m args below meth c cells slots Q nL D g tb pc lv st M := by
  rw [hx] at k
  exact fun H locs ls h1 h2 h3 => va_gets C0.1 C0.2.1 (C0.kA.2.2.2.2.1 i hi).1 h2 C0.2.2.2.1 (C0.2.2.2.2.1 _ hw) (fun _ h => h) hd (k H locs ls h1 h2 h3)
theorem r_gverbs (C0 : CC p s m args c cc nL own D g tb) {index : Nat} (hw : Cond.fieldLink own index "FogBellMarket$Reader" "VERBS" "[LFogBellMarket$Verb;" ∈ xA) (hd : decode cc pc = .ok (.getstatic index, 3)) (k : WW p l e R s m args below meth c cells slots Q nL D g tb (pc + 3) lv (.ref (g.1 22 0) :: st) M) : WW p l e R s m args below meth c cells slots Q nL D g tb pc lv st M :=
  fun H locs ls h1 h2 h3 => va_gets C0.1 C0.2.1 C0.kA.2.2.2.2.2.1 h2 C0.2.2.2.1 (C0.2.2.2.2.1 _ hw) (fun _ h => h) hd (k H locs ls h1 h2 h3)
theorem r_vslen (C0 : CC p s m args c cc nL own D g tb) (hd : decode cc pc = .ok (.arraylength, 1)) (k : WW p l e R s m args below meth c cells slots Q nL D g tb (pc + 1) lv (.int 9 :: st) M) : WW p l e R s m args below meth c cells slots Q nL D g tb pc lv (.ref (g.1 22 0) :: st) M :=
  fun H locs ls h1 h2 h3 => va_tlen C0.1 C0.2.1 C0.kA.2.2.2.2.2.2.1 h2 (by decide) hd (k H locs ls h1 h2 h3)
theorem inb_up {i : Int32} {n : Nat} (h : inb i n = true) (hn : n < 2147483647) : inb (i + 1 - 1) n = true := by
  have e : i + 1 - 1 = i := by simp
  rw [e]; exact h
theorem r_vsald (C0 : CC p s m args c cc nL own D g tb) {i : Int32} (hin : inb i 9 = true) (hd : decode cc pc = .ok (.aaload, 1)) (k : WW p l e R s m args below meth c cells slots Q nL D g tb (pc + 1) lv (va_re g.2.2 (x_en (i + 1)) :: st) M) : WW p l e R s m args below meth c cells slots Q nL D g tb pc lv (.int i :: .ref (g.1 22 0) :: st) M := by
  rw [x_en_s (inb_up hin (by decide)) (by decide), show i + 1 - 1 = i by simp] at k
  intro H locs ls h1 h2 h3
  obtain ⟨cell, q1, q2, q3, q4, q5, q6, q7⟩ := C0.kA.2.2.2.2.2.2.1
  have hlt := inb_lt hin
  have h0 := inb_in hin
  refine W.aald (v := .ref (g.2.2 i.toNatClampNeg)) (ty := .object RX5) C0.1 C0.2.1 (a := g.1 22 0) (cell := cell) (by rw [h2.2.1 _ (Array.getElem?_eq_some_iff.mp q1).1 q7]; exact q1) q2 rfl q3 (fun z => h0 (z.elim Or.inl (fun z => Or.inr (Nat.le_trans q4 z)))) (q6 _ hlt) rfl rfl hd (k H locs ls h1 h2 h3)
theorem r_gsm (C0 : CC p s m args c cc nL own D g tb) {index : Nat} (hw : Cond.fieldLink own index "FogBellMarket$1" "$SwitchMap$FogBellMarket$Verb" "[I" ∈ xA) (hd : decode cc pc = .ok (.getstatic index, 3)) (k : WW p l e R s m args below meth c cells slots Q nL D g tb (pc + 3) lv (.ref (g.1 23 0) :: st) M) : WW p l e R s m args below meth c cells slots Q nL D g tb pc lv st M :=
  fun H locs ls h1 h2 h3 => va_gets C0.1 C0.2.1 C0.kA.2.2.2.2.2.2.2.1 h2 C0.2.2.2.1 (C0.2.2.2.2.1 _ hw) (fun _ h => h) hd (k H locs ls h1 h2 h3)
theorem r_smald (C0 : CC p s m args c cc nL own D g tb) {i : Int32} (hin : inb i 9 = true) (hd : decode cc pc = .ok (.iaload, 1)) (k : WW p l e R s m args below meth c cells slots Q nL D g tb (pc + 1) lv (.int (x_smap i.toNatClampNeg) :: st) M) : WW p l e R s m args below meth c cells slots Q nL D g tb pc lv (.int i :: .ref (g.1 23 0) :: st) M :=
  fun H locs ls h1 h2 h3 => va_ti C0.1 C0.2.1 C0.kA.2.2.2.2.2.2.2.2.1 h2 (inb_in hin) rfl hd (k H locs ls h1 h2 h3)
theorem r_ifnnv (C0 : CC p s m args c cc nL own D g tb) {x : Int32} {off : Int} {tgt : Nat} (ht : (pc : Int) + off = (tgt : Int)) (hd : decode cc pc = .ok (.ifnonnull off, 3)) (k1 : ¬ x = 0 → WW p l e R s m args below meth c cells slots Q nL D g tb tgt lv st M) (k2 : x = 0 → WW p l e R s m args below meth c cells slots Q nL D g tb (pc + 3) lv st M) : WW p l e R s m args below meth c cells slots Q nL D g tb pc lv (va_re g.2.2 (x_en x) :: st) M := by
  intro H locs ls h1 h2 h3
  by_cases hx : x = 0
  · have e : x_en x = none := by unfold x_en; rw [if_pos hx]
    rw [e]
    exact lv_ifnonnullN C0.1 C0.2.1 hd (k2 hx H locs ls h1 h2 h3)
  · have e : x_en x = some (x.toNatClampNeg - 1) := by unfold x_en; rw [if_neg hx]
    rw [e]
    exact lv_ifnonnull C0.1 C0.2.1 hd ht (k1 hx H locs ls h1 h2 h3)
theorem x_en_inj (C0 : CC p s m args c cc nL own D g tb) {x y : Int32} (hx : inb x 10 = true) (hy : inb y 10 = true) : (x_en x).map g.2.2 = (x_en y).map g.2.2 ↔ x = y := by
  constructor
  · intro h
    obtain ⟨a, ha, rfl⟩ := vp_in_of (inb_in hx) (by decide)
    obtain ⟨b, hb, rfl⟩ := vp_in_of (inb_in hy) (by decide)
    unfold x_en at h
    by_cases z1 : nI a = 0 <;> by_cases z2 : nI b = 0
    · rw [z1, z2]
    · rw [if_pos z1, if_neg z2] at h; cases h
    · rw [if_neg z1, if_pos z2] at h; cases h
    · rw [if_neg z1, if_neg z2, nI_clamp (by omega), nI_clamp (by omega)] at h
      have h5 := C0.inj (a - 1) (b - 1) (by omega) (by omega) (Option.some.inj h)
      have e1 : a ≠ 0 := fun h => z1 (by rw [h]; rfl)
      have e2 : b ≠ 0 := fun h => z2 (by rw [h]; rfl)
      rw [show a = b by omega]
  · rintro rfl; rfl
theorem r_acmpne (C0 : CC p s m args c cc nL own D g tb) {x y : Int32} {off : Int} {tgt : Nat} (hx : inb x 10 = true) (hy : inb y 10 = true) (ht : (pc : Int) + off = (tgt : Int)) (hd : decode cc pc = .ok (.if_acmp .ne off, 3)) (k1 : ¬ x = y → WW p l e R s m args below meth c cells slots Q nL D g tb tgt lv st M) (k2 : x = y → WW p l e R s m args below meth c cells slots Q nL D g tb (pc + 3) lv st M) : WW p l e R s m args below meth c cells slots Q nL D g tb pc lv (va_re g.2.2 (x_en y) :: va_re g.2.2 (x_en x) :: st) M := by
  intro H locs ls h1 h2 h3
  have hi := x_en_inj C0 hx hy
  exact lv_acmp_ne C0.1 C0.2.1 hd ht (fun h => k1 (fun z => h (hi.mpr z)) H locs ls h1 h2 h3) (fun h => k2 (hi.mp h) H locs ls h1 h2 h3)
theorem r_aloadv_n (C0 : CC p s m args c cc nL own D g tb) {kk : Fin 4} {x : Int32} (j : Nat) (hj : lv[j]? = some ((kk : Nat), va_re g.2.2 (x_en x))) (hd : decode cc pc = .ok (.aload_n kk, 1)) (k : WW p l e R s m args below meth c cells slots Q nL D g tb (pc + 1) lv (va_re g.2.2 (x_en x) :: st) M) : WW p l e R s m args below meth c cells slots Q nL D g tb pc lv st M := by
  intro H locs ls h1 h2 h3
  have h4 := lv_at h3 j hj
  cases hc : x_en x with
  | none =>
    rw [hc] at k h4
    exact lv_aload_nN C0.1 C0.2.1 hd rfl h4 (k H locs ls h1 h2 h3)
  | some a =>
    rw [hc] at k h4
    exact lv_aload_n C0.1 C0.2.1 hd rfl h4 (k H locs ls h1 h2 h3)
theorem r_nullv (C0 : CC p s m args c cc nL own D g tb) (hd : decode cc pc = .ok (.aconst_null, 1)) (k : WW p l e R s m args below meth c cells slots Q nL D g tb (pc + 1) lv (va_re g.2.2 (x_en 0) :: st) M) : WW p l e R s m args below meth c cells slots Q nL D g tb pc lv st M := r_null C0 hd k
theorem r_putv (C0 : CC p s m args c cc nL own D g tb) {b n index : Nat} {x : Int32} (hq : (3, b, n) ∈ tb) (hw : Cond.fieldLink own index "FogBellMarket$Reader" "verb" "LFogBellMarket$Verb;" ∈ xA) (hd : decode cc pc = .ok (.putfield index, 3)) (k : WW p l e R s m args below meth c cells slots Q nL D g tb (pc + 3) lv st (upd M (b + 4) x)) : WW p l e R s m args below meth c cells slots Q nL D g tb pc lv (va_re g.2.2 (x_en x) :: .ref (g.1 3 b) :: st) M := by
  intro H locs ls h1 h2 h3
  obtain ⟨i, hi⟩ := List.getElem?_of_mem hq
  obtain ⟨hx, hb, hml, hown, hts, hK, hT, -⟩ := C0
  have hn : ∀ v : Option Nat, narrow (tyX3 4) (va_re g.2.2 v) = va_re g.2.2 v ∧ fits (tyX3 4) (va_re g.2.2 v) = true := by
    intro v
    cases v <;> exact ⟨rfl, rfl⟩
  refine va_put (D := D) (cl := xCl) (ci := 2) (v := va_re g.2.2 (x_en x)) (ty := tyX3 4) (C := RX3) (T := TX3) (N := 10) hx hb hts x_lays3 tyX3 tyX3_ok nmX3 hown hK h1 (x_apart hT M s.heap.size) h2 i (x_ws_at hi) rfl 4 (by decide) (hts _ hw) (fun x h => h) (by decide) (tyX3_ok 4 (by decide)) (hn _).1 (hn _).2 (Nat.le_of_ble_eq_true rfl) hd (fun H1 locs1 hP hD hS => k H1 locs1 ls (x_conv hi hP ?_ (x_other hT hi ⟨Nat.le_add_right _ _, Nat.add_lt_add_left (show 4 < 10 by decide) b⟩)) hS h3)
  intro hv
  have e : (x_f3 g b M).set 4 (va_re g.2.2 (x_en x)) = x_f3 g b (upd M (b + 4) x) := by simp [x_f3, upd]
  show va_at D xCl (x_ad g (3, b, n), .inr (2, x_f3 g b (upd M (b + 4) x))) H1
  rw [← e]
  exact hv
theorem r_i2c (C0 : CC p s m args c cc nL own D g tb) {x : Int32} (hd : decode cc pc = .ok (.i2c, 1)) (k : WW p l e R s m args below meth c cells slots Q nL D g tb (pc + 1) lv (.int (x.toUInt32 % 65536).toInt32 :: st) M) : WW p l e R s m args below meth c cells slots Q nL D g tb pc lv (.int x :: st) M := fun H locs ls h1 h2 h3 => lv_i2c C0.1 C0.2.1 hd rfl (k H locs ls h1 h2 h3)
theorem r_vordr (C0 : CC p s m args c cc nL own D g tb) {i index : Nat} (hi : i < 9) (hw : Cond.fieldLink own index "java/lang/Enum" "ordinal" "I" ∈ xA) (hd : decode cc pc = .ok (.getfield index, 3)) (k : WW p l e R s m args below meth c cells slots Q nL D g tb (pc + 3) lv (.int (nI i) :: st) M) : WW p l e R s m args below meth c cells slots Q nL D g tb pc lv (.ref (g.2.2 i) :: st) M :=
  fun H locs ls h1 h2 h3 => vk_getf C0.1 C0.2.1 (C0.kA.2.2.2.2.1 _ hi).2.2.1 h2 C0.2.2.2.1 (C0.2.2.2.2.1 _ hw) (fun _ h => h) hd (k H locs ls h1 h2 h3)
theorem WW.stk {st2 : List Value} (h : st = st2) (k : WW p l e R s m args below meth c cells slots Q nL D g tb pc lv st2 M) : WW p l e R s m args below meth c cells slots Q nL D g tb pc lv st M := h ▸ k
end XW
theorem x_vw_lt (n : Nat) : x_vw n < 56 := by
  unfold x_vw
  split <;> decide
theorem x_vk_lt (n : Nat) : x_vk n < 56 := by
  unfold x_vk
  split <;> decide
theorem dJx29ce0_ordinal_8abf5_0 : decode cJx29ce0_ordinal_8abf5 0 = .ok (.aload_n 0, 1) := by decide +kernel
theorem dJx29ce0_ordinal_8abf5_1 : decode cJx29ce0_ordinal_8abf5 1 = .ok (.getfield 7, 3) := by decide +kernel
theorem dJx29ce0_ordinal_8abf5_4 : decode cJx29ce0_ordinal_8abf5 4 = .ok (.ireturn, 1) := by decide +kernel
theorem c_ordinal (l : Launch) (D : va_G) (g : xG) (tb : List xQ) (hT : x_T g tb) {i : Nat} (hi : i < 9) {M : xM} : cI l D g tb yJx29ce0_ordinal_8abf5 cJx29ce0_ordinal_8abf5 1 .int ({ frames := 0, cells := 0, slots := 0, locals := 0 } : Room) [.ref (g.2.2 i)] M (nI i) M := by
  refine x_startI (own := RJx29ce0) (by decide +kernel) rfl rfl (Nat.le_of_ble_eq_true rfl) hT ?_
  intro p e s m args below meth c Q C0 hend
  refine r_aload_n C0 (kk := 0) 0 rfl dJx29ce0_ordinal_8abf5_0 ?_
  refine r_vordr C0 hi w8_133 dJx29ce0_ordinal_8abf5_1 ?_
  exact hend rfl dJx29ce0_ordinal_8abf5_4
section XO
variable {p : Program} {l : Launch} {e : Env} {R : Room} {s : State} {m : MethodId} {args : Array Value} {below : List Frame} {meth : Method} {c : Code} {cells slots : Nat} {Q : State → Prop}
variable {cc : ByteArray} {nL : Nat} {own : String} {D : va_G} {g : xG} {tb : List xQ} {pc : Nat} {lv : List (Nat × Value)} {st : List Value} {M : xM}
theorem r_ordinal (C0 : CC p s m args c cc nL own D g tb) {i idx : Nat} (hi : i < 9) (w1 : Cond.methodLink own idx (⟨"FogBellMarket$Verb", "ordinal", "()I"⟩) ∈ xA) (hf1 : 1 ≤ R.frames) (hl1 : 20 ≤ R.locals) (hfc : cells + 0 ≤ R.cells) (hfs : slots + 0 ≤ R.slots) (hcat : (st.map fun v => v.category).sum ≤ 8) (hd : decode cc pc = .ok (.invokevirtual idx, 3)) (k : WW p l e R s m args below meth c cells slots Q nL D g tb (pc + 3) lv (.int (nI i) :: st) M) : WW p l e R s m args below meth c cells slots Q nL D g tb pc lv (.ref (g.2.2 i) :: st) M := by
  intro H locs ls h1 h2 h3
  have hT := C0.2.2.2.2.2.2.1
  have ho := C0.kA.2.2.2.2.1 i hi
  obtain ⟨hx, hb, hml, hown, hts, hK, -, hKS⟩ := C0
  have hG : GoodIn xA (va_wsU own idx RX5 "java/lang/Enum" (⟨"FogBellMarket$Verb", "ordinal", "()I"⟩) yJx29ce0_ordinal_8abf5 (ws_ yJx29ce0_ordinal_8abf5 cJx29ce0_ordinal_8abf5 1 (some .int))) := by
    refine x_good _ ?_ w2_217
    simp only [List.mem_cons, List.not_mem_nil, or_false]
    rintro w (rfl | rfl | rfl | rfl | rfl)
    · exact w1
    · exact w2_213
    · exact w2_215
    · exact w2_216
    · exact w1_10
  refine va_calli (va_runU (As := []) (rest := st) ⟨hx, hb, hml, hown, hts⟩ (c_ordinal l D g tb hT hi H.size) (va_cwU 0 hts hG rfl rfl rfl rfl (by decide +kernel) ⟨hf1, hl1⟩) ⟨x_blind, va_Orecv ho.2.1 h2, fun U hU hW => ⟨rfl, by rw [hU], by rw [hU]; exact h1, va_K.moved hW.alike hK, x_KS.kept hKS h2 hU hW⟩⟩ rfl rfl h3.1 rfl (lv_room hcat) hd ⟨hfc, hfs⟩) h2 (fun q _ hq => x_Aup h2.1 q hq) (fun q hq => x_Aup h2.1 q hq) ?_
  rintro r' u t H1 locs1 ht hvm rfl hB hz1 hk1 hS1
  exact k H1 locs1 ls (ht ▸ hB.1) hS1 h3
end XO
theorem x_startN {l : Launch} {D : va_G} {g : xG} {tb : List xQ} {M M' : xM} {y : MethodName} {cc : ByteArray} {nL : Nat} {rm : Room} {as : List Value} {own : String} {lv : List (Nat × Value)} {r : Int32} {ty : FieldType}
    (hy : plainName y.cls = true) (hown' : y.cls = own) (hlv : lv_args 0 as = lv) (hln : (lg_sl as).length ≤ nL) (hT : x_T g tb)
    (body : ∀ (p : Program) (e : Env) (s : State) (m : MethodId) (args : Array Value) (below : List Frame) (meth : Method) (c : Code) (Q : State → Prop), CC p s m args c cc nL own D g tb → (∀ {pc : Nat} {lv : List (Nat × Value)} {v : Int32} {M0 : xM}, narrow ty (.int v) = .int v → (some (v, M0) : Option (Int32 × xM)) = some (r, M') → decode cc pc = .ok (.ireturn, 1) → WW p l e rm s m args below meth c 0 0 Q nL D g tb pc lv [.int v] M0) → WW p l e rm s m args below meth c 0 0 Q nL D g tb 0 lv [] M) : cI l D g tb y cc nL ty rm as M r M' := by
  intro sz
  refine x_start hy hown' hlv hln hT ?_
  rintro p e s m below meth c rfl C0 hr hlk
  exact body p e s m _ below meth c _ C0 (fun hz hf hd => r_nret C0 hr hlk hz hf hd)
theorem x_startE {l : Launch} {D : va_G} {g : xG} {tb : List xQ} {M M' : xM} {y : MethodName} {cc : ByteArray} {nL : Nat} {rm : Room} {as : List Value} {own : String} {lv : List (Nat × Value)} {r : Int32} {n : String}
    (hy : plainName y.cls = true) (hown' : y.cls = own) (hlv : lv_args 0 as = lv) (hln : (lg_sl as).length ≤ nL) (hT : x_T g tb)
    (body : ∀ (p : Program) (e : Env) (s : State) (m : MethodId) (args : Array Value) (below : List Frame) (meth : Method) (c : Code) (Q : State → Prop), CC p s m args c cc nL own D g tb → (∀ {pc : Nat} {lv : List (Nat × Value)} {v : Int32} {M0 : xM}, (some (v, M0) : Option (Int32 × xM)) = some (r, M') → decode cc pc = .ok (.areturn, 1) → WW p l e rm s m args below meth c 0 0 Q nL D g tb pc lv [va_re g.2.2 (x_en v)] M0) → WW p l e rm s m args below meth c 0 0 Q nL D g tb 0 lv [] M) : cE l D g tb y cc nL (.object n) rm as M r M' := by
  intro sz
  refine x_start hy hown' hlv hln hT ?_
  rintro p e s m below meth c rfl C0 hr hlk
  exact body p e s m _ below meth c _ C0 (fun hf hd => r_eret C0 hr hlk hf hd)
section XV
variable {p : Program} {l : Launch} {e : Env} {R : Room} {s : State} {m : MethodId} {args : Array Value} {below : List Frame} {meth : Method} {c : Code} {cells slots : Nat} {Q : State → Prop}
variable {cc : ByteArray} {nL : Nat} {own : String} {D : va_G} {g : xG} {tb : List xQ} {pc : Nat} {lv : List (Nat × Value)} {st : List Value} {M : xM}
theorem r_callVe (C0 : CC p s m args c cc nL own D g tb) {y : MethodName} {bytes : ByteArray} {maxL idx n : Nat} {rm : Room} {As rest stk : List Value} {C : String} {a : Nat} {ret : FieldType} {r : Int32} {M' : xM}
    (hM : cE l D g tb y bytes maxL ret rm (.ref a :: As) M r M') (w1 : Cond.methodLink own idx y ∈ xA) (w2 : Cond.instanceMethod y ∈ xA) (w3 : Cond.selects C y y ∈ xA) (w4 : Cond.initialized C ∈ xA) (w5 : Cond.code y bytes maxL (some ret) ∈ xA)
    (hrec : ∀ (M : xM) (H : Heap) (locs : List Loc), x_H D g tb M H → va_S (x_A g tb s.heap.size) s.heap H locs → ∃ cell : Cell, H[a]? = some cell ∧ cell.vm.isStatics = false ∧ s.vm.findClass C = some cell.cls) (hdd : y.cls = C ∧ y.cls ≠ "java/lang/invoke/MethodHandle" ∧ y.cls ≠ "java/lang/invoke/VarHandle" ∧ (parseMethodDescriptor y.desc).map (fun d => d.parameters.length) = some n) (hn : As.length = n) (hrm : rm.cells = 0 ∧ rm.slots = 0) (hR : rm.frames + 1 ≤ R.frames ∧ 8 + (maxL + 11) + rm.locals ≤ R.locals) (hfc : cells + 0 ≤ R.cells) (hfs : slots + 0 ≤ R.slots)
    (hst : stk = As.reverse ++ .ref a :: rest) (hcat : (rest.map fun v => v.category).sum ≤ 8) (hd : decode cc pc = .ok (.invokevirtual idx, 3)) (k : WW p l e R s m args below meth c cells slots Q nL D g tb (pc + 3) lv (va_re g.2.2 (x_en r) :: rest) M') : WW p l e R s m args below meth c cells slots Q nL D g tb pc lv stk M := by
  intro H locs ls h1 h2 h3
  subst hst
  obtain ⟨hx, hb, hml, hown, hts, hK, hT, hKS⟩ := C0
  obtain ⟨hrc, hrs⟩ := hrm
  refine va_calle (va_runV (As := As) (rest := rest) ⟨hx, hb, hml, hown, hts⟩ (hM H.size) (cwV n hts (x_goodV w1 w2 w3 w4 w5) rfl hrc hrs hdd hR) ⟨x_blind, hrec M H _ h1 h2, fun U hU hW => ⟨rfl, by rw [hU], by rw [hU]; exact h1, va_K.moved hW.alike hK, x_KS.kept hKS h2 hU hW⟩⟩ rfl hn h3.1 rfl (lv_room hcat) hd ⟨hfc, hfs⟩) h2 (fun q _ hq => x_Aup h2.1 q hq) (fun q hq => x_Aup h2.1 q hq) ?_
  rintro r' u t H1 locs1 ht hvm rfl hB hz1 hk1 hS1
  exact k H1 locs1 ls (ht ▸ hB.1) hS1 h3
end XV
end
