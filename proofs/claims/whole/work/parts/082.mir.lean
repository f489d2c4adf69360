def f_X6_earningsAfter (a1 : Int32) (a2 : Int32) (M : xM) : Option (Nat × Int32 × xM) :=
  (tbd (0 : Int32) (f_X6_checkStall a1 M) (fun r4 M3 => (tbd (0 : Int32) (f_X6_checkRange a2 0 200 M3) (fun r10 M9 => (bd (f_X2_copyFrom 256 0 M9) (fun M14 => (bd (f_X2_pass 256 a2 M14) (fun M16 => (gd (inb a1 6) (some (0, (M16 ((279 + 9 * a1.toNatClampNeg) + 7)), M16)))))))))))
def fb_X6_bestPrice_c12 (k12 : Int32 → Int32 → Int32 → xM → Option (Nat × Int32 × xM)) (a1 : Int32) (v2 : Int32) (v3 : Int32) (v4 : Int32) (M : xM) : Option (Nat × Int32 × xM) :=
  (if 60 < v4 then (some (0, v2, M)) else (bd (f_X2_copyFrom 256 0 M) (fun M9 => (gd (inb a1 6) (bd (f_X2_pass 256 60 (upd M9 ((279 + 9 * a1.toNatClampNeg) + 3) v4)) (fun M13 => (gd (inb a1 6) (if (M13 ((279 + 9 * a1.toNatClampNeg) + 7)) ≤ v3 then (k12 v2 v3 (v4 + 1) M13) else (gd (inb a1 6) (k12 v4 (M13 ((279 + 9 * a1.toNatClampNeg) + 7)) (v4 + 1) M13))))))))))
def f_X6_bestPrice_c12  (a1 : Int32) : Int32 → Int32 → Int32 → xM → Option (Nat × Int32 × xM) :=
  lp (fun _ _ _ _ => none) (fun k => fb_X6_bestPrice_c12 k a1) FU
def f_X6_bestPrice (a1 : Int32) (M : xM) : Option (Nat × Int32 × xM) :=
  (tbd (0 : Int32) (f_X6_checkStall a1 M) (fun r4 M3 => (f_X6_bestPrice_c12  a1 (-1) (-1) 1 M3)))
def fb_X6_bestLantern_c12 (k12 : Int32 → Int32 → Int32 → xM → Option (Nat × Int32 × xM)) (a1 : Int32) (v2 : Int32) (v3 : Int32) (v4 : Int32) (M : xM) : Option (Nat × Int32 × xM) :=
  (if 3 < v4 then (some (0, v2, M)) else (bd (f_X2_copyFrom 256 0 M) (fun M9 => (gd (inb a1 6) (bd (f_X2_pass 256 60 (upd M9 ((279 + 9 * a1.toNatClampNeg) + 1) v4)) (fun M13 => (gd (inb a1 6) (if (M13 ((279 + 9 * a1.toNatClampNeg) + 7)) ≤ v3 then (k12 v2 v3 (v4 + 1) M13) else (gd (inb a1 6) (k12 v4 (M13 ((279 + 9 * a1.toNatClampNeg) + 7)) (v4 + 1) M13))))))))))
def f_X6_bestLantern_c12  (a1 : Int32) : Int32 → Int32 → Int32 → xM → Option (Nat × Int32 × xM) :=
  lp (fun _ _ _ _ => none) (fun k => fb_X6_bestLantern_c12 k a1) FU
def f_X6_bestLantern (a1 : Int32) (M : xM) : Option (Nat × Int32 × xM) :=
  (tbd (0 : Int32) (f_X6_checkStall a1 M) (fun r4 M3 => (f_X6_bestLantern_c12  a1 (-1) (-1) 0 M3)))
def f_X6_passMinutes (a1 : Int32) (M : xM) : Option (Nat × Int32 × xM) :=
  (tbd (0 : Int32) (f_X6_checkRange a1 1 100 M) (fun r4 M3 => (bd (f_X6_remember  M3) (fun M8 => (bd2 (f_X2_soldInAll 0 M8) (fun r11 M10 => (bd (f_X2_pass 0 a1 M10) (fun M13 => (bd2 (f_X2_soldInAll 0 M13) (fun r16 M15 => (some (0, (r16 - r11), M15))))))))))))
def f_X7_startText  (M : xM) : Option xM :=
  (bd (f_X7_next  (upd (upd (upd M 2502 0) 2503 (-1)) 2515 0)) (fun M2 => (some M2)))
def f_X7_isWord_c62 (k29 : Int32 → Int32 → xM → Option (Int32 × xM)) (a1 : Nat) (v3 : Int32) (s0 : Int32) (s1 : Int32) (M : xM) : Option (Int32 × xM) :=
  (bd2 (f_X7_flag s0 M) (fun r21 M20 => (k29 (s1 + r21) (v3 + 1) M20)))
def fb_X7_isWord_c29 (k29 : Int32 → Int32 → xM → Option (Int32 × xM)) (a1 : Nat) (v2 : Int32) (v3 : Int32) (M : xM) : Option (Int32 × xM) :=
  (bd2 (f_J0_length_8abf5 a1 M) (fun r8 M7 => (if r8 ≤ v3 then (bd2 (f_J0_length_8abf5 a1 M7) (fun r12 M11 => (if v2 = r12 then (some (1, M11)) else (some (0, M11))))) else (gd (inb ((M7 2517) + v3) 700) (bd2 (f_J0_charAt_5068e a1 v3 M7) (fun r17 M16 => (if (M7 (4252 + ((M7 2517) + v3).toNatClampNeg)) = r17 then (f_X7_isWord_c62 k29 a1 v3 1 v2 M16) else (f_X7_isWord_c62 k29 a1 v3 0 v2 M16))))))))
def f_X7_isWord_c29  (a1 : Nat) : Int32 → Int32 → xM → Option (Int32 × xM) :=
  lp (fun _ _ _ => none) (fun k => fb_X7_isWord_c29 k a1) FU
def f_X7_isWord (a1 : Nat) (M : xM) : Option (Int32 × xM) :=
  (if (M 2516) = 0 then (bd2 (f_J0_length_8abf5 a1 M) (fun r4 M3 => (if ((M 2515) - (M 2517)) = r4 then (f_X7_isWord_c29  a1 0 0 M3) else (some (0, M3))))) else (some (0, M)))
def f_X7_commandHere_c125   (v1 : Int32) (v2 : Int32) (s0 : Int32) (M : xM) : Option (Int32 × xM) :=
  (if v1 = (-1) then (if v2 = (-1) then (some (s0, M)) else (some (v2, M))) else (some (v1, M)))
def f_X7_commandHere_c81   (v1 : Int32) (s0 : Int32) (M : xM) : Option (Int32 × xM) :=
  (bd2 (f_X7_isWord 29 M) (fun r27 M26 => (if r27 = 0 then (bd2 (f_X7_isWord 22 M26) (fun r31 M30 => (if r31 = 0 then (bd2 (f_X7_isWord 30 M30) (fun r35 M34 => (if r35 = 0 then (f_X7_commandHere_c125   v1 s0 (-1) M34) else (f_X7_commandHere_c125   v1 s0 8 M34)))) else (f_X7_commandHere_c125   v1 s0 7 M30)))) else (f_X7_commandHere_c125   v1 s0 6 M26))))
def f_X7_commandHere_c40   (s0 : Int32) (M : xM) : Option (Int32 × xM) :=
  (bd2 (f_X7_isWord 26 M) (fun r15 M14 => (if r15 = 0 then (bd2 (f_X7_isWord 27 M14) (fun r19 M18 => (if r19 = 0 then (bd2 (f_X7_isWord 28 M18) (fun r23 M22 => (if r23 = 0 then (f_X7_commandHere_c81   s0 (-1) M22) else (f_X7_commandHere_c81   s0 5 M22)))) else (f_X7_commandHere_c81   s0 4 M18)))) else (f_X7_commandHere_c81   s0 3 M14))))
def f_X7_commandHere  (M : xM) : Option (Int32 × xM) :=
  (bd2 (f_X7_isWord 23 M) (fun r3 M2 => (if r3 = 0 then (bd2 (f_X7_isWord 24 M2) (fun r7 M6 => (if r7 = 0 then (bd2 (f_X7_isWord 25 M6) (fun r11 M10 => (if r11 = 0 then (f_X7_commandHere_c40   (-1) M10) else (f_X7_commandHere_c40   2 M10)))) else (f_X7_commandHere_c40   1 M6)))) else (f_X7_commandHere_c40   0 M2))))
def f_X7_lanternInto_c58  (a1 : Int32) (s0 : Int32) (s1 : Int32) (M : xM) : Option (Int32 × xM) :=
  (gd (inb s1 5) (gd (inb a1 5) (bd2 (f_X7_wordRead ((upd M (4147 + s1.toNatClampNeg) s0) (4147 + a1.toNatClampNeg)) (upd M (4147 + s1.toNatClampNeg) s0)) (fun r21 M20 => (gd (isb r21) (some (r21, M20)))))))
def f_X7_lanternInto (a1 : Int32) (M : xM) : Option (Int32 × xM) :=
  (bd2 (f_X7_isWord 31 M) (fun r3 M2 => (if r3 = 0 then (bd2 (f_X7_isWord 32 M2) (fun r7 M6 => (if r7 = 0 then (bd2 (f_X7_isWord 33 M6) (fun r11 M10 => (if r11 = 0 then (bd2 (f_X7_isWord 34 M10) (fun r15 M14 => (if r15 = 0 then (f_X7_lanternInto_c58  a1 (-1) a1 M14) else (f_X7_lanternInto_c58  a1 3 a1 M14)))) else (f_X7_lanternInto_c58  a1 2 a1 M10)))) else (f_X7_lanternInto_c58  a1 1 a1 M6)))) else (f_X7_lanternInto_c58  a1 0 a1 M2))))
def f_X7_textureInto_c45  (a1 : Int32) (s0 : Int32) (s1 : Int32) (M : xM) : Option (Int32 × xM) :=
  (gd (inb s1 5) (gd (inb a1 5) (bd2 (f_X7_wordRead ((upd M (4147 + s1.toNatClampNeg) s0) (4147 + a1.toNatClampNeg)) (upd M (4147 + s1.toNatClampNeg) s0)) (fun r17 M16 => (gd (isb r17) (some (r17, M16)))))))
def f_X7_textureInto (a1 : Int32) (M : xM) : Option (Int32 × xM) :=
  (bd2 (f_X7_isWord 35 M) (fun r3 M2 => (if r3 = 0 then (bd2 (f_X7_isWord 36 M2) (fun r7 M6 => (if r7 = 0 then (bd2 (f_X7_isWord 37 M6) (fun r11 M10 => (if r11 = 0 then (f_X7_textureInto_c45  a1 (-1) a1 M10) else (f_X7_textureInto_c45  a1 2 a1 M10)))) else (f_X7_textureInto_c45  a1 1 a1 M6)))) else (f_X7_textureInto_c45  a1 0 a1 M2))))
def f_X7_act (a1 : Int32) (a2 : Int32) (M : xM) : Option (Int32 × xM) :=
  (bd2 (f_X7_by a1 4 M) (fun r3 M2 => (if r3 = (-1) then (bd2 (f_X7_target a1 a2 M2) (fun r7 M6 => (if r7 = (-1) then (some (0, M6)) else (bd2 (f_X7_st r7 0 M6) (fun r11 M10 => (bd (f_X7_walk a1 r11 M10) (fun M13 => (bd2 (f_X7_by a1 0 M13) (fun r16 M15 => (bd2 (f_X7_st r7 0 M15) (fun r19 M18 => (if r16 = r19 then (bd (f_X7_takes a1 r7 M18) (fun M22 => (some (0, M22)))) else (some (0, M18)))))))))))))) else (bd (f_X7_walk a1 (M2 2527) M2) (fun M24 => (bd2 (f_X7_by a1 0 M24) (fun r27 M26 => (if r27 = (M26 2527) then (bd2 (f_X7_pay a1 M26) (fun r31 M30 => (some (r31, M30)))) else (some (0, M26))))))))))
def fb_X3_appendText_c2 (k2 : Int32 → xM → Option xM) (a1 : Nat) (v2 : Int32) (M : xM) : Option xM :=
  (bd2 (f_J0_length_8abf5 a1 M) (fun r3 M2 => (if r3 ≤ v2 then (some M2) else (bd2 (f_J0_charAt_5068e a1 v2 M2) (fun r7 M6 => (bd (f_X3_appendByte r7 M6) (fun M9 => (k2 (v2 + 1) M9))))))))
def f_X3_appendText_c2  (a1 : Nat) : Int32 → xM → Option xM :=
  lp (fun _ _ => none) (fun k => fb_X3_appendText_c2 k a1) FU
def f_X3_appendText (a1 : Nat) (M : xM) : Option xM :=
  (f_X3_appendText_c2  a1 0 M)
def f_X3_readWord (a1 : Nat) (M : xM) : Option (Int32 × xM) :=
  (bd (f_X3_readToken  M) (fun M2 => (bd2 (f_X3_isWord a1 M2) (fun r5 M4 => (if r5 = 0 then (bd2 (f_X3_fail 1 M4) (fun r9 M8 => (if r9 = 0 then (some (0, M8)) else (some (1, M8))))) else (some (1, M4)))))))
def f_X3_readArgument_c33  (a1 : Nat) (a2 : Int32) (a3 : Int32) (s0 : Int32) (M : xM) : Option (Int32 × xM) :=
  (bd (f_X3_keepArgument a3 s0 M) (fun M33 => (if s0 = (-1) then (bd2 (f_X3_fail 1 M33) (fun r37 M36 => (if r37 = 0 then (some (0, M36)) else (some (1, M36))))) else (some (1, M33)))))
def f_X3_readArgument_c16  (a1 : Nat) (a2 : Int32) (a3 : Int32)  (M : xM) : Option (Int32 × xM) :=
  (if a2 = 108 then (bd2 (f_X3_lanternRead  M) (fun r31 M30 => (f_X3_readArgument_c33  a1 a2 a3 r31 M30))) else (bd2 (f_X3_textureRead  M) (fun r28 M27 => (f_X3_readArgument_c33  a1 a2 a3 r28 M27))))
def f_X3_readArgument (a1 : Nat) (a2 : Int32) (a3 : Int32) (M : xM) : Option (Int32 × xM) :=
  (bd (f_X3_readToken  M) (fun M2 => (if a2 = 108 then (f_X3_readArgument_c16  a1 a2 a3  M2) else (if a2 = 116 then (f_X3_readArgument_c16  a1 a2 a3  M2) else (bd2 (f_X3_lowest a2 M2) (fun r7 M6 => (bd2 (f_X3_highest a2 a1 M6) (fun r10 M9 => (bd2 (f_X3_isNumberFrom r7 r10 M9) (fun r13 M12 => (if r13 = 0 then (some (0, M12)) else (bd (f_X3_keepArgument a3 (M12 1786) M12) (fun M16 => (bd2 (f_X3_isRefusedBy a1 a3 M16) (fun r19 M18 => (if r19 = 0 then (some (1, M18)) else (bd2 (f_X3_fail 3 M18) (fun r23 M22 => (if r23 = 0 then (some (0, M22)) else (some (1, M22)))))))))))))))))))))
def f_X2_perform (a0 : Nat) (M : xM) : Option xM :=
  (if (M 1781) = 0 then (some M) else (bd2 (f_X3_argument 0 M) (fun r4 M3 => (bd2 (f_X3_argument 1 M3) (fun r7 M6 => (gd (inb ((M6 1781) - 1) 9) (gd (inb (nI ((M6 1781) - 1).toNatClampNeg) 9) (if (x_smap (nI ((M6 1781) - 1).toNatClampNeg).toNatClampNeg) = 1 then (bd2 (f_X3_argument 2 M6) (fun r13 M12 => (bd2 (f_X3_argument 3 M12) (fun r16 M15 => (bd2 (f_X3_argument 4 M15) (fun r19 M18 => (bd2 (f_X2_placeStall a0 r4 r7 r13 r16 r19 M18) (fun r22 M21 => (some M21))))))))) else if (x_smap (nI ((M6 1781) - 1).toNatClampNeg).toNatClampNeg) = 2 then (bd2 (f_X3_argument 2 M6) (fun r26 M25 => (bd2 (f_X3_argument 3 M25) (fun r29 M28 => (bd2 (f_X2_placeBuyer a0 r4 r7 r26 r29 M28) (fun r32 M31 => (some M31))))))) else if (x_smap (nI ((M6 1781) - 1).toNatClampNeg).toNatClampNeg) = 3 then (if r4 < 0 then (some M6) else (if (M6 (a0 + 8)) ≤ r4 then (some M6) else (gd (inb r4 12) (some (upd M6 ((a0 + 11) + r4.toNatClampNeg) r7))))) else if (x_smap (nI ((M6 1781) - 1).toNatClampNeg).toNatClampNeg) = 4 then (bd2 (f_X2_isBuyer a0 r4 M6) (fun r40 M39 => (if r40 = 0 then (some M39) else (gd (inb r4 6) (bd (f_X2_returnAndAvoid a0 ((a0 + 77) + 8 * r4.toNatClampNeg) M39) (fun M45 => (some M45))))))) else if (x_smap (nI ((M6 1781) - 1).toNatClampNeg).toNatClampNeg) = 5 then (bd (f_X2_pass a0 r4 M6) (fun M48 => (some M48))) else (bd2 (f_X2_isStall a0 r4 M6) (fun r51 M50 => (if r51 = 0 then (some M50) else (gd (inb r4 6) (gd (inb ((M50 1781) - 1) 9) ((bd (f_X2_changeStall (M50 1781) ((a0 + 23) + 9 * r4.toNatClampNeg) r7 M50) (fun M57 => (some M57)))))))))))))))))
def f_X7_expects (a1 : Nat) (M : xM) : Option (Int32 × xM) :=
  (bd2 (f_X7_isWord a1 M) (fun r3 M2 => (if r3 = 0 then (bd2 (f_X7_wrong 1 M2) (fun r9 M8 => (gd (isb r9) (some (r9, M8))))) else (bd (f_X7_next  M2) (fun M6 => (some (1, M6)))))))
def f_X7_argumentsText_c308  (a1 : Int32)  (M : xM) : Option (Int32 × xM) :=
  (bd2 (f_X7_into 0 0 ((M 2529) - 1) M) (fun r88 M87 => (if r88 = 0 then (some (0, M87)) else (bd2 (f_X7_stockInto  M87) (fun r92 M91 => (if r92 = 0 then (some (0, M91)) else (some (1, M91))))))))
def f_X7_argumentsText (a1 : Int32) (M : xM) : Option (Int32 × xM) :=
  (if a1 = 0 then (bd2 (f_X7_into 0 0 99 M) (fun r4 M3 => (if r4 = 0 then (some (0, M3)) else (bd2 (f_X7_lanternInto 1 M3) (fun r8 M7 => (if r8 = 0 then (some (0, M7)) else (bd2 (f_X7_textureInto 2 M7) (fun r12 M11 => (if r12 = 0 then (some (0, M11)) else (bd2 (f_X7_into 3 1 999 M11) (fun r16 M15 => (if r16 = 0 then (some (0, M15)) else (bd2 (f_X7_into 4 0 99 M15) (fun r20 M19 => (if r20 = 0 then (some (0, M19)) else (some (1, M19))))))))))))))))) else if a1 = 1 then (bd2 (f_X7_into 0 0 99 M) (fun r25 M24 => (if r25 = 0 then (some (0, M24)) else (bd2 (f_X7_into 1 0 9999 M24) (fun r29 M28 => (if r29 = 0 then (some (0, M28)) else (bd2 (f_X7_textureInto 2 M28) (fun r33 M32 => (if r33 = 0 then (some (0, M32)) else (bd2 (f_X7_into 3 1 20 M32) (fun r37 M36 => (if r37 = 0 then (some (0, M36)) else (some (1, M36)))))))))))))) else if a1 = 2 then (bd2 (f_X7_into 0 0 ((M 2529) - 1) M) (fun r42 M41 => (if r42 = 0 then (some (0, M41)) else (bd2 (f_X7_into 1 1 999 M41) (fun r46 M45 => (if r46 = 0 then (some (0, M45)) else (some (1, M45)))))))) else if a1 = 3 then (f_X7_argumentsText_c308  a1  M) else if a1 = 4 then (bd2 (f_X7_into 0 0 ((M 2529) - 1) M) (fun r52 M51 => (if r52 = 0 then (some (0, M51)) else (bd2 (f_X7_lanternInto 1 M51) (fun r56 M55 => (if r56 = 0 then (some (0, M55)) else (some (1, M55)))))))) else if a1 = 5 then (bd2 (f_X7_into 0 1 100 M) (fun r61 M60 => (gd (isb r61) (some (r61, M60))))) else if a1 = 6 then (bd2 (f_X7_into 0 0 ((M 2529) - 1) M) (fun r66 M65 => (if r66 = 0 then (some (0, M65)) else (bd2 (f_X7_into 1 0 99 M65) (fun r70 M69 => (if r70 = 0 then (some (0, M69)) else (some (1, M69)))))))) else if a1 = 7 then (bd2 (f_X7_into 0 0 ((M 2528) - 1) M) (fun r75 M74 => (if r75 = 0 then (some (0, M74)) else (bd2 (f_X7_into 1 0 9 M74) (fun r79 M78 => (if r79 = 0 then (some (0, M78)) else (some (1, M78)))))))) else if a1 = 8 then (bd2 (f_X7_holderInto  M) (fun r84 M83 => (gd (isb r84) (some (r84, M83))))) else (f_X7_argumentsText_c308  a1  M))
def f_X7_passMinute_c106 (k58 : Int32 → Int32 → Int32 → xM → Option (Int32 × xM))  (v1 : Int32) (v2 : Int32) (v3 : Int32) (M : xM) : Option (Int32 × xM) :=
  (k58 v1 v2 (v3 + 1) M)
def f_X7_passMinute_c122   (v2 : Int32) (M : xM) : Option (Int32 × xM) :=
  (some (v2, (upd M 2520 ((M 2520) + 1))))
def fb_X7_passMinute_c58 (k58 : Int32 → Int32 → Int32 → xM → Option (Int32 × xM))  (v1 : Int32) (v2 : Int32) (v3 : Int32) (M : xM) : Option (Int32 × xM) :=
  (if (M 2529) ≤ v3 then (f_X7_passMinute_c122   v2 (upd M 2523 ((M 2523) + 1))) else (bd2 (f_X7_st v3 4 M) (fun r14 M13 => (if r14 ≤ 0 then (f_X7_passMinute_c106 k58  v1 v2 v3 M13) else (bd2 (f_X7_st v3 1 M13) (fun r18 M17 => (bd2 (f_X7_guardOf r18 M17) (fun r21 M20 => (if v1 ≤ r21 then (f_X7_passMinute_c106 k58  v1 v2 v3 M20) else (bd (f_X7_more v3 4 (-1) M20) (fun M24 => (bd (f_X7_more v3 6 1 M24) (fun M26 => (f_X7_passMinute_c106 k58  v1 v2 v3 M26))))))))))))))
def f_X7_passMinute_c58   : Int32 → Int32 → Int32 → xM → Option (Int32 × xM) :=
  lp (fun _ _ _ _ => none) (fun k => fb_X7_passMinute_c58 k ) FU
def fb_X7_passMinute_c30 (k30 : Int32 → Int32 → Int32 → xM → Option (Int32 × xM))  (v1 : Int32) (v2 : Int32) (v3 : Int32) (M : xM) : Option (Int32 × xM) :=
  (if (M 2530) ≤ v3 then (f_X7_passMinute_c58   v1 v2 0 M) else (bd2 (f_X7_act v3 v1 M) (fun r10 M9 => (k30 v1 (v2 + r10) (v3 + 1) M9))))
def f_X7_passMinute_c30   : Int32 → Int32 → Int32 → xM → Option (Int32 × xM) :=
  lp (fun _ _ _ _ => none) (fun k => fb_X7_passMinute_c30 k ) FU
def f_X7_passMinute  (M : xM) : Option (Int32 × xM) :=
  (bd2 (f_X7_fogAt (M 2520) M) (fun r3 M2 => (bd (f_X7_stepBell r3 M2) (fun M5 => (if (M5 2521) = 1 then (f_X7_passMinute_c30   r3 0 0 M5) else (f_X7_passMinute_c122   0 M5))))))
def f_X7_minutesTo_c73 (k8 : Int32 → Int32 → xM → Option (Int32 × xM)) (a1 : Int32) (v3 : Int32) (s0 : Int32) (M : xM) : Option (Int32 × xM) :=
  (k8 s0 (v3 + 1) M)
def f_X7_minutesTo_c61 (k8 : Int32 → Int32 → xM → Option (Int32 × xM)) (a1 : Int32) (v3 : Int32) (s0 : Int32) (M : xM) : Option (Int32 × xM) :=
  (if s0 = 0 then (f_X7_minutesTo_c73 k8 a1 v3 (-1) M) else (f_X7_minutesTo_c73 k8 a1 v3 v3 M))
def fb_X7_minutesTo_c8 (k8 : Int32 → Int32 → xM → Option (Int32 × xM)) (a1 : Int32) (v2 : Int32) (v3 : Int32) (M : xM) : Option (Int32 × xM) :=
  (if 200 < v3 then (bd2 (f_X7_leaveTrial v2 M) (fun r6 M5 => (some (r6, M5)))) else (if v2 = (-1) then (bd2 (f_X7_passMinute  M) (fun r13 M12 => (if a1 = 0 then (if (M12 2524) ≤ (M 2524) then (f_X7_minutesTo_c61 k8 a1 v3 0 M12) else (f_X7_minutesTo_c61 k8 a1 v3 1 M12)) else (f_X7_minutesTo_c61 k8 a1 v3 (M12 2512) M12)))) else (bd2 (f_X7_leaveTrial v2 M) (fun r10 M9 => (some (r10, M9))))))
def f_X7_minutesTo_c8  (a1 : Int32) : Int32 → Int32 → xM → Option (Int32 × xM) :=
  lp (fun _ _ _ => none) (fun k => fb_X7_minutesTo_c8 k a1) FU
def f_X7_minutesTo (a1 : Int32) (M : xM) : Option (Int32 × xM) :=
  (bd (f_X7_startTrial  M) (fun M2 => (f_X7_minutesTo_c8  a1 (-1) 0 M2)))
def f_X7_minutesToEnd  (M : xM) : Option (Int32 × xM) :=
  (if ((upd M 2504 0) 2521) = 1 then (bd2 (f_X7_minutesTo 1 (upd M 2504 0)) (fun r4 M3 => (some (r4, M3)))) else (some ((-1), (upd M 2504 0))))
def f_X7_minutesToPay_c54  (a1 : Int32) (v2 : Int32) (v3 : Int32) (M : xM) : Option (Int32 × xM) :=
  (bd2 (f_X7_by a1 7 M) (fun r20 M19 => (if r20 = v2 then (bd2 (f_X7_leaveTrial (-1) M19) (fun r27 M26 => (some (r27, M26)))) else (bd2 (f_X7_leaveTrial v3 M19) (fun r24 M23 => (some (r24, M23)))))))
def fb_X7_minutesToPay_c24 (k24 : Int32 → Int32 → xM → Option (Int32 × xM)) (a1 : Int32) (v2 : Int32) (v3 : Int32) (M : xM) : Option (Int32 × xM) :=
  (if 200 ≤ v3 then (f_X7_minutesToPay_c54  a1 v2 v3 M) else (bd2 (f_X7_by a1 7 M) (fun r13 M12 => (if r13 = v2 then (bd2 (f_X7_passMinute  M12) (fun r17 M16 => (k24 v2 (v3 + 1) M16))) else (f_X7_minutesToPay_c54  a1 v2 v3 M12)))))
def f_X7_minutesToPay_c24  (a1 : Int32) : Int32 → Int32 → xM → Option (Int32 × xM) :=
  lp (fun _ _ _ => none) (fun k => fb_X7_minutesToPay_c24 k a1) FU
def f_X7_minutesToPay (a1 : Int32) (M : xM) : Option (Int32 × xM) :=
  (bd2 (f_X7_isBuyer a1 M) (fun r3 M2 => (if r3 = 0 then (some (0, M2)) else (bd (f_X7_startTrial  M2) (fun M6 => (bd2 (f_X7_by a1 7 M6) (fun r9 M8 => (f_X7_minutesToPay_c24  a1 r9 0 M8))))))))
def f_X7_nextPayer_c79 (k13 : Int32 → Int32 → xM → Option (Int32 × xM)) (k41 : Int32 → Int32 → Int32 → xM → Option (Int32 × xM))  (v2 : Int32) (v4 : Int32) (s0 : Int32) (M : xM) : Option (Int32 × xM) :=
  (k41 s0 v2 (v4 + (-1)) M)
def fb_X7_nextPayer_c41 (k13 : Int32 → Int32 → xM → Option (Int32 × xM)) (k41 : Int32 → Int32 → Int32 → xM → Option (Int32 × xM))  (v1 : Int32) (v2 : Int32) (v4 : Int32) (M : xM) : Option (Int32 × xM) :=
  (if v4 < 0 then (k13 v1 (v2 + 1) M) else (bd2 (f_X7_by v4 7 M) (fun r17 M16 => (gd (inb ((77 + (8 * v4)) + 7) 125) (if r17 ≤ (M16 (2770 + ((77 + (8 * v4)) + 7).toNatClampNeg)) then (f_X7_nextPayer_c79 k13 k41  v2 v4 v1 M16) else (f_X7_nextPayer_c79 k13 k41  v2 v4 v4 M16))))))
def f_X7_nextPayer_c41 (k13 : Int32 → Int32 → xM → Option (Int32 × xM))  : Int32 → Int32 → Int32 → xM → Option (Int32 × xM) :=
  lp (fun _ _ _ _ => none) (fun k => fb_X7_nextPayer_c41 k13 k ) FU
def fb_X7_nextPayer_c13 (k13 : Int32 → Int32 → xM → Option (Int32 × xM))  (v1 : Int32) (v2 : Int32) (M : xM) : Option (Int32 × xM) :=
  (if 200 ≤ v2 then (bd2 (f_X7_leaveTrial v1 M) (fun r6 M5 => (some (r6, M5)))) else (if v1 = (-1) then (bd2 (f_X7_passMinute  M) (fun r13 M12 => (f_X7_nextPayer_c41 k13  v1 v2 ((M12 2530) - 1) M12))) else (bd2 (f_X7_leaveTrial v1 M) (fun r10 M9 => (some (r10, M9))))))
def f_X7_nextPayer_c13   : Int32 → Int32 → xM → Option (Int32 × xM) :=
  lp (fun _ _ _ => none) (fun k => fb_X7_nextPayer_c13 k ) FU
def f_X7_nextPayer  (M : xM) : Option (Int32 × xM) :=
  (bd (f_X7_startTrial  (upd M 2504 0)) (fun M2 => (f_X7_nextPayer_c13   (-1) 0 M2)))
def f_X3_readHead (a1 : Nat) (M : xM) : Option (Int32 × xM) :=
  (bd2 (f_X3_readWord 1 M) (fun r3 M2 => (if r3 = 0 then (some (0, M2)) else (bd2 (f_X3_readNumber 1 9 M2) (fun r7 M6 => (if r7 = 0 then (some (0, M6)) else (bd2 (f_X3_readNumber 1 60 M6) (fun r11 M10 => (if r11 = 0 then (some (0, M10)) else (bd2 (f_X3_readNumber 0 99 M10) (fun r15 M14 => (if r15 = 0 then (some (0, M14)) else (bd (f_X2_reset a1 (M6 1786) (M10 1786) (M14 1786) M14) (fun M18 => (bd2 (f_X3_readSemicolon  M18) (fun r21 M20 => (if r21 = 0 then (some (0, M20)) else (bd2 (f_X3_readWord 2 M20) (fun r25 M24 => (if r25 = 0 then (some (0, M24)) else (bd2 (f_X3_readFog a1 M24) (fun r29 M28 => (if r29 = 0 then (some (0, M28)) else (some (1, M28)))))))))))))))))))))))))
def fb_X3_readCommand_c56 (k56 : Int32 → xM → Option (Int32 × xM)) (a1 : Nat) (a2 : Int32) (v3 : Int32) (M : xM) : Option (Int32 × xM) :=
  (gd (inb ((M 1781) - 1) 9) (bd2 (f_J0_length_8abf5 (x_vk ((M 1781) - 1).toNatClampNeg) M) (fun r28 M27 => (if r28 ≤ v3 then (bd2 (f_X3_readSemicolon  M27) (fun r32 M31 => (gd (isb r32) (some (r32, M31))))) else (gd (inb ((M27 1781) - 1) 9) (bd2 (f_J0_charAt_5068e (x_vk ((M27 1781) - 1).toNatClampNeg) v3 M27) (fun r37 M36 => (bd2 (f_X3_readArgument a1 r37 v3 M36) (fun r40 M39 => (if r40 = 0 then (some (0, M39)) else (k56 (v3 + 1) M39)))))))))))
def f_X3_readCommand_c56  (a1 : Nat) (a2 : Int32) : Int32 → xM → Option (Int32 × xM) :=
  lp (fun _ _ => none) (fun k => fb_X3_readCommand_c56 k a1 a2) FU
def f_X3_readCommand (a1 : Nat) (a2 : Int32) (M : xM) : Option (Int32 × xM) :=
  (bd (f_X3_readToken  M) (fun M2 => (if (M2 1784) = 0 then (some (0, M2)) else (bd2 (f_X3_verbRead  M2) (fun r6 M5 => (if ((upd M5 1781 r6) 1781) = 0 then (bd2 (f_X3_fail 1 (upd M5 1781 r6)) (fun r23 M22 => (gd (isb r23) (some (r23, M22))))) else (if 40 ≤ a2 then (bd2 (f_X3_fail 4 (upd M5 1781 r6)) (fun r11 M10 => (gd (isb r11) (some (r11, M10))))) else (bd2 (f_X3_hasNoRoom a1 (upd M5 1781 r6)) (fun r15 M14 => (if r15 = 0 then (f_X3_readCommand_c56  a1 a2 0 M14) else (bd2 (f_X3_fail 4 M14) (fun r19 M18 => (gd (isb r19) (some (r19, M18)))))))))))))))
def fb_X7_passAll_c4 (k4 : Int32 → Int32 → xM → Option (Int32 × xM)) (a1 : Int32) (v2 : Int32) (v3 : Int32) (M : xM) : Option (Int32 × xM) :=
  (if a1 ≤ v3 then (some (v2, M)) else (bd2 (f_X7_passMinute  M) (fun r4 M3 => (k4 (v2 + r4) (v3 + 1) M3))))
def f_X7_passAll_c4  (a1 : Int32) : Int32 → Int32 → xM → Option (Int32 × xM) :=
  lp (fun _ _ _ => none) (fun k => fb_X7_passAll_c4 k a1) FU
def f_X7_passAll (a1 : Int32) (M : xM) : Option (Int32 × xM) :=
  (f_X7_passAll_c4  a1 0 0 M)
def f_X7_minutesToBell  (M : xM) : Option (Int32 × xM) :=
  (bd2 (f_X7_minutesTo 0 (upd M 2504 0)) (fun r3 M2 => (some (r3, M2))))
def fb_X7_bestBellPosition_c11 (k11 : Int32 → Int32 → Int32 → xM → Option (Int32 × xM))  (v1 : Int32) (v2 : Int32) (v3 : Int32) (M : xM) : Option (Int32 × xM) :=
  (if 100 ≤ v3 then (some (v1, M)) else (bd (f_X7_startTrial  M) (fun M3 => (bd2 (f_X7_passAll 60 (upd M3 2527 v3)) (fun r6 M5 => (bd2 (f_X7_sumOf 7 M5) (fun r9 M8 => (bd2 (f_X7_leaveTrial r9 M8) (fun r12 M11 => (if r12 ≤ v2 then (k11 v1 v2 (v3 + 1) M11) else (k11 v3 r12 (v3 + 1) M11)))))))))))
def f_X7_bestBellPosition_c11   : Int32 → Int32 → Int32 → xM → Option (Int32 × xM) :=
  lp (fun _ _ _ _ => none) (fun k => fb_X7_bestBellPosition_c11 k ) FU
def f_X7_bestBellPosition  (M : xM) : Option (Int32 × xM) :=
  (f_X7_bestBellPosition_c11   0 (-1) 0 (upd M 2504 0))
def f_X7_earnedIn (a1 : Int32) (a2 : Int32) (M : xM) : Option (Int32 × xM) :=
  (bd2 (f_X7_passAll a2 M) (fun r3 M2 => (bd2 (f_X7_st a1 7 M2) (fun r6 M5 => (bd2 (f_X7_leaveTrial r6 M5) (fun r9 M8 => (some (r9, M8))))))))
def fb_X7_best_c9 (k9 : Int32 → Int32 → Int32 → xM → Option (Int32 × xM)) (a1 : Int32) (a2 : Int32) (a3 : Int32) (a4 : Int32) (v5 : Int32) (v6 : Int32) (v7 : Int32) (M : xM) : Option (Int32 × xM) :=
  (if a4 < v7 then (some (v5, M)) else (bd (f_X7_startTrial  M) (fun M3 => (gd (inb ((23 + (9 * a1)) + a2) 125) (bd2 (f_X7_earnedIn a1 60 (upd M3 (2520 + ((23 + (9 * a1)) + a2).toNatClampNeg) v7)) (fun r7 M6 => (if r7 ≤ v6 then (k9 v5 v6 (v7 + 1) M6) else (k9 v7 r7 (v7 + 1) M6))))))))
def f_X7_best_c9  (a1 : Int32) (a2 : Int32) (a3 : Int32) (a4 : Int32) : Int32 → Int32 → Int32 → xM → Option (Int32 × xM) :=
  lp (fun _ _ _ _ => none) (fun k => fb_X7_best_c9 k a1 a2 a3 a4) FU
def f_X7_best (a1 : Int32) (a2 : Int32) (a3 : Int32) (a4 : Int32) (M : xM) : Option (Int32 × xM) :=
  (f_X7_best_c9  a1 a2 a3 a4 a3 (-1) a3 M)
def f_X7_bestLantern (a1 : Int32) (M : xM) : Option (Int32 × xM) :=
  (bd2 (f_X7_isStall a1 M) (fun r3 M2 => (if r3 = 0 then (some (0, M2)) else (bd2 (f_X7_best a1 1 0 3 M2) (fun r7 M6 => (some (r7, M6)))))))
def f_X7_passMinutes (a1 : Int32) (M : xM) : Option (Int32 × xM) :=
  (bd2 (f_X7_inRange a1 1 100 (upd M 2504 0)) (fun r3 M2 => (bd2 (f_X7_fails r3 1 M2) (fun r6 M5 => (if r6 = 0 then (bd (f_X7_record  M5) (fun M9 => (bd2 (f_X7_passAll a1 M9) (fun r12 M11 => (some (r12, M11)))))) else (some (0, M5)))))))
def fb_X6_readCommands_c2 (k2 : Int32 → xM → Option (Int32 × xM))  (v1 : Int32) (M : xM) : Option (Int32 × xM) :=
  (if 40 < v1 then (some ((-1), M)) else (bd2 (f_X3_readCommand 128 v1 M) (fun r4 M3 => (if r4 = 0 then (if (M3 1779) = 0 then (some (v1, M3)) else (some ((-1), M3))) else (bd (f_X2_perform 128 M3) (fun M7 => (k2 (v1 + 1) M7)))))))
def f_X6_readCommands_c2   : Int32 → xM → Option (Int32 × xM) :=
  lp (fun _ _ => none) (fun k => fb_X6_readCommands_c2 k ) FU
def f_X6_readCommands  (M : xM) : Option (Int32 × xM) :=
  (f_X6_readCommands_c2   0 M)
def f_X6_runScript  (M : xM) : Option (Int32 × xM) :=
  (bd (f_X2_copyFrom 128 0 M) (fun M2 => (bd (f_X3_begin  M2) (fun M4 => (bd2 (f_X6_readCommands  M4) (fun r7 M6 => (bd (f_X3_clear  M6) (fun M9 => (if r7 = (-1) then (some ((-1), M9)) else (bd (f_X6_remember  M9) (fun M12 => (bd (f_X2_copyFrom 0 128 M12) (fun M14 => (some (r7, M14)))))))))))))))
def f_X7_does_c233  (a1 : Int32)  (M : xM) : Option (Int32 × xM) :=
  (bd2 (f_X7_doStock (M 4147) (M 4148) M) (fun r36 M35 => (some (r36, M35))))
def f_X7_does (a1 : Int32) (M : xM) : Option (Int32 × xM) :=
  (if a1 = 0 then (bd2 (f_X7_doStall (M 4147) (M 4148) (M 4149) (M 4150) (M 4151) M) (fun r4 M3 => (some (r4, M3)))) else if a1 = 1 then (bd2 (f_X7_doBuyer (M 4147) (M 4148) (M 4149) (M 4150) M) (fun r8 M7 => (some (r8, M7)))) else if a1 = 2 then (bd2 (f_X7_lays ((23 + (9 * (M 4147))) + 3) (M 4148) M) (fun r12 M11 => (some (r12, M11)))) else if a1 = 3 then (f_X7_does_c233  a1  M) else if a1 = 4 then (bd2 (f_X7_lays ((23 + (9 * (M 4147))) + 1) (M 4148) M) (fun r17 M16 => (some (r17, M16)))) else if a1 = 5 then (bd2 (f_X7_passAll (M 4147) M) (fun r21 M20 => (some (r21, M20)))) else if a1 = 6 then (bd2 (f_X7_lays ((23 + (9 * (M 4147))) + 0) (M 4148) M) (fun r25 M24 => (some (r25, M24)))) else if a1 = 7 then (bd2 (f_X7_lays (11 + (M 4147)) (M 4148) M) (fun r29 M28 => (some (r29, M28)))) else if a1 = 8 then (bd2 (f_X7_doBack (M 4147) M) (fun r33 M32 => (some (r33, M32)))) else (f_X7_does_c233  a1  M))
def f_X7_earningsAfter (a1 : Int32) (a2 : Int32) (M : xM) : Option (Int32 × xM) :=
  (bd2 (f_X7_isStall a1 M) (fun r3 M2 => (if r3 = 0 then (some (0, M2)) else (bd2 (f_X7_inRange a2 0 200 M2) (fun r7 M6 => (bd2 (f_X7_fails r7 2 M6) (fun r10 M9 => (if r10 = 0 then (bd (f_X7_startTrial  M9) (fun M13 => (bd2 (f_X7_earnedIn a1 a2 M13) (fun r16 M15 => (some (r16, M15)))))) else (some (0, M9))))))))))
def f_X7_bestPrice (a1 : Int32) (M : xM) : Option (Int32 × xM) :=
  (bd2 (f_X7_isStall a1 M) (fun r3 M2 => (if r3 = 0 then (some (0, M2)) else (bd2 (f_X7_best a1 3 1 60 M2) (fun r7 M6 => (some (r7, M6)))))))
def fb_X6_replaceMarket_c65 (k65 : Int32 → xM → Option (Int32 × xM))  (v2 : Int32) (M : xM) : Option (Int32 × xM) :=
  (if 2 ≤ v2 then (some (1, M)) else (gd (inb v2 2) (k65 (v2 + 1) (upd M (1675 + v2.toNatClampNeg) (vp_nar .boolean 0)))))
def f_X6_replaceMarket_c65   : Int32 → xM → Option (Int32 × xM) :=
  lp (fun _ _ => none) (fun k => fb_X6_replaceMarket_c65 k ) FU
def f_X6_replaceMarket_c34   (s0 : Int32) (M : xM) : Option (Int32 × xM) :=
  (bd (f_X3_clear  M) (fun M12 => (if s0 = 0 then (some (0, M12)) else (bd (f_X2_copyFrom 0 128 M12) (fun M15 => (bd (f_X6_forgetChanges  M15) (fun M17 => (f_X6_replaceMarket_c65   0 M17))))))))
def f_X6_replaceMarket_c33    (M : xM) : Option (Int32 × xM) :=
  (f_X6_replaceMarket_c34   0 M)
def f_X6_replaceMarket  (M : xM) : Option (Int32 × xM) :=
  (bd (f_X3_begin  M) (fun M2 => (bd2 (f_X3_readHead 128 M2) (fun r5 M4 => (if r5 = 0 then (f_X6_replaceMarket_c33    M4) else (bd2 (f_X6_readCommands  M4) (fun r9 M8 => (if r9 = (-1) then (f_X6_replaceMarket_c33    M8) else (f_X6_replaceMarket_c34   1 M8)))))))))
def f_X6_loadSetup  (M : xM) : Option (Int32 × xM) :=
  (bd2 (f_X6_replaceMarket  M) (fun r3 M2 => (if r3 = 0 then (some ((-1), M2)) else (some ((M2 9), M2)))))
def f_X7_commandText (a1 : Int32) (M : xM) : Option (Int32 × xM) :=
  (bd (f_X7_next  M) (fun M2 => (bd2 (f_X7_argumentsText a1 M2) (fun r5 M4 => (if r5 = 0 then (some (0, M4)) else (bd2 (f_X7_isEnd  M4) (fun r9 M8 => (if r9 = 0 then (some (0, M8)) else (bd2 (f_X7_does a1 M8) (fun r13 M12 => (some (1, M12))))))))))))
def f_X7_commandsText_c90 (k2 : Int32 → xM → Option (Int32 × xM))  (v1 : Int32) (s0 : Int32) (M : xM) : Option (Int32 × xM) :=
  (if s0 = 0 then (some ((-1), M)) else (bd2 (f_X7_semicolon  M) (fun r24 M23 => (if r24 = 0 then (some ((-1), M23)) else (k2 (v1 + 1) M23)))))
def f_X7_commandsText_c77 (k2 : Int32 → xM → Option (Int32 × xM))  (v1 : Int32) (M : xM) : Option (Int32 × xM) :=
  (bd2 (f_X7_wrong 4 M) (fun r20 M19 => (f_X7_commandsText_c90 k2  v1 r20 M19)))
def f_X7_commandsText_c53 (k2 : Int32 → xM → Option (Int32 × xM))  (v1 : Int32) (v2 : Int32) (s0 : Int32) (M : xM) : Option (Int32 × xM) :=
  (if v2 = (-1) then (bd2 (f_X7_wrong 1 M) (fun r17 M16 => (f_X7_commandsText_c90 k2  v1 r17 M16))) else (if s0 = 0 then (if v1 = 40 then (f_X7_commandsText_c77 k2  v1 M) else (bd2 (f_X7_commandText v2 M) (fun r14 M13 => (f_X7_commandsText_c90 k2  v1 r14 M13)))) else (f_X7_commandsText_c77 k2  v1 M)))
def f_X7_commandsText_c48 (k2 : Int32 → xM → Option (Int32 × xM))  (v1 : Int32) (v2 : Int32) (M : xM) : Option (Int32 × xM) :=
  (f_X7_commandsText_c53 k2  v1 v2 1 M)
def f_X7_commandsText_c52 (k2 : Int32 → xM → Option (Int32 × xM))  (v1 : Int32) (v2 : Int32) (M : xM) : Option (Int32 × xM) :=
  (f_X7_commandsText_c53 k2  v1 v2 0 M)
def f_X7_commandsText_c31 (k2 : Int32 → xM → Option (Int32 × xM))  (v1 : Int32) (v2 : Int32) (M : xM) : Option (Int32 × xM) :=
  (if v2 = 1 then (if (M 2530) = 6 then (f_X7_commandsText_c48 k2  v1 v2 M) else (f_X7_commandsText_c52 k2  v1 v2 M)) else (f_X7_commandsText_c52 k2  v1 v2 M))
def fb_X7_commandsText_c2 (k2 : Int32 → xM → Option (Int32 × xM))  (v1 : Int32) (M : xM) : Option (Int32 × xM) :=
  (if (M 2516) = 4 then (some (v1, M)) else (bd2 (f_X7_commandHere  M) (fun r4 M3 => (if r4 = 0 then (if (M3 2529) = 6 then (f_X7_commandsText_c48 k2  v1 r4 M3) else (f_X7_commandsText_c31 k2  v1 r4 M3)) else (f_X7_commandsText_c31 k2  v1 r4 M3)))))
def f_X7_commandsText_c2   : Int32 → xM → Option (Int32 × xM) :=
  lp (fun _ _ => none) (fun k => fb_X7_commandsText_c2 k ) FU
def f_X7_commandsText  (M : xM) : Option (Int32 × xM) :=
  (f_X7_commandsText_c2   0 M)
def fb_X7_runScript_c35 (k35 : Int32 → Int32 → xM → Option (Int32 × xM))  (v1 : Int32) (v2 : Int32) (M : xM) : Option (Int32 × xM) :=
  (if 125 ≤ v2 then (bd (f_X7_pushAside  M) (fun M14 => (some (v1, M14)))) else (gd (inb v2 125) (gd (inb v2 125) (k35 v1 (v2 + 1) (upd M (2645 + v2.toNatClampNeg) (M (2770 + v2.toNatClampNeg)))))))
def f_X7_runScript_c35   : Int32 → Int32 → xM → Option (Int32 × xM) :=
  lp (fun _ _ _ => none) (fun k => fb_X7_runScript_c35 k ) FU
def f_X7_runScript  (M : xM) : Option (Int32 × xM) :=
  (bd (f_X7_startTrial  (upd M 2504 0)) (fun M2 => (bd (f_X7_startText  M2) (fun M4 => (bd2 (f_X7_commandsText  M4) (fun r7 M6 => (if 0 ≤ r7 then (f_X7_runScript_c35   r7 0 (upd M6 2501 0)) else (bd2 (f_X7_leaveTrial (-1) (upd M6 2501 0)) (fun r11 M10 => (some (r11, M10)))))))))))
def f_X7_setupText_c125 (k107 : xM → Option (Int32 × xM))   (M : xM) : Option (Int32 × xM) :=
  (bd2 (f_X7_numberIn 0 9 M) (fun r35 M34 => (if r35 = 0 then (some (0, M34)) else (if (M34 2528) = 12 then (bd2 (f_X7_wrong 4 M34) (fun r43 M42 => (gd (isb r43) (some (r43, M42))))) else (gd (inb (11 + (M34 2528)) 125) (bd (f_X7_next  (upd (upd M34 (2520 + (11 + (M34 2528)).toNatClampNeg) (M34 2518)) 2528 (((upd M34 (2520 + (11 + (M34 2528)).toNatClampNeg) (M34 2518)) 2528) + 1))) (fun M40 => (k107  M40))))))))
def fb_X7_setupText_c107 (k107 : xM → Option (Int32 × xM))   (M : xM) : Option (Int32 × xM) :=
  (if (M 2528) = 0 then (f_X7_setupText_c125 k107   M) else (if (M 2516) = 2 then (bd (f_X7_next  M) (fun M28 => (bd2 (f_X7_commandsText  M28) (fun r31 M30 => (if r31 < 0 then (some (0, M30)) else (some (1, M30))))))) else (f_X7_setupText_c125 k107   M)))
def f_X7_setupText_c107   : xM → Option (Int32 × xM) :=
  lp (fun  _ => none) (fun k => fb_X7_setupText_c107 k ) FU
def f_X7_setupText  (M : xM) : Option (Int32 × xM) :=
  (bd2 (f_X7_expects 21 M) (fun r3 M2 => (if r3 = 0 then (some (0, M2)) else (bd2 (f_X7_into 0 1 9 M2) (fun r7 M6 => (if r7 = 0 then (some (0, M6)) else (bd2 (f_X7_into 1 1 60 M6) (fun r11 M10 => (if r11 = 0 then (some (0, M10)) else (bd2 (f_X7_into 2 0 99 M10) (fun r15 M14 => (if r15 = 0 then (some (0, M14)) else (bd2 (f_X7_semicolon  M14) (fun r19 M18 => (if r19 = 0 then (some (0, M18)) else (bd2 (f_X7_expects 22 (upd (upd (upd (upd M18 2525 (M18 4147)) 2526 ((upd M18 2525 (M18 4147)) 4148)) 2527 ((upd (upd M18 2525 (M18 4147)) 2526 ((upd M18 2525 (M18 4147)) 4148)) 4149)) 2522 1)) (fun r23 M22 => (if r23 = 0 then (some (0, M22)) else (f_X7_setupText_c107    M22)))))))))))))))))))
def fb_X7_loadSetup_c11 (k11 : Int32 → xM → Option (Int32 × xM))  (v1 : Int32) (M : xM) : Option (Int32 × xM) :=
  (if 125 ≤ v1 then (bd (f_X7_startText  M) (fun M5 => (bd2 (f_X7_setupText  M5) (fun r8 M7 => (if r8 = 0 then (bd2 (f_X7_leaveTrial (-1) (upd M7 2501 0)) (fun r12 M11 => (some (r12, M11)))) else (some (((upd (upd (upd (upd M7 2501 0) 2509 0) 4145 (vp_nar .boolean 0)) 4146 (vp_nar .boolean 0)) 2529), (upd (upd (upd (upd M7 2501 0) 2509 0) 4145 (vp_nar .boolean 0)) 4146 (vp_nar .boolean 0))))))))) else (gd (inb v1 125) (k11 (v1 + 1) (upd M (2520 + v1.toNatClampNeg) 0))))
def f_X7_loadSetup_c11   : Int32 → xM → Option (Int32 × xM) :=
  lp (fun _ _ => none) (fun k => fb_X7_loadSetup_c11 k ) FU
def f_X7_loadSetup  (M : xM) : Option (Int32 × xM) :=
  (bd (f_X7_startTrial  (upd M 2504 0)) (fun M2 => (f_X7_loadSetup_c11   0 M2)))
