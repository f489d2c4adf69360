def f_X6_positionOf (a1 : Int32) (M : xM) : Option (Int32 × xM) :=
  (bd2 (f_X6_stallAt a1 M) (fun r3 M2 => (some ((M2 (r3 + 0)), M2))))
def f_X6_placeOf (a1 : Int32) (M : xM) : Option (Int32 × xM) :=
  (bd2 (f_X6_buyerAt a1 M) (fun r3 M2 => (some ((M2 (r3 + 0)), M2))))
def f_X6_remember_c41   (s0 : Int32) (M : xM) : Option xM :=
  (some (upd (upd M 1669 s0) 1670 (imin (((upd M 1669 s0) 1670) + 1) 8)))
def f_X6_remember  (M : xM) : Option xM :=
  (gd (inb (M 1669) 8) (bd (f_X2_copyFrom (384 + 128 * (M 1669).toNatClampNeg) 0 M) (fun M4 => (if 8 ≤ ((M4 1669) + 1) then (f_X6_remember_c41   0 M4) else (f_X6_remember_c41   ((M4 1669) + 1) M4)))))
def fb_X2_moveBell_c57 (k57 : Int32 → xM → Option xM) (a0 : Nat) (a1 : Int32) (v3 : Int32) (M : xM) : Option xM :=
  (if (M (a0 + 10)) ≤ v3 then (some M) else (gd (inb v3 6) (bd (f_X2_returnGood a0 ((a0 + 77) + 8 * v3.toNatClampNeg) M) (fun M13 => (gd (inb v3 6) (k57 (v3 + 1) (upd M13 (((a0 + 77) + 8 * v3.toNatClampNeg) + 6) 0)))))))
def f_X2_moveBell_c57  (a0 : Nat) (a1 : Int32) : Int32 → xM → Option xM :=
  lp (fun _ _ => none) (fun k => fb_X2_moveBell_c57 k a0 a1) FU
def f_X2_moveBell_c45  (a0 : Nat) (a1 : Int32)  (M : xM) : Option xM :=
  (f_X2_moveBell_c57  a0 a1 0 (upd (upd M (a0 + 1) 0) (a0 + 3) 0))
def f_X2_moveBell_c94  (a0 : Nat) (a1 : Int32) (v2 : Int32) (M : xM) : Option xM :=
  (if (M (a0 + 1)) = 0 then (if (M (a0 + 2)) = 0 then (some M) else (if v2 = 0 then (some (upd (upd (upd (upd M (a0 + 1) 1) (a0 + 3) 0) (a0 + 2) 0) (a0 + 4) (((upd (upd (upd M (a0 + 1) 1) (a0 + 3) 0) (a0 + 2) 0) (a0 + 4)) + 1))) else (some M))) else (some M))
def f_X2_moveBell_c23  (a0 : Nat) (a1 : Int32) (v2 : Int32) (M : xM) : Option xM :=
  (if (M (a0 + 1)) = 0 then (f_X2_moveBell_c94  a0 a1 v2 M) else (if v2 = 0 then (if (M (a0 + 3)) < (M (a0 + 6)) then (f_X2_moveBell_c94  a0 a1 v2 M) else (f_X2_moveBell_c45  a0 a1  M)) else (f_X2_moveBell_c45  a0 a1  M)))
def f_X2_moveBell_c13  (a0 : Nat) (a1 : Int32) (s0 : Int32) (M : xM) : Option xM :=
  (if s0 = 0 then (f_X2_moveBell_c23  a0 a1 s0 M) else (f_X2_moveBell_c23  a0 a1 s0 (upd M (a0 + 2) 1)))
def f_X2_moveBell (a0 : Nat) (a1 : Int32) (M : xM) : Option xM :=
  (if (M (a0 + 5)) ≤ a1 then (f_X2_moveBell_c13  a0 a1 0 M) else (f_X2_moveBell_c13  a0 a1 1 M))
def f_X2_letAct (a0 : Nat) (a1 : Nat) (a2 : Int32) (M : xM) : Option xM :=
  (bd2 (f_X2_isStall a0 (M (a1 + 4)) M) (fun r3 M2 => (if r3 = 0 then (bd2 (f_X2_findTarget a0 a1 a2 M2) (fun r7 M6 => (bd2 (f_X2_isStall a0 r7 M6) (fun r10 M9 => (if r10 = 0 then (some M9) else (gd (inb r7 6) (bd (f_X1_walkTo a1 (M9 (((a0 + 23) + 9 * r7.toNatClampNeg) + 0)) M9) (fun M15 => (if (M15 (a1 + 0)) = (M15 (((a0 + 23) + 9 * r7.toNatClampNeg) + 0)) then (bd2 (f_X1_feel a1 ((a0 + 23) + 9 * r7.toNatClampNeg) M15) (fun r19 M18 => (if r19 = 0 then (bd (f_X1_take a1 ((a0 + 23) + 9 * r7.toNatClampNeg) r7 M18) (fun M24 => (some M24))) else (bd (f_X1_avoid a1 r7 M18) (fun M22 => (some M22)))))) else (some M15)))))))))) else (bd (f_X1_walkTo a1 (M2 (a0 + 7)) M2) (fun M26 => (if (M26 (a1 + 0)) = (M26 (a0 + 7)) then (gd (inb (M26 (a1 + 4)) 6) (bd (f_X1_payTo a1 ((a0 + 23) + 9 * (M26 (a1 + 4)).toNatClampNeg) M26) (fun M31 => (some M31)))) else (some M26)))))))
def f_J1_charAt_3b067 (a0 : Nat) (a1 : Int32) (M : xM) : Option (Int32 × xM) :=
  (bd (f_J0_checkIndex_df160 a1 (nI (x_slen a0)) M) (fun M2 => (gd (inb a1 (x_slen a0)) (gd (isn .char ((((x_sb a0 a1.toNatClampNeg) &&& 255).toUInt32 % 65536).toInt32)) (some ((((x_sb a0 a1.toNatClampNeg) &&& 255).toUInt32 % 65536).toInt32, M2))))))
def f_X6_addStall (a1 : Int32) (a2 : Int32) (a3 : Int32) (a4 : Int32) (a5 : Int32) (M : xM) : Option (Int32 × xM) :=
  (bd (f_X6_checkRange a1 0 99 M) (fun M2 => (bd (f_X6_checkRange a2 0 3 M2) (fun M4 => (bd (f_X6_checkRange a3 0 2 M4) (fun M6 => (bd (f_X6_checkRange a4 1 999 M6) (fun M8 => (bd (f_X6_checkRange a5 0 99 M8) (fun M10 => (if (M10 9) < 6 then (bd (f_X6_remember  M10) (fun M13 => (bd2 (f_X2_placeStall 0 a1 a2 a3 a4 a5 M13) (fun r16 M15 => (some (r16, M15)))))) else none)))))))))))
def f_X6_addBuyer (a1 : Int32) (a2 : Int32) (a3 : Int32) (a4 : Int32) (M : xM) : Option (Int32 × xM) :=
  (bd (f_X6_checkRange a1 0 99 M) (fun M2 => (bd (f_X6_checkRange a2 0 9999 M2) (fun M4 => (bd (f_X6_checkRange a3 0 2 M4) (fun M6 => (bd (f_X6_checkRange a4 1 20 M6) (fun M8 => (if (M8 10) < 6 then (bd (f_X6_remember  M8) (fun M11 => (bd2 (f_X2_placeBuyer 0 a1 a2 a3 a4 M11) (fun r14 M13 => (some (r14, M13)))))) else none)))))))))
def f_X6_moveStall (a1 : Int32) (a2 : Int32) (M : xM) : Option (Int32 × xM) :=
  (bd2 (f_X6_stallAt a1 M) (fun r3 M2 => (bd (f_X6_checkRange a2 0 99 M2) (fun M6 => (bd (f_X6_remember  M6) (fun M8 => (some ((M8 (r3 + 0)), (upd M8 (r3 + 0) a2)))))))))
def f_X6_setPrice (a1 : Int32) (a2 : Int32) (M : xM) : Option (Int32 × xM) :=
  (bd2 (f_X6_stallAt a1 M) (fun r3 M2 => (bd (f_X6_checkRange a2 1 999 M2) (fun M6 => (bd (f_X6_remember  M6) (fun M8 => (some ((M8 (r3 + 3)), (upd M8 (r3 + 3) a2)))))))))
def f_X6_addStock (a1 : Int32) (a2 : Int32) (M : xM) : Option (Int32 × xM) :=
  (bd2 (f_X6_stallAt a1 M) (fun r3 M2 => (bd (f_X6_checkRange a2 0 99 M2) (fun M6 => (bd2 (f_X4_hasRoomFor r3 a2 M6) (fun r9 M8 => (if r9 = 0 then none else (bd (f_X6_remember  M8) (fun M12 => (bd (f_X4_receive r3 a2 M12) (fun M14 => (some ((M14 (r3 + 4)), M14)))))))))))))
def f_X6_setLantern (a1 : Int32) (a2 : Int32) (M : xM) : Option (Int32 × xM) :=
  (bd2 (f_X6_stallAt a1 M) (fun r3 M2 => (bd (f_X6_checkRange a2 0 3 M2) (fun M6 => (bd (f_X6_remember  M6) (fun M8 => (some ((M8 (r3 + 1)), (upd M8 (r3 + 1) a2)))))))))
def f_X6_setFog_c15  (a1 : Int32) (a2 : Int32)  (M : xM) : Option (Int32 × xM) :=
  none
def f_X6_setFog (a1 : Int32) (a2 : Int32) (M : xM) : Option (Int32 × xM) :=
  (if a1 < 0 then (f_X6_setFog_c15  a1 a2  M) else (if a1 < (M 8) then (bd (f_X6_checkRange a2 0 9 M) (fun M4 => (bd (f_X6_remember  M4) (fun M6 => (gd (inb a1 12) (gd (inb a1 12) (some ((M6 (11 + a1.toNatClampNeg)), (upd M6 (11 + a1.toNatClampNeg) a2))))))))) else (f_X6_setFog_c15  a1 a2  M)))
def f_X6_putBack (a1 : Int32) (M : xM) : Option (Int32 × xM) :=
  (bd2 (f_X6_buyerAt a1 M) (fun r3 M2 => (bd2 (f_X1_holds r3 M2) (fun r7 M6 => (if r7 = 0 then none else (bd (f_X6_remember  M6) (fun M10 => (bd (f_X2_returnAndAvoid 0 r3 M10) (fun M12 => (some ((M10 (r3 + 4)), M12)))))))))))
def f_X2_pass_c83 (k2 : Int32 → xM → Option xM) (a0 : Nat) (a1 : Int32) (v2 : Int32) (M : xM) : Option xM :=
  (bd (f_X2_countMinute a0 M) (fun M9 => (k2 (v2 + 1) M9)))
def fb_X2_pass_c57 (k2 : Int32 → xM → Option xM) (k57 : Int32 → Int32 → Int32 → xM → Option xM) (a0 : Nat) (a1 : Int32) (v2 : Int32) (v3 : Int32) (v4 : Int32) (M : xM) : Option xM :=
  (if (M (a0 + 9)) ≤ v4 then (f_X2_pass_c83 k2 a0 a1 v2 M) else (gd (inb v4 6) (bd (f_X4_letMistIn ((a0 + 23) + 9 * v4.toNatClampNeg) v3 M) (fun M19 => (k57 v2 v3 (v4 + 1) M19)))))
def f_X2_pass_c57 (k2 : Int32 → xM → Option xM) (a0 : Nat) (a1 : Int32) : Int32 → Int32 → Int32 → xM → Option xM :=
  lp (fun _ _ _ _ => none) (fun k => fb_X2_pass_c57 k2 k a0 a1) FU
def fb_X2_pass_c27 (k2 : Int32 → xM → Option xM) (k27 : Int32 → Int32 → Int32 → xM → Option xM) (a0 : Nat) (a1 : Int32) (v2 : Int32) (v3 : Int32) (v4 : Int32) (M : xM) : Option xM :=
  (if (M (a0 + 10)) ≤ v4 then (f_X2_pass_c57 k2 a0 a1 v2 v3 0 M) else (gd (inb v4 6) (bd (f_X2_letAct a0 ((a0 + 77) + 8 * v4.toNatClampNeg) v3 M) (fun M14 => (k27 v2 v3 (v4 + 1) M14)))))
def f_X2_pass_c27 (k2 : Int32 → xM → Option xM) (a0 : Nat) (a1 : Int32) : Int32 → Int32 → Int32 → xM → Option xM :=
  lp (fun _ _ _ _ => none) (fun k => fb_X2_pass_c27 k2 k a0 a1) FU
def fb_X2_pass_c2 (k2 : Int32 → xM → Option xM) (a0 : Nat) (a1 : Int32) (v2 : Int32) (M : xM) : Option xM :=
  (if a1 ≤ v2 then (some M) else (bd2 (f_X2_densityNow a0 M) (fun r4 M3 => (bd (f_X2_moveBell a0 r4 M3) (fun M6 => (if (M6 (a0 + 1)) = 0 then (f_X2_pass_c83 k2 a0 a1 v2 M6) else (f_X2_pass_c27 k2 a0 a1 v2 r4 0 M6)))))))
def f_X2_pass_c2  (a0 : Nat) (a1 : Int32) : Int32 → xM → Option xM :=
  lp (fun _ _ => none) (fun k => fb_X2_pass_c2 k a0 a1) FU
def f_X2_pass (a0 : Nat) (a1 : Int32) (M : xM) : Option xM :=
  (f_X2_pass_c2  a0 a1 0 M)
def f_J0_charAt_5068e (a0 : Nat) (a1 : Int32) (M : xM) : Option (Int32 × xM) :=
  (bd2 (f_J0_isLatin1_aae02 a0 M) (fun r3 M2 => (if r3 = 0 then none else (bd2 (f_J1_charAt_3b067 a0 a1 M2) (fun r7 M6 => (gd (isn .char r7) (some (r7, M6))))))))
def fb_X3_isWord_c28 (k28 : Int32 → xM → Option (Int32 × xM)) (a1 : Nat) (v2 : Int32) (M : xM) : Option (Int32 × xM) :=
  (bd2 (f_J0_length_8abf5 a1 M) (fun r8 M7 => (if r8 ≤ v2 then (some (1, M7)) else (bd2 (f_X3_byteAt ((M7 1785) + v2) M7) (fun r12 M11 => (bd2 (f_J0_charAt_5068e a1 v2 M11) (fun r15 M14 => (if r12 = r15 then (k28 (v2 + 1) M14) else (some (0, M14))))))))))
def f_X3_isWord_c28  (a1 : Nat) : Int32 → xM → Option (Int32 × xM) :=
  lp (fun _ _ => none) (fun k => fb_X3_isWord_c28 k a1) FU
def f_X3_isWord (a1 : Nat) (M : xM) : Option (Int32 × xM) :=
  (if (M 1784) = 1 then (bd2 (f_J0_length_8abf5 a1 M) (fun r4 M3 => (if ((M 1783) - (M 1785)) = r4 then (f_X3_isWord_c28  a1 0 M3) else (some (0, M3))))) else (some (0, M)))
def fb_X3_verbRead_c2 (k2 : Int32 → xM → Option (Int32 × xM))  (v1 : Int32) (M : xM) : Option (Int32 × xM) :=
  (if 9 ≤ v1 then (some (0, M)) else (gd (inb v1 9) (gd (inb ((v1 + 1) - 1) 9) (bd2 (f_X3_isWord (x_vw ((v1 + 1) - 1).toNatClampNeg) M) (fun r6 M5 => (if r6 = 0 then (k2 (v1 + 1) M5) else (gd (inb v1 9) (some ((v1 + 1), M5)))))))))
def f_X3_verbRead_c2   : Int32 → xM → Option (Int32 × xM) :=
  lp (fun _ _ => none) (fun k => fb_X3_verbRead_c2 k ) FU
def f_X3_verbRead  (M : xM) : Option (Int32 × xM) :=
  (f_X3_verbRead_c2   0 M)
def f_X3_lanternRead  (M : xM) : Option (Int32 × xM) :=
  (bd2 (f_X3_isWord 3 M) (fun r3 M2 => (if r3 = 0 then (bd2 (f_X3_isWord 4 M2) (fun r7 M6 => (if r7 = 0 then (bd2 (f_X3_isWord 5 M6) (fun r11 M10 => (if r11 = 0 then (bd2 (f_X3_isWord 6 M10) (fun r15 M14 => (if r15 = 0 then (some ((-1), M14)) else (some (3, M14))))) else (some (2, M10))))) else (some (1, M6))))) else (some (0, M2)))))
def f_X3_textureRead  (M : xM) : Option (Int32 × xM) :=
  (bd2 (f_X3_isWord 7 M) (fun r3 M2 => (if r3 = 0 then (bd2 (f_X3_isWord 8 M2) (fun r7 M6 => (if r7 = 0 then (bd2 (f_X3_isWord 9 M6) (fun r11 M10 => (if r11 = 0 then (some ((-1), M10)) else (some (2, M10))))) else (some (1, M6))))) else (some (0, M2)))))
def f_X2_perform (a0 : Nat) (M : xM) : Option xM :=
  (if (M 1781) = 0 then (some M) else (bd2 (f_X3_argument 0 M) (fun r4 M3 => (bd2 (f_X3_argument 1 M3) (fun r7 M6 => (gd (inb ((M6 1781) - 1) 9) (gd (inb (nI ((M6 1781) - 1).toNatClampNeg) 9) (if (x_smap (nI ((M6 1781) - 1).toNatClampNeg).toNatClampNeg) = 1 then (bd2 (f_X3_argument 2 M6) (fun r13 M12 => (bd2 (f_X3_argument 3 M12) (fun r16 M15 => (bd2 (f_X3_argument 4 M15) (fun r19 M18 => (bd2 (f_X2_placeStall a0 r4 r7 r13 r16 r19 M18) (fun r22 M21 => (some M21))))))))) else if (x_smap (nI ((M6 1781) - 1).toNatClampNeg).toNatClampNeg) = 2 then (bd2 (f_X3_argument 2 M6) (fun r26 M25 => (bd2 (f_X3_argument 3 M25) (fun r29 M28 => (bd2 (f_X2_placeBuyer a0 r4 r7 r26 r29 M28) (fun r32 M31 => (some M31))))))) else if (x_smap (nI ((M6 1781) - 1).toNatClampNeg).toNatClampNeg) = 3 then (if r4 < 0 then (some M6) else (if (M6 (a0 + 8)) ≤ r4 then (some M6) else (gd (inb r4 12) (some (upd M6 ((a0 + 11) + r4.toNatClampNeg) r7))))) else if (x_smap (nI ((M6 1781) - 1).toNatClampNeg).toNatClampNeg) = 4 then (bd2 (f_X2_isBuyer a0 r4 M6) (fun r40 M39 => (if r40 = 0 then (some M39) else (gd (inb r4 6) (bd (f_X2_returnAndAvoid a0 ((a0 + 77) + 8 * r4.toNatClampNeg) M39) (fun M45 => (some M45))))))) else if (x_smap (nI ((M6 1781) - 1).toNatClampNeg).toNatClampNeg) = 5 then (bd (f_X2_pass a0 r4 M6) (fun M48 => (some M48))) else (bd2 (f_X2_isStall a0 r4 M6) (fun r51 M50 => (if r51 = 0 then (some M50) else (gd (inb r4 6) (gd (inb ((M50 1781) - 1) 9) ((bd (f_X2_changeStall (M50 1781) ((a0 + 23) + 9 * r4.toNatClampNeg) r7 M50) (fun M57 => (some M57)))))))))))))))))
def f_X6_passMinutes (a1 : Int32) (M : xM) : Option (Int32 × xM) :=
  (bd (f_X6_checkRange a1 1 100 M) (fun M2 => (bd (f_X6_remember  M2) (fun M4 => (bd2 (f_X2_soldInAll 0 M4) (fun r7 M6 => (bd (f_X2_pass 0 a1 M6) (fun M9 => (bd2 (f_X2_soldInAll 0 M9) (fun r12 M11 => (some ((r12 - r7), M11))))))))))))
def fb_X3_appendText_c2 (k2 : Int32 → xM → Option xM) (a1 : Nat) (v2 : Int32) (M : xM) : Option xM :=
  (bd2 (f_J0_length_8abf5 a1 M) (fun r3 M2 => (if r3 ≤ v2 then (some M2) else (bd2 (f_J0_charAt_5068e a1 v2 M2) (fun r7 M6 => (bd (f_X3_appendByte r7 M6) (fun M9 => (k2 (v2 + 1) M9))))))))
def f_X3_appendText_c2  (a1 : Nat) : Int32 → xM → Option xM :=
  lp (fun _ _ => none) (fun k => fb_X3_appendText_c2 k a1) FU
def f_X3_appendText (a1 : Nat) (M : xM) : Option xM :=
  (f_X3_appendText_c2  a1 0 M)
def f_X3_readWord (a1 : Nat) (M : xM) : Option (Int32 × xM) :=
  (bd (f_X3_readToken  M) (fun M2 => (bd2 (f_X3_isWord a1 M2) (fun r5 M4 => (if r5 = 0 then (bd2 (f_X3_fail 1 M4) (fun r9 M8 => (if r9 = 0 then (some (0, M8)) else (some (1, M8))))) else (some (1, M4)))))))
def f_X3_readArgument_c33  (a1 : Nat) (a2 : Int32) (a3 : Int32) (s0 : Int32) (M : xM) : Option (Int32 × xM) :=
  (bd (f_X3_keepArgument a3 s0 M) (fun M33 => (if s0 = (-1) then (bd2 (f_X3_fail 1 M33) (fun r37 M36 => (if r37 = 0 then (some (0, M36)) else (some (1, M36))))) else (some (1, M33)))))
def f_X3_readArgument_c16  (a1 : Nat) (a2 : Int32) (a3 : Int32)  (M : xM) : Option (Int32 × xM) :=
  (if a2 = 108 then (bd2 (f_X3_lanternRead  M) (fun r31 M30 => (f_X3_readArgument_c33  a1 a2 a3 r31 M30))) else (bd2 (f_X3_textureRead  M) (fun r28 M27 => (f_X3_readArgument_c33  a1 a2 a3 r28 M27))))
def f_X3_readArgument (a1 : Nat) (a2 : Int32) (a3 : Int32) (M : xM) : Option (Int32 × xM) :=
  (bd (f_X3_readToken  M) (fun M2 => (if a2 = 108 then (f_X3_readArgument_c16  a1 a2 a3  M2) else (if a2 = 116 then (f_X3_readArgument_c16  a1 a2 a3  M2) else (bd2 (f_X3_lowest a2 M2) (fun r7 M6 => (bd2 (f_X3_highest a2 a1 M6) (fun r10 M9 => (bd2 (f_X3_isNumberFrom r7 r10 M9) (fun r13 M12 => (if r13 = 0 then (some (0, M12)) else (bd (f_X3_keepArgument a3 (M12 1786) M12) (fun M16 => (bd2 (f_X3_isRefusedBy a1 a3 M16) (fun r19 M18 => (if r19 = 0 then (some (1, M18)) else (bd2 (f_X3_fail 3 M18) (fun r23 M22 => (if r23 = 0 then (some (0, M22)) else (some (1, M22)))))))))))))))))))))
def f_X3_readHead (a1 : Nat) (M : xM) : Option (Int32 × xM) :=
  (bd2 (f_X3_readWord 1 M) (fun r3 M2 => (if r3 = 0 then (some (0, M2)) else (bd2 (f_X3_readNumber 1 9 M2) (fun r7 M6 => (if r7 = 0 then (some (0, M6)) else (bd2 (f_X3_readNumber 1 60 M6) (fun r11 M10 => (if r11 = 0 then (some (0, M10)) else (bd2 (f_X3_readNumber 0 99 M10) (fun r15 M14 => (if r15 = 0 then (some (0, M14)) else (bd (f_X2_reset a1 (M6 1786) (M10 1786) (M14 1786) M14) (fun M18 => (bd2 (f_X3_readSemicolon  M18) (fun r21 M20 => (if r21 = 0 then (some (0, M20)) else (bd2 (f_X3_readWord 2 M20) (fun r25 M24 => (if r25 = 0 then (some (0, M24)) else (bd2 (f_X3_readFog a1 M24) (fun r29 M28 => (if r29 = 0 then (some (0, M28)) else (some (1, M28)))))))))))))))))))))))))
def fb_X3_readCommand_c56 (k56 : Int32 → xM → Option (Int32 × xM)) (a1 : Nat) (a2 : Int32) (v3 : Int32) (M : xM) : Option (Int32 × xM) :=
  (gd (inb ((M 1781) - 1) 9) (bd2 (f_J0_length_8abf5 (x_vk ((M 1781) - 1).toNatClampNeg) M) (fun r28 M27 => (if r28 ≤ v3 then (bd2 (f_X3_readSemicolon  M27) (fun r32 M31 => (gd (isb r32) (some (r32, M31))))) else (gd (inb ((M27 1781) - 1) 9) (bd2 (f_J0_charAt_5068e (x_vk ((M27 1781) - 1).toNatClampNeg) v3 M27) (fun r37 M36 => (bd2 (f_X3_readArgument a1 r37 v3 M36) (fun r40 M39 => (if r40 = 0 then (some (0, M39)) else (k56 (v3 + 1) M39)))))))))))
def f_X3_readCommand_c56  (a1 : Nat) (a2 : Int32) : Int32 → xM → Option (Int32 × xM) :=
  lp (fun _ _ => none) (fun k => fb_X3_readCommand_c56 k a1 a2) FU
def f_X3_readCommand (a1 : Nat) (a2 : Int32) (M : xM) : Option (Int32 × xM) :=
  (bd (f_X3_readToken  M) (fun M2 => (if (M2 1784) = 0 then (some (0, M2)) else (bd2 (f_X3_verbRead  M2) (fun r6 M5 => (if ((upd M5 1781 r6) 1781) = 0 then (bd2 (f_X3_fail 1 (upd M5 1781 r6)) (fun r23 M22 => (gd (isb r23) (some (r23, M22))))) else (if 40 ≤ a2 then (bd2 (f_X3_fail 4 (upd M5 1781 r6)) (fun r11 M10 => (gd (isb r11) (some (r11, M10))))) else (bd2 (f_X3_hasNoRoom a1 (upd M5 1781 r6)) (fun r15 M14 => (if r15 = 0 then (f_X3_readCommand_c56  a1 a2 0 M14) else (bd2 (f_X3_fail 4 M14) (fun r19 M18 => (gd (isb r19) (some (r19, M18)))))))))))))))
def fb_X6_readCommands_c2 (k2 : Int32 → xM → Option (Int32 × xM))  (v1 : Int32) (M : xM) : Option (Int32 × xM) :=
  (if 40 < v1 then (some ((-1), M)) else (bd2 (f_X3_readCommand 128 v1 M) (fun r4 M3 => (if r4 = 0 then (if (M3 1779) = 0 then (some (v1, M3)) else (some ((-1), M3))) else (bd (f_X2_perform 128 M3) (fun M7 => (k2 (v1 + 1) M7)))))))
def f_X6_readCommands_c2   : Int32 → xM → Option (Int32 × xM) :=
  lp (fun _ _ => none) (fun k => fb_X6_readCommands_c2 k ) FU
def f_X6_readCommands  (M : xM) : Option (Int32 × xM) :=
  (f_X6_readCommands_c2   0 M)
def fb_X6_replaceMarket_c65 (k65 : Int32 → xM → Option (Int32 × xM))  (v2 : Int32) (M : xM) : Option (Int32 × xM) :=
  (if 2 ≤ v2 then (some (1, M)) else (gd (inb v2 2) (k65 (v2 + 1) (upd M (1675 + v2.toNatClampNeg) (vp_nar .boolean 0)))))
def f_X6_replaceMarket_c65   : Int32 → xM → Option (Int32 × xM) :=
  lp (fun _ _ => none) (fun k => fb_X6_replaceMarket_c65 k ) FU
def f_X6_replaceMarket_c34   (s0 : Int32) (M : xM) : Option (Int32 × xM) :=
  (bd (f_X3_clear  M) (fun M12 => (if s0 = 0 then (some (0, M12)) else (bd (f_X2_copyFrom 0 128 M12) (fun M15 => (bd (f_X6_forgetChanges  M15) (fun M17 => (f_X6_replaceMarket_c65   0 M17))))))))
def f_X6_replaceMarket_c33    (M : xM) : Option (Int32 × xM) :=
  (f_X6_replaceMarket_c34   0 M)
def f_X6_replaceMarket  (M : xM) : Option (Int32 × xM) :=
  (bd (f_X3_begin  M) (fun M2 => (bd2 (f_X3_readHead 128 M2) (fun r5 M4 => (if r5 = 0 then (f_X6_replaceMarket_c33    M4) else (bd2 (f_X6_readCommands  M4) (fun r9 M8 => (if r9 = (-1) then (f_X6_replaceMarket_c33    M8) else (f_X6_replaceMarket_c34   1 M8)))))))))
def f_X6_loadSetup  (M : xM) : Option (Int32 × xM) :=
  (bd2 (f_X6_replaceMarket  M) (fun r3 M2 => (if r3 = 0 then (some ((-1), M2)) else (some ((M2 9), M2)))))
