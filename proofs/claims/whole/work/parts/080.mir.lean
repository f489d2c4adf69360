def f_J0_coder_7d493 (a0 : Nat) (M : xM) : Option (Int32 × xM) :=
  (if (1 : Int32) = 0 then (gd (isn .byte 1) (some (1, M))) else (gd (isn .byte 0) (some (0, M))))
def f_J0_isLatin1_aae02 (a0 : Nat) (M : xM) : Option (Int32 × xM) :=
  (if (1 : Int32) = 0 then (some (0, M)) else (if (0 : Int32) = 0 then (some (1, M)) else (some (0, M))))
def f_J3_checkIndex_8e157_c9  (a0 : Int32) (a1 : Int32)  (M : xM) : Option (Int32 × xM) :=
  none
def f_J3_checkIndex_8e157 (a0 : Int32) (a1 : Int32) (M : xM) : Option (Int32 × xM) :=
  (if a0 < 0 then (f_J3_checkIndex_8e157_c9  a0 a1  M) else (if a0 < a1 then (some (a0, M)) else (f_J3_checkIndex_8e157_c9  a0 a1  M)))
def f_X3_appendByte (a1 : Int32) (M : xM) : Option xM :=
  (if 700 ≤ (M 1778) then (some M) else (gd (inb (M 1778) 700) (some (upd (upd M (1792 + (M 1778).toNatClampNeg) (vp_nar .byte a1.toInt8.toInt32)) 1778 (((upd M (1792 + (M 1778).toNatClampNeg) (vp_nar .byte a1.toInt8.toInt32)) 1778) + 1)))))
def f_X3_begin  (M : xM) : Option xM :=
  (some (upd (upd (upd M 1783 0) 1779 0) 1780 (-1)))
def f_X3_byteAt (a1 : Int32) (M : xM) : Option (Int32 × xM) :=
  (if a1 < 0 then (some ((-1), M)) else (if (M 1778) ≤ a1 then (some ((-1), M)) else (if 700 ≤ a1 then (some ((-1), M)) else (gd (inb a1 700) (some ((M (1792 + a1.toNatClampNeg)), M))))))
def f_X3_isLetter (a0 : Int32) (M : xM) : Option (Int32 × xM) :=
  (if a0 < 97 then (some (0, M)) else (if 122 < a0 then (some (0, M)) else (some (1, M))))
def f_X3_isDigit (a0 : Int32) (M : xM) : Option (Int32 × xM) :=
  (if a0 < 48 then (some (0, M)) else (if 57 < a0 then (some (0, M)) else (some (1, M))))
def f_X3_readDigits_c62 (k5 : xM → Option xM)   (M : xM) : Option xM :=
  (k5  (upd M 1783 ((M 1783) + 1)))
def fb_X3_readDigits_c5 (k5 : xM → Option xM)   (M : xM) : Option xM :=
  (if (M 1778) ≤ (M 1783) then (some M) else (bd2 (f_X3_byteAt (M 1783) M) (fun r4 M3 => (bd2 (f_X3_isDigit r4 M3) (fun r7 M6 => (if r7 = 0 then (some M6) else (if 100000 ≤ (M6 1786) then (f_X3_readDigits_c62 k5   M6) else (bd2 (f_X3_byteAt (M6 1783) M6) (fun r12 M11 => (f_X3_readDigits_c62 k5   (upd M11 1786 ((((M6 1786) * 10) + r12) - 48))))))))))))
def f_X3_readDigits_c5   : xM → Option xM :=
  lp (fun  _ => none) (fun k => fb_X3_readDigits_c5 k ) FU
def f_X3_readDigits  (M : xM) : Option xM :=
  (f_X3_readDigits_c5    (upd M 1786 0))
def f_X3_fail (a1 : Int32) (M : xM) : Option (Int32 × xM) :=
  (some (0, (upd (upd M 1779 a1) 1780 ((upd M 1779 a1) 1785))))
def f_X3_isNumberFrom_c30  (a1 : Int32) (a2 : Int32)  (M : xM) : Option (Int32 × xM) :=
  (bd2 (f_X3_fail 2 M) (fun r10 M9 => (if r10 = 0 then (some (0, M9)) else (some (1, M9)))))
def f_X3_isNumberFrom (a1 : Int32) (a2 : Int32) (M : xM) : Option (Int32 × xM) :=
  (if (M 1784) = 2 then (if (M 1786) < a1 then (f_X3_isNumberFrom_c30  a1 a2  M) else (if (M 1786) ≤ a2 then (some (1, M)) else (f_X3_isNumberFrom_c30  a1 a2  M))) else (bd2 (f_X3_fail 1 M) (fun r6 M5 => (gd (isb r6) (some (r6, M5))))))
def f_X2_reset (a0 : Nat) (a1 : Int32) (a2 : Int32) (a3 : Int32) (M : xM) : Option xM :=
  (some (upd (upd (upd (upd (upd (upd (upd (upd (upd (upd (upd M (a0 + 9) 0) (a0 + 10) 0) (a0 + 8) 0) (a0 + 0) 0) (a0 + 7) a3) (a0 + 5) a1) (a0 + 6) a2) (a0 + 1) 0) (a0 + 2) 1) (a0 + 3) 0) (a0 + 4) 0))
def f_X2_addDensity (a0 : Nat) (a1 : Int32) (M : xM) : Option xM :=
  (if 12 ≤ (M (a0 + 8)) then (some M) else (gd (inb (M (a0 + 8)) 12) (some (upd (upd M ((a0 + 11) + (M (a0 + 8)).toNatClampNeg) a1) (a0 + 8) (((upd M ((a0 + 11) + (M (a0 + 8)).toNatClampNeg) a1) (a0 + 8)) + 1)))))
def f_X3_hasNoRoom_c19  (a1 : Nat)  (M : xM) : Option (Int32 × xM) :=
  (gd (inb (M 1781) 10) (if (M 1781) = 2 then (if (M (a1 + 10)) < 6 then (some (0, M)) else (some (1, M))) else (some (0, M))))
def f_X3_hasNoRoom (a1 : Nat) (M : xM) : Option (Int32 × xM) :=
  (gd (inb (M 1781) 10) (if (M 1781) = 1 then (if 6 ≤ (M (a1 + 9)) then (some (1, M)) else (f_X3_hasNoRoom_c19  a1  M)) else (f_X3_hasNoRoom_c19  a1  M)))
def f_X3_keepArgument (a1 : Int32) (a2 : Int32) (M : xM) : Option xM :=
  (if a1 < 0 then (some M) else (if 5 ≤ a1 then (some M) else (gd (inb a1 5) (some (upd M (1787 + a1.toNatClampNeg) a2)))))
def f_X3_lowest (a0 : Int32) (M : xM) : Option (Int32 × xM) :=
  (if a0 = 99 then (some (1, M)) else (if a0 = 118 then (some (1, M)) else (if a0 = 110 then (some (1, M)) else (some (0, M)))))
def f_X3_highest (a0 : Int32) (a1 : Nat) (M : xM) : Option (Int32 × xM) :=
  (if a0 = 98 then (some (((M (a1 + 10)) - 1), M)) else if a0 = 99 then (some (999, M)) else if a0 = 100 then (some (9, M)) else if a0 = 101 then (some (100, M)) else if a0 = 102 then (some (100, M)) else if a0 = 103 then (some (99, M)) else if a0 = 104 then (some (100, M)) else if a0 = 105 then (some (((M (a1 + 8)) - 1), M)) else if a0 = 106 then (some (100, M)) else if a0 = 107 then (some (100, M)) else if a0 = 108 then (some (100, M)) else if a0 = 109 then (some (9999, M)) else if a0 = 110 then (some (100, M)) else if a0 = 111 then (some (100, M)) else if a0 = 112 then (some (99, M)) else if a0 = 113 then (some (100, M)) else if a0 = 114 then (some (100, M)) else if a0 = 115 then (some (((M (a1 + 9)) - 1), M)) else if a0 = 116 then (some (100, M)) else if a0 = 117 then (some (100, M)) else if a0 = 118 then (some (20, M)) else (some (100, M)))
def f_X3_argument (a1 : Int32) (M : xM) : Option (Int32 × xM) :=
  (if a1 < 0 then (some (0, M)) else (if 5 ≤ a1 then (some (0, M)) else (gd (inb a1 5) (some ((M (1787 + a1.toNatClampNeg)), M)))))
def f_X2_isStall (a0 : Nat) (a1 : Int32) (M : xM) : Option (Int32 × xM) :=
  (if a1 < 0 then (some (0, M)) else (if (M (a0 + 9)) ≤ a1 then (some (0, M)) else (some (1, M))))
def f_X4_hasRoomFor (a0 : Nat) (a1 : Int32) (M : xM) : Option (Int32 × xM) :=
  (if 99 < ((M (a0 + 4)) + a1) then (some (0, M)) else (some (1, M)))
def f_X2_isBuyer (a0 : Nat) (a1 : Int32) (M : xM) : Option (Int32 × xM) :=
  (if a1 < 0 then (some (0, M)) else (if (M (a0 + 10)) ≤ a1 then (some (0, M)) else (some (1, M))))
def f_X1_holds (a0 : Nat) (M : xM) : Option (Int32 × xM) :=
  (if (M (a0 + 4)) = (-1) then (some (0, M)) else (some (1, M)))
def f_X4_reset (a0 : Nat) (a1 : Int32) (a2 : Int32) (a3 : Int32) (a4 : Int32) (M : xM) : Option xM :=
  (some (upd (upd (upd (upd (upd (upd (upd (upd (upd M (a0 + 0) a1) (a0 + 1) a2) (a0 + 2) a3) (a0 + 3) a4) (a0 + 4) 0) (a0 + 5) 0) (a0 + 6) 0) (a0 + 7) 0) (a0 + 8) 0))
def f_X4_receive (a0 : Nat) (a1 : Int32) (M : xM) : Option xM :=
  (some (upd (upd M (a0 + 4) ((M (a0 + 4)) + a1)) (a0 + 8) (((upd M (a0 + 4) ((M (a0 + 4)) + a1)) (a0 + 8)) + a1)))
def f_X1_reset (a0 : Nat) (a1 : Int32) (a2 : Int32) (a3 : Int32) (a4 : Int32) (M : xM) : Option xM :=
  (some (upd (upd (upd (upd (upd (upd (upd (upd M (a0 + 0) a1) (a0 + 1) a2) (a0 + 2) a3) (a0 + 3) a4) (a0 + 4) (-1)) (a0 + 5) 0) (a0 + 6) 0) (a0 + 7) 0))
def f_X1_letGo (a0 : Nat) (M : xM) : Option xM :=
  (some (upd (upd M (a0 + 4) (-1)) (a0 + 5) 0))
def f_X1_avoid (a0 : Nat) (a1 : Int32) (M : xM) : Option xM :=
  (some (upd M (a0 + 6) ((M (a0 + 6)) ||| (1 <<< (a1 &&& 31)))))
def f_X2_densityIn (a0 : Nat) (a1 : Int32) (M : xM) : Option (Int32 × xM) :=
  (if a1 < 0 then (some (0, M)) else (if (M (a0 + 8)) < 1 then (some (0, M)) else (if (M (a0 + 8)) ≤ 12 then (gd (nz (M (a0 + 8))) (gd (inb ((a1 / 5) - (a1 / 5) / (M (a0 + 8)) * (M (a0 + 8))) 12) (some ((M ((a0 + 11) + ((a1 / 5) - (a1 / 5) / (M (a0 + 8)) * (M (a0 + 8))).toNatClampNeg)), M)))) else (some (0, M)))))
def f_X1_walkTo (a0 : Nat) (a1 : Int32) (M : xM) : Option xM :=
  (if (a1 - (M (a0 + 0))) ≤ (M (a0 + 3)) then (if ((M (a0 + 0)) - a1) ≤ (M (a0 + 3)) then (some (upd M (a0 + 0) a1)) else (some (upd M (a0 + 0) ((M (a0 + 0)) - (M (a0 + 3)))))) else (some (upd M (a0 + 0) ((M (a0 + 0)) + (M (a0 + 3))))))
def f_X1_payTo (a0 : Nat) (a1 : Nat) (M : xM) : Option xM :=
  (bd (f_X1_letGo a0 (upd (upd (upd (upd M (a0 + 1) ((M (a0 + 1)) - (M (a0 + 5)))) (a1 + 7) (((upd M (a0 + 1) ((M (a0 + 1)) - (M (a0 + 5)))) (a1 + 7)) + ((upd M (a0 + 1) ((M (a0 + 1)) - (M (a0 + 5)))) (a0 + 5)))) (a1 + 5) (((upd (upd M (a0 + 1) ((M (a0 + 1)) - (M (a0 + 5)))) (a1 + 7) (((upd M (a0 + 1) ((M (a0 + 1)) - (M (a0 + 5)))) (a1 + 7)) + ((upd M (a0 + 1) ((M (a0 + 1)) - (M (a0 + 5)))) (a0 + 5)))) (a1 + 5)) + 1)) (a0 + 7) (((upd (upd (upd M (a0 + 1) ((M (a0 + 1)) - (M (a0 + 5)))) (a1 + 7) (((upd M (a0 + 1) ((M (a0 + 1)) - (M (a0 + 5)))) (a1 + 7)) + ((upd M (a0 + 1) ((M (a0 + 1)) - (M (a0 + 5)))) (a0 + 5)))) (a1 + 5) (((upd (upd M (a0 + 1) ((M (a0 + 1)) - (M (a0 + 5)))) (a1 + 7) (((upd M (a0 + 1) ((M (a0 + 1)) - (M (a0 + 5)))) (a1 + 7)) + ((upd M (a0 + 1) ((M (a0 + 1)) - (M (a0 + 5)))) (a0 + 5)))) (a1 + 5)) + 1)) (a0 + 7)) + 1))) (fun M2 => (some M2)))
def f_X4_paces (a0 : Int32) (a1 : Int32) (M : xM) : Option (Int32 × xM) :=
  (if a0 = 0 then (some ((30 - (2 * a1)), M)) else if a0 = 1 then (some ((24 - a1), M)) else if a0 = 2 then (some ((45 - (5 * a1)), M)) else (some (12, M)))
def f_X1_avoids (a0 : Nat) (a1 : Int32) (M : xM) : Option (Int32 × xM) :=
  (if (((M (a0 + 6)) >>> (a1 &&& 31)) &&& 1) = 0 then (some (0, M)) else (some (1, M)))
def f_X1_feel (a0 : Nat) (a1 : Nat) (M : xM) : Option (Int32 × xM) :=
  (if (M (a1 + 2)) = (M (a0 + 2)) then (if (M (a1 + 4)) = 0 then (some (2, M)) else (if (M (a1 + 3)) ≤ (M (a0 + 1)) then (some (0, M)) else (some (3, M)))) else (some (1, M)))
def f_X1_take (a0 : Nat) (a1 : Nat) (a2 : Int32) (M : xM) : Option xM :=
  (some (upd (upd (upd M (a1 + 4) ((M (a1 + 4)) - 1)) (a0 + 4) a2) (a0 + 5) ((upd (upd M (a1 + 4) ((M (a1 + 4)) - 1)) (a0 + 4) a2) (a1 + 3))))
def f_X4_guardedDensity (a0 : Nat) (M : xM) : Option (Int32 × xM) :=
  (if (M (a0 + 1)) = 0 then (some (7, M)) else if (M (a0 + 1)) = 1 then (some (5, M)) else if (M (a0 + 1)) = 2 then (some (6, M)) else (some (9, M)))
def f_X2_countMinute_c17  (a0 : Nat)  (M : xM) : Option xM :=
  (some (upd M (a0 + 0) ((M (a0 + 0)) + 1)))
def f_X2_countMinute (a0 : Nat) (M : xM) : Option xM :=
  (if (M (a0 + 1)) = 0 then (f_X2_countMinute_c17  a0  M) else (f_X2_countMinute_c17  a0  (upd M (a0 + 3) ((M (a0 + 3)) + 1))))
def f_X2_changeStall (a0 : Int32) (a1 : Nat) (a2 : Int32) (M : xM) : Option xM :=
  (gd (inb (nI (a0 - 1).toNatClampNeg) 9) (if (x_smap (nI (a0 - 1).toNatClampNeg).toNatClampNeg) = 6 then (some (upd M (a1 + 3) a2)) else if (x_smap (nI (a0 - 1).toNatClampNeg).toNatClampNeg) = 7 then (bd (f_X4_receive a1 a2 M) (fun M5 => (some M5))) else if (x_smap (nI (a0 - 1).toNatClampNeg).toNatClampNeg) = 8 then (some (upd M (a1 + 1) a2)) else (some (upd M (a1 + 0) a2))))
def f_X3_clear  (M : xM) : Option xM :=
  (some (upd M 1778 0))
def f_X4_copyFrom (a0 : Nat) (a1 : Nat) (M : xM) : Option xM :=
  (some (upd (upd (upd (upd (upd (upd (upd (upd (upd M (a0 + 0) (M (a1 + 0))) (a0 + 1) ((upd M (a0 + 0) (M (a1 + 0))) (a1 + 1))) (a0 + 2) ((upd (upd M (a0 + 0) (M (a1 + 0))) (a0 + 1) ((upd M (a0 + 0) (M (a1 + 0))) (a1 + 1))) (a1 + 2))) (a0 + 3) ((upd (upd (upd M (a0 + 0) (M (a1 + 0))) (a0 + 1) ((upd M (a0 + 0) (M (a1 + 0))) (a1 + 1))) (a0 + 2) ((upd (upd M (a0 + 0) (M (a1 + 0))) (a0 + 1) ((upd M (a0 + 0) (M (a1 + 0))) (a1 + 1))) (a1 + 2))) (a1 + 3))) (a0 + 4) ((upd (upd (upd (upd M (a0 + 0) (M (a1 + 0))) (a0 + 1) ((upd M (a0 + 0) (M (a1 + 0))) (a1 + 1))) (a0 + 2) ((upd (upd M (a0 + 0) (M (a1 + 0))) (a0 + 1) ((upd M (a0 + 0) (M (a1 + 0))) (a1 + 1))) (a1 + 2))) (a0 + 3) ((upd (upd (upd M (a0 + 0) (M (a1 + 0))) (a0 + 1) ((upd M (a0 + 0) (M (a1 + 0))) (a1 + 1))) (a0 + 2) ((upd (upd M (a0 + 0) (M (a1 + 0))) (a0 + 1) ((upd M (a0 + 0) (M (a1 + 0))) (a1 + 1))) (a1 + 2))) (a1 + 3))) (a1 + 4))) (a0 + 5) ((upd (upd (upd (upd (upd M (a0 + 0) (M (a1 + 0))) (a0 + 1) ((upd M (a0 + 0) (M (a1 + 0))) (a1 + 1))) (a0 + 2) ((upd (upd M (a0 + 0) (M (a1 + 0))) (a0 + 1) ((upd M (a0 + 0) (M (a1 + 0))) (a1 + 1))) (a1 + 2))) (a0 + 3) ((upd (upd (upd M (a0 + 0) (M (a1 + 0))) (a0 + 1) ((upd M (a0 + 0) (M (a1 + 0))) (a1 + 1))) (a0 + 2) ((upd (upd M (a0 + 0) (M (a1 + 0))) (a0 + 1) ((upd M (a0 + 0) (M (a1 + 0))) (a1 + 1))) (a1 + 2))) (a1 + 3))) (a0 + 4) ((upd (upd (upd (upd M (a0 + 0) (M (a1 + 0))) (a0 + 1) ((upd M (a0 + 0) (M (a1 + 0))) (a1 + 1))) (a0 + 2) ((upd (upd M (a0 + 0) (M (a1 + 0))) (a0 + 1) ((upd M (a0 + 0) (M (a1 + 0))) (a1 + 1))) (a1 + 2))) (a0 + 3) ((upd (upd (upd M (a0 + 0) (M (a1 + 0))) (a0 + 1) ((upd M (a0 + 0) (M (a1 + 0))) (a1 + 1))) (a0 + 2) ((upd (upd M (a0 + 0) (M (a1 + 0))) (a0 + 1) ((upd M (a0 + 0) (M (a1 + 0))) (a1 + 1))) (a1 + 2))) (a1 + 3))) (a1 + 4))) (a1 + 5))) (a0 + 6) ((upd (upd (upd (upd (upd (upd M (a0 + 0) (M (a1 + 0))) (a0 + 1) ((upd M (a0 + 0) (M (a1 + 0))) (a1 + 1))) (a0 + 2) ((upd (upd M (a0 + 0) (M (a1 + 0))) (a0 + 1) ((upd M (a0 + 0) (M (a1 + 0))) (a1 + 1))) (a1 + 2))) (a0 + 3) ((upd (upd (upd M (a0 + 0) (M (a1 + 0))) (a0 + 1) ((upd M (a0 + 0) (M (a1 + 0))) (a1 + 1))) (a0 + 2) ((upd (upd M (a0 + 0) (M (a1 + 0))) (a0 + 1) ((upd M (a0 + 0) (M (a1 + 0))) (a1 + 1))) (a1 + 2))) (a1 + 3))) (a0 + 4) ((upd (upd (upd (upd M (a0 + 0) (M (a1 + 0))) (a0 + 1) ((upd M (a0 + 0) (M (a1 + 0))) (a1 + 1))) (a0 + 2) ((upd (upd M (a0 + 0) (M (a1 + 0))) (a0 + 1) ((upd M (a0 + 0) (M (a1 + 0))) (a1 + 1))) (a1 + 2))) (a0 + 3) ((upd (upd (upd M (a0 + 0) (M (a1 + 0))) (a0 + 1) ((upd M (a0 + 0) (M (a1 + 0))) (a1 + 1))) (a0 + 2) ((upd (upd M (a0 + 0) (M (a1 + 0))) (a0 + 1) ((upd M (a0 + 0) (M (a1 + 0))) (a1 + 1))) (a1 + 2))) (a1 + 3))) (a1 + 4))) (a0 + 5) ((upd (upd (upd (upd (upd M (a0 + 0) (M (a1 + 0))) (a0 + 1) ((upd M (a0 + 0) (M (a1 + 0))) (a1 + 1))) (a0 + 2) ((upd (upd M (a0 + 0) (M (a1 + 0))) (a0 + 1) ((upd M (a0 + 0) (M (a1 + 0))) (a1 + 1))) (a1 + 2))) (a0 + 3) ((upd (upd (upd M (a0 + 0) (M (a1 + 0))) (a0 + 1) ((upd M (a0 + 0) (M (a1 + 0))) (a1 + 1))) (a0 + 2) ((upd (upd M (a0 + 0) (M (a1 + 0))) (a0 + 1) ((upd M (a0 + 0) (M (a1 + 0))) (a1 + 1))) (a1 + 2))) (a1 + 3))) (a0 + 4) ((upd (upd (upd (upd M (a0 + 0) (M (a1 + 0))) (a0 + 1) ((upd M (a0 + 0) (M (a1 + 0))) (a1 + 1))) (a0 + 2) ((upd (upd M (a0 + 0) (M (a1 + 0))) (a0 + 1) ((upd M (a0 + 0) (M (a1 + 0))) (a1 + 1))) (a1 + 2))) (a0 + 3) ((upd (upd (upd M (a0 + 0) (M (a1 + 0))) (a0 + 1) ((upd M (a0 + 0) (M (a1 + 0))) (a1 + 1))) (a0 + 2) ((upd (upd M (a0 + 0) (M (a1 + 0))) (a0 + 1) ((upd M (a0 + 0) (M (a1 + 0))) (a1 + 1))) (a1 + 2))) (a1 + 3))) (a1 + 4))) (a1 + 5))) (a1 + 6))) (a0 + 7) ((upd (upd (upd (upd (upd (upd (upd M (a0 + 0) (M (a1 + 0))) (a0 + 1) ((upd M (a0 + 0) (M (a1 + 0))) (a1 + 1))) (a0 + 2) ((upd (upd M (a0 + 0) (M (a1 + 0))) (a0 + 1) ((upd M (a0 + 0) (M (a1 + 0))) (a1 + 1))) (a1 + 2))) (a0 + 3) ((upd (upd (upd M (a0 + 0) (M (a1 + 0))) (a0 + 1) ((upd M (a0 + 0) (M (a1 + 0))) (a1 + 1))) (a0 + 2) ((upd (upd M (a0 + 0) (M (a1 + 0))) (a0 + 1) ((upd M (a0 + 0) (M (a1 + 0))) (a1 + 1))) (a1 + 2))) (a1 + 3))) (a0 + 4) ((upd (upd (upd (upd M (a0 + 0) (M (a1 + 0))) (a0 + 1) ((upd M (a0 + 0) (M (a1 + 0))) (a1 + 1))) (a0 + 2) ((upd (upd M (a0 + 0) (M (a1 + 0))) (a0 + 1) ((upd M (a0 + 0) (M (a1 + 0))) (a1 + 1))) (a1 + 2))) (a0 + 3) ((upd (upd (upd M (a0 + 0) (M (a1 + 0))) (a0 + 1) ((upd M (a0 + 0) (M (a1 + 0))) (a1 + 1))) (a0 + 2) ((upd (upd M (a0 + 0) (M (a1 + 0))) (a0 + 1) ((upd M (a0 + 0) (M (a1 + 0))) (a1 + 1))) (a1 + 2))) (a1 + 3))) (a1 + 4))) (a0 + 5) ((upd (upd (upd (upd (upd M (a0 + 0) (M (a1 + 0))) (a0 + 1) ((upd M (a0 + 0) (M (a1 + 0))) (a1 + 1))) (a0 + 2) ((upd (upd M (a0 + 0) (M (a1 + 0))) (a0 + 1) ((upd M (a0 + 0) (M (a1 + 0))) (a1 + 1))) (a1 + 2))) (a0 + 3) ((upd (upd (upd M (a0 + 0) (M (a1 + 0))) (a0 + 1) ((upd M (a0 + 0) (M (a1 + 0))) (a1 + 1))) (a0 + 2) ((upd (upd M (a0 + 0) (M (a1 + 0))) (a0 + 1) ((upd M (a0 + 0) (M (a1 + 0))) (a1 + 1))) (a1 + 2))) (a1 + 3))) (a0 + 4) ((upd (upd (upd (upd M (a0 + 0) (M (a1 + 0))) (a0 + 1) ((upd M (a0 + 0) (M (a1 + 0))) (a1 + 1))) (a0 + 2) ((upd (upd M (a0 + 0) (M (a1 + 0))) (a0 + 1) ((upd M (a0 + 0) (M (a1 + 0))) (a1 + 1))) (a1 + 2))) (a0 + 3) ((upd (upd (upd M (a0 + 0) (M (a1 + 0))) (a0 + 1) ((upd M (a0 + 0) (M (a1 + 0))) (a1 + 1))) (a0 + 2) ((upd (upd M (a0 + 0) (M (a1 + 0))) (a0 + 1) ((upd M (a0 + 0) (M (a1 + 0))) (a1 + 1))) (a1 + 2))) (a1 + 3))) (a1 + 4))) (a1 + 5))) (a0 + 6) ((upd (upd (upd (upd (upd (upd M (a0 + 0) (M (a1 + 0))) (a0 + 1) ((upd M (a0 + 0) (M (a1 + 0))) (a1 + 1))) (a0 + 2) ((upd (upd M (a0 + 0) (M (a1 + 0))) (a0 + 1) ((upd M (a0 + 0) (M (a1 + 0))) (a1 + 1))) (a1 + 2))) (a0 + 3) ((upd (upd (upd M (a0 + 0) (M (a1 + 0))) (a0 + 1) ((upd M (a0 + 0) (M (a1 + 0))) (a1 + 1))) (a0 + 2) ((upd (upd M (a0 + 0) (M (a1 + 0))) (a0 + 1) ((upd M (a0 + 0) (M (a1 + 0))) (a1 + 1))) (a1 + 2))) (a1 + 3))) (a0 + 4) ((upd (upd (upd (upd M (a0 + 0) (M (a1 + 0))) (a0 + 1) ((upd M (a0 + 0) (M (a1 + 0))) (a1 + 1))) (a0 + 2) ((upd (upd M (a0 + 0) (M (a1 + 0))) (a0 + 1) ((upd M (a0 + 0) (M (a1 + 0))) (a1 + 1))) (a1 + 2))) (a0 + 3) ((upd (upd (upd M (a0 + 0) (M (a1 + 0))) (a0 + 1) ((upd M (a0 + 0) (M (a1 + 0))) (a1 + 1))) (a0 + 2) ((upd (upd M (a0 + 0) (M (a1 + 0))) (a0 + 1) ((upd M (a0 + 0) (M (a1 + 0))) (a1 + 1))) (a1 + 2))) (a1 + 3))) (a1 + 4))) (a0 + 5) ((upd (upd (upd (upd (upd M (a0 + 0) (M (a1 + 0))) (a0 + 1) ((upd M (a0 + 0) (M (a1 + 0))) (a1 + 1))) (a0 + 2) ((upd (upd M (a0 + 0) (M (a1 + 0))) (a0 + 1) ((upd M (a0 + 0) (M (a1 + 0))) (a1 + 1))) (a1 + 2))) (a0 + 3) ((upd (upd (upd M (a0 + 0) (M (a1 + 0))) (a0 + 1) ((upd M (a0 + 0) (M (a1 + 0))) (a1 + 1))) (a0 + 2) ((upd (upd M (a0 + 0) (M (a1 + 0))) (a0 + 1) ((upd M (a0 + 0) (M (a1 + 0))) (a1 + 1))) (a1 + 2))) (a1 + 3))) (a0 + 4) ((upd (upd (upd (upd M (a0 + 0) (M (a1 + 0))) (a0 + 1) ((upd M (a0 + 0) (M (a1 + 0))) (a1 + 1))) (a0 + 2) ((upd (upd M (a0 + 0) (M (a1 + 0))) (a0 + 1) ((upd M (a0 + 0) (M (a1 + 0))) (a1 + 1))) (a1 + 2))) (a0 + 3) ((upd (upd (upd M (a0 + 0) (M (a1 + 0))) (a0 + 1) ((upd M (a0 + 0) (M (a1 + 0))) (a1 + 1))) (a0 + 2) ((upd (upd M (a0 + 0) (M (a1 + 0))) (a0 + 1) ((upd M (a0 + 0) (M (a1 + 0))) (a1 + 1))) (a1 + 2))) (a1 + 3))) (a1 + 4))) (a1 + 5))) (a1 + 6))) (a1 + 7))) (a0 + 8) ((upd (upd (upd (upd (upd (upd (upd (upd M (a0 + 0) (M (a1 + 0))) (a0 + 1) ((upd M (a0 + 0) (M (a1 + 0))) (a1 + 1))) (a0 + 2) ((upd (upd M (a0 + 0) (M (a1 + 0))) (a0 + 1) ((upd M (a0 + 0) (M (a1 + 0))) (a1 + 1))) (a1 + 2))) (a0 + 3) ((upd (upd (upd M (a0 + 0) (M (a1 + 0))) (a0 + 1) ((upd M (a0 + 0) (M (a1 + 0))) (a1 + 1))) (a0 + 2) ((upd (upd M (a0 + 0) (M (a1 + 0))) (a0 + 1) ((upd M (a0 + 0) (M (a1 + 0))) (a1 + 1))) (a1 + 2))) (a1 + 3))) (a0 + 4) ((upd (upd (upd (upd M (a0 + 0) (M (a1 + 0))) (a0 + 1) ((upd M (a0 + 0) (M (a1 + 0))) (a1 + 1))) (a0 + 2) ((upd (upd M (a0 + 0) (M (a1 + 0))) (a0 + 1) ((upd M (a0 + 0) (M (a1 + 0))) (a1 + 1))) (a1 + 2))) (a0 + 3) ((upd (upd (upd M (a0 + 0) (M (a1 + 0))) (a0 + 1) ((upd M (a0 + 0) (M (a1 + 0))) (a1 + 1))) (a0 + 2) ((upd (upd M (a0 + 0) (M (a1 + 0))) (a0 + 1) ((upd M (a0 + 0) (M (a1 + 0))) (a1 + 1))) (a1 + 2))) (a1 + 3))) (a1 + 4))) (a0 + 5) ((upd (upd (upd (upd (upd M (a0 + 0) (M (a1 + 0))) (a0 + 1) ((upd M (a0 + 0) (M (a1 + 0))) (a1 + 1))) (a0 + 2) ((upd (upd M (a0 + 0) (M (a1 + 0))) (a0 + 1) ((upd M (a0 + 0) (M (a1 + 0))) (a1 + 1))) (a1 + 2))) (a0 + 3) ((upd (upd (upd M (a0 + 0) (M (a1 + 0))) (a0 + 1) ((upd M (a0 + 0) (M (a1 + 0))) (a1 + 1))) (a0 + 2) ((upd (upd M (a0 + 0) (M (a1 + 0))) (a0 + 1) ((upd M (a0 + 0) (M (a1 + 0))) (a1 + 1))) (a1 + 2))) (a1 + 3))) (a0 + 4) ((upd (upd (upd (upd M (a0 + 0) (M (a1 + 0))) (a0 + 1) ((upd M (a0 + 0) (M (a1 + 0))) (a1 + 1))) (a0 + 2) ((upd (upd M (a0 + 0) (M (a1 + 0))) (a0 + 1) ((upd M (a0 + 0) (M (a1 + 0))) (a1 + 1))) (a1 + 2))) (a0 + 3) ((upd (upd (upd M (a0 + 0) (M (a1 + 0))) (a0 + 1) ((upd M (a0 + 0) (M (a1 + 0))) (a1 + 1))) (a0 + 2) ((upd (upd M (a0 + 0) (M (a1 + 0))) (a0 + 1) ((upd M (a0 + 0) (M (a1 + 0))) (a1 + 1))) (a1 + 2))) (a1 + 3))) (a1 + 4))) (a1 + 5))) (a0 + 6) ((upd (upd (upd (upd (upd (upd M (a0 + 0) (M (a1 + 0))) (a0 + 1) ((upd M (a0 + 0) (M (a1 + 0))) (a1 + 1))) (a0 + 2) ((upd (upd M (a0 + 0) (M (a1 + 0))) (a0 + 1) ((upd M (a0 + 0) (M (a1 + 0))) (a1 + 1))) (a1 + 2))) (a0 + 3) ((upd (upd (upd M (a0 + 0) (M (a1 + 0))) (a0 + 1) ((upd M (a0 + 0) (M (a1 + 0))) (a1 + 1))) (a0 + 2) ((upd (upd M (a0 + 0) (M (a1 + 0))) (a0 + 1) ((upd M (a0 + 0) (M (a1 + 0))) (a1 + 1))) (a1 + 2))) (a1 + 3))) (a0 + 4) ((upd (upd (upd (upd M (a0 + 0) (M (a1 + 0))) (a0 + 1) ((upd M (a0 + 0) (M (a1 + 0))) (a1 + 1))) (a0 + 2) ((upd (upd M (a0 + 0) (M (a1 + 0))) (a0 + 1) ((upd M (a0 + 0) (M (a1 + 0))) (a1 + 1))) (a1 + 2))) (a0 + 3) ((upd (upd (upd M (a0 + 0) (M (a1 + 0))) (a0 + 1) ((upd M (a0 + 0) (M (a1 + 0))) (a1 + 1))) (a0 + 2) ((upd (upd M (a0 + 0) (M (a1 + 0))) (a0 + 1) ((upd M (a0 + 0) (M (a1 + 0))) (a1 + 1))) (a1 + 2))) (a1 + 3))) (a1 + 4))) (a0 + 5) ((upd (upd (upd (upd (upd M (a0 + 0) (M (a1 + 0))) (a0 + 1) ((upd M (a0 + 0) (M (a1 + 0))) (a1 + 1))) (a0 + 2) ((upd (upd M (a0 + 0) (M (a1 + 0))) (a0 + 1) ((upd M (a0 + 0) (M (a1 + 0))) (a1 + 1))) (a1 + 2))) (a0 + 3) ((upd (upd (upd M (a0 + 0) (M (a1 + 0))) (a0 + 1) ((upd M (a0 + 0) (M (a1 + 0))) (a1 + 1))) (a0 + 2) ((upd (upd M (a0 + 0) (M (a1 + 0))) (a0 + 1) ((upd M (a0 + 0) (M (a1 + 0))) (a1 + 1))) (a1 + 2))) (a1 + 3))) (a0 + 4) ((upd (upd (upd (upd M (a0 + 0) (M (a1 + 0))) (a0 + 1) ((upd M (a0 + 0) (M (a1 + 0))) (a1 + 1))) (a0 + 2) ((upd (upd M (a0 + 0) (M (a1 + 0))) (a0 + 1) ((upd M (a0 + 0) (M (a1 + 0))) (a1 + 1))) (a1 + 2))) (a0 + 3) ((upd (upd (upd M (a0 + 0) (M (a1 + 0))) (a0 + 1) ((upd M (a0 + 0) (M (a1 + 0))) (a1 + 1))) (a0 + 2) ((upd (upd M (a0 + 0) (M (a1 + 0))) (a0 + 1) ((upd M (a0 + 0) (M (a1 + 0))) (a1 + 1))) (a1 + 2))) (a1 + 3))) (a1 + 4))) (a1 + 5))) (a1 + 6))) (a0 + 7) ((upd (upd (upd (upd (upd (upd (upd M (a0 + 0) (M (a1 + 0))) (a0 + 1) ((upd M (a0 + 0) (M (a1 + 0))) (a1 + 1))) (a0 + 2) ((upd (upd M (a0 + 0) (M (a1 + 0))) (a0 + 1) ((upd M (a0 + 0) (M (a1 + 0))) (a1 + 1))) (a1 + 2))) (a0 + 3) ((upd (upd (upd M (a0 + 0) (M (a1 + 0))) (a0 + 1) ((upd M (a0 + 0) (M (a1 + 0))) (a1 + 1))) (a0 + 2) ((upd (upd M (a0 + 0) (M (a1 + 0))) (a0 + 1) ((upd M (a0 + 0) (M (a1 + 0))) (a1 + 1))) (a1 + 2))) (a1 + 3))) (a0 + 4) ((upd (upd (upd (upd M (a0 + 0) (M (a1 + 0))) (a0 + 1) ((upd M (a0 + 0) (M (a1 + 0))) (a1 + 1))) (a0 + 2) ((upd (upd M (a0 + 0) (M (a1 + 0))) (a0 + 1) ((upd M (a0 + 0) (M (a1 + 0))) (a1 + 1))) (a1 + 2))) (a0 + 3) ((upd (upd (upd M (a0 + 0) (M (a1 + 0))) (a0 + 1) ((upd M (a0 + 0) (M (a1 + 0))) (a1 + 1))) (a0 + 2) ((upd (upd M (a0 + 0) (M (a1 + 0))) (a0 + 1) ((upd M (a0 + 0) (M (a1 + 0))) (a1 + 1))) (a1 + 2))) (a1 + 3))) (a1 + 4))) (a0 + 5) ((upd (upd (upd (upd (upd M (a0 + 0) (M (a1 + 0))) (a0 + 1) ((upd M (a0 + 0) (M (a1 + 0))) (a1 + 1))) (a0 + 2) ((upd (upd M (a0 + 0) (M (a1 + 0))) (a0 + 1) ((upd M (a0 + 0) (M (a1 + 0))) (a1 + 1))) (a1 + 2))) (a0 + 3) ((upd (upd (upd M (a0 + 0) (M (a1 + 0))) (a0 + 1) ((upd M (a0 + 0) (M (a1 + 0))) (a1 + 1))) (a0 + 2) ((upd (upd M (a0 + 0) (M (a1 + 0))) (a0 + 1) ((upd M (a0 + 0) (M (a1 + 0))) (a1 + 1))) (a1 + 2))) (a1 + 3))) (a0 + 4) ((upd (upd (upd (upd M (a0 + 0) (M (a1 + 0))) (a0 + 1) ((upd M (a0 + 0) (M (a1 + 0))) (a1 + 1))) (a0 + 2) ((upd (upd M (a0 + 0) (M (a1 + 0))) (a0 + 1) ((upd M (a0 + 0) (M (a1 + 0))) (a1 + 1))) (a1 + 2))) (a0 + 3) ((upd (upd (upd M (a0 + 0) (M (a1 + 0))) (a0 + 1) ((upd M (a0 + 0) (M (a1 + 0))) (a1 + 1))) (a0 + 2) ((upd (upd M (a0 + 0) (M (a1 + 0))) (a0 + 1) ((upd M (a0 + 0) (M (a1 + 0))) (a1 + 1))) (a1 + 2))) (a1 + 3))) (a1 + 4))) (a1 + 5))) (a0 + 6) ((upd (upd (upd (upd (upd (upd M (a0 + 0) (M (a1 + 0))) (a0 + 1) ((upd M (a0 + 0) (M (a1 + 0))) (a1 + 1))) (a0 + 2) ((upd (upd M (a0 + 0) (M (a1 + 0))) (a0 + 1) ((upd M (a0 + 0) (M (a1 + 0))) (a1 + 1))) (a1 + 2))) (a0 + 3) ((upd (upd (upd M (a0 + 0) (M (a1 + 0))) (a0 + 1) ((upd M (a0 + 0) (M (a1 + 0))) (a1 + 1))) (a0 + 2) ((upd (upd M (a0 + 0) (M (a1 + 0))) (a0 + 1) ((upd M (a0 + 0) (M (a1 + 0))) (a1 + 1))) (a1 + 2))) (a1 + 3))) (a0 + 4) ((upd (upd (upd (upd M (a0 + 0) (M (a1 + 0))) (a0 + 1) ((upd M (a0 + 0) (M (a1 + 0))) (a1 + 1))) (a0 + 2) ((upd (upd M (a0 + 0) (M (a1 + 0))) (a0 + 1) ((upd M (a0 + 0) (M (a1 + 0))) (a1 + 1))) (a1 + 2))) (a0 + 3) ((upd (upd (upd M (a0 + 0) (M (a1 + 0))) (a0 + 1) ((upd M (a0 + 0) (M (a1 + 0))) (a1 + 1))) (a0 + 2) ((upd (upd M (a0 + 0) (M (a1 + 0))) (a0 + 1) ((upd M (a0 + 0) (M (a1 + 0))) (a1 + 1))) (a1 + 2))) (a1 + 3))) (a1 + 4))) (a0 + 5) ((upd (upd (upd (upd (upd M (a0 + 0) (M (a1 + 0))) (a0 + 1) ((upd M (a0 + 0) (M (a1 + 0))) (a1 + 1))) (a0 + 2) ((upd (upd M (a0 + 0) (M (a1 + 0))) (a0 + 1) ((upd M (a0 + 0) (M (a1 + 0))) (a1 + 1))) (a1 + 2))) (a0 + 3) ((upd (upd (upd M (a0 + 0) (M (a1 + 0))) (a0 + 1) ((upd M (a0 + 0) (M (a1 + 0))) (a1 + 1))) (a0 + 2) ((upd (upd M (a0 + 0) (M (a1 + 0))) (a0 + 1) ((upd M (a0 + 0) (M (a1 + 0))) (a1 + 1))) (a1 + 2))) (a1 + 3))) (a0 + 4) ((upd (upd (upd (upd M (a0 + 0) (M (a1 + 0))) (a0 + 1) ((upd M (a0 + 0) (M (a1 + 0))) (a1 + 1))) (a0 + 2) ((upd (upd M (a0 + 0) (M (a1 + 0))) (a0 + 1) ((upd M (a0 + 0) (M (a1 + 0))) (a1 + 1))) (a1 + 2))) (a0 + 3) ((upd (upd (upd M (a0 + 0) (M (a1 + 0))) (a0 + 1) ((upd M (a0 + 0) (M (a1 + 0))) (a1 + 1))) (a0 + 2) ((upd (upd M (a0 + 0) (M (a1 + 0))) (a0 + 1) ((upd M (a0 + 0) (M (a1 + 0))) (a1 + 1))) (a1 + 2))) (a1 + 3))) (a1 + 4))) (a1 + 5))) (a1 + 6))) (a1 + 7))) (a1 + 8))))
def f_X1_copyFrom (a0 : Nat) (a1 : Nat) (M : xM) : Option xM :=
  (some (upd (upd (upd (upd (upd (upd (upd (upd M (a0 + 0) (M (a1 + 0))) (a0 + 1) ((upd M (a0 + 0) (M (a1 + 0))) (a1 + 1))) (a0 + 2) ((upd (upd M (a0 + 0) (M (a1 + 0))) (a0 + 1) ((upd M (a0 + 0) (M (a1 + 0))) (a1 + 1))) (a1 + 2))) (a0 + 3) ((upd (upd (upd M (a0 + 0) (M (a1 + 0))) (a0 + 1) ((upd M (a0 + 0) (M (a1 + 0))) (a1 + 1))) (a0 + 2) ((upd (upd M (a0 + 0) (M (a1 + 0))) (a0 + 1) ((upd M (a0 + 0) (M (a1 + 0))) (a1 + 1))) (a1 + 2))) (a1 + 3))) (a0 + 4) ((upd (upd (upd (upd M (a0 + 0) (M (a1 + 0))) (a0 + 1) ((upd M (a0 + 0) (M (a1 + 0))) (a1 + 1))) (a0 + 2) ((upd (upd M (a0 + 0) (M (a1 + 0))) (a0 + 1) ((upd M (a0 + 0) (M (a1 + 0))) (a1 + 1))) (a1 + 2))) (a0 + 3) ((upd (upd (upd M (a0 + 0) (M (a1 + 0))) (a0 + 1) ((upd M (a0 + 0) (M (a1 + 0))) (a1 + 1))) (a0 + 2) ((upd (upd M (a0 + 0) (M (a1 + 0))) (a0 + 1) ((upd M (a0 + 0) (M (a1 + 0))) (a1 + 1))) (a1 + 2))) (a1 + 3))) (a1 + 4))) (a0 + 5) ((upd (upd (upd (upd (upd M (a0 + 0) (M (a1 + 0))) (a0 + 1) ((upd M (a0 + 0) (M (a1 + 0))) (a1 + 1))) (a0 + 2) ((upd (upd M (a0 + 0) (M (a1 + 0))) (a0 + 1) ((upd M (a0 + 0) (M (a1 + 0))) (a1 + 1))) (a1 + 2))) (a0 + 3) ((upd (upd (upd M (a0 + 0) (M (a1 + 0))) (a0 + 1) ((upd M (a0 + 0) (M (a1 + 0))) (a1 + 1))) (a0 + 2) ((upd (upd M (a0 + 0) (M (a1 + 0))) (a0 + 1) ((upd M (a0 + 0) (M (a1 + 0))) (a1 + 1))) (a1 + 2))) (a1 + 3))) (a0 + 4) ((upd (upd (upd (upd M (a0 + 0) (M (a1 + 0))) (a0 + 1) ((upd M (a0 + 0) (M (a1 + 0))) (a1 + 1))) (a0 + 2) ((upd (upd M (a0 + 0) (M (a1 + 0))) (a0 + 1) ((upd M (a0 + 0) (M (a1 + 0))) (a1 + 1))) (a1 + 2))) (a0 + 3) ((upd (upd (upd M (a0 + 0) (M (a1 + 0))) (a0 + 1) ((upd M (a0 + 0) (M (a1 + 0))) (a1 + 1))) (a0 + 2) ((upd (upd M (a0 + 0) (M (a1 + 0))) (a0 + 1) ((upd M (a0 + 0) (M (a1 + 0))) (a1 + 1))) (a1 + 2))) (a1 + 3))) (a1 + 4))) (a1 + 5))) (a0 + 6) ((upd (upd (upd (upd (upd (upd M (a0 + 0) (M (a1 + 0))) (a0 + 1) ((upd M (a0 + 0) (M (a1 + 0))) (a1 + 1))) (a0 + 2) ((upd (upd M (a0 + 0) (M (a1 + 0))) (a0 + 1) ((upd M (a0 + 0) (M (a1 + 0))) (a1 + 1))) (a1 + 2))) (a0 + 3) ((upd (upd (upd M (a0 + 0) (M (a1 + 0))) (a0 + 1) ((upd M (a0 + 0) (M (a1 + 0))) (a1 + 1))) (a0 + 2) ((upd (upd M (a0 + 0) (M (a1 + 0))) (a0 + 1) ((upd M (a0 + 0) (M (a1 + 0))) (a1 + 1))) (a1 + 2))) (a1 + 3))) (a0 + 4) ((upd (upd (upd (upd M (a0 + 0) (M (a1 + 0))) (a0 + 1) ((upd M (a0 + 0) (M (a1 + 0))) (a1 + 1))) (a0 + 2) ((upd (upd M (a0 + 0) (M (a1 + 0))) (a0 + 1) ((upd M (a0 + 0) (M (a1 + 0))) (a1 + 1))) (a1 + 2))) (a0 + 3) ((upd (upd (upd M (a0 + 0) (M (a1 + 0))) (a0 + 1) ((upd M (a0 + 0) (M (a1 + 0))) (a1 + 1))) (a0 + 2) ((upd (upd M (a0 + 0) (M (a1 + 0))) (a0 + 1) ((upd M (a0 + 0) (M (a1 + 0))) (a1 + 1))) (a1 + 2))) (a1 + 3))) (a1 + 4))) (a0 + 5) ((upd (upd (upd (upd (upd M (a0 + 0) (M (a1 + 0))) (a0 + 1) ((upd M (a0 + 0) (M (a1 + 0))) (a1 + 1))) (a0 + 2) ((upd (upd M (a0 + 0) (M (a1 + 0))) (a0 + 1) ((upd M (a0 + 0) (M (a1 + 0))) (a1 + 1))) (a1 + 2))) (a0 + 3) ((upd (upd (upd M (a0 + 0) (M (a1 + 0))) (a0 + 1) ((upd M (a0 + 0) (M (a1 + 0))) (a1 + 1))) (a0 + 2) ((upd (upd M (a0 + 0) (M (a1 + 0))) (a0 + 1) ((upd M (a0 + 0) (M (a1 + 0))) (a1 + 1))) (a1 + 2))) (a1 + 3))) (a0 + 4) ((upd (upd (upd (upd M (a0 + 0) (M (a1 + 0))) (a0 + 1) ((upd M (a0 + 0) (M (a1 + 0))) (a1 + 1))) (a0 + 2) ((upd (upd M (a0 + 0) (M (a1 + 0))) (a0 + 1) ((upd M (a0 + 0) (M (a1 + 0))) (a1 + 1))) (a1 + 2))) (a0 + 3) ((upd (upd (upd M (a0 + 0) (M (a1 + 0))) (a0 + 1) ((upd M (a0 + 0) (M (a1 + 0))) (a1 + 1))) (a0 + 2) ((upd (upd M (a0 + 0) (M (a1 + 0))) (a0 + 1) ((upd M (a0 + 0) (M (a1 + 0))) (a1 + 1))) (a1 + 2))) (a1 + 3))) (a1 + 4))) (a1 + 5))) (a1 + 6))) (a0 + 7) ((upd (upd (upd (upd (upd (upd (upd M (a0 + 0) (M (a1 + 0))) (a0 + 1) ((upd M (a0 + 0) (M (a1 + 0))) (a1 + 1))) (a0 + 2) ((upd (upd M (a0 + 0) (M (a1 + 0))) (a0 + 1) ((upd M (a0 + 0) (M (a1 + 0))) (a1 + 1))) (a1 + 2))) (a0 + 3) ((upd (upd (upd M (a0 + 0) (M (a1 + 0))) (a0 + 1) ((upd M (a0 + 0) (M (a1 + 0))) (a1 + 1))) (a0 + 2) ((upd (upd M (a0 + 0) (M (a1 + 0))) (a0 + 1) ((upd M (a0 + 0) (M (a1 + 0))) (a1 + 1))) (a1 + 2))) (a1 + 3))) (a0 + 4) ((upd (upd (upd (upd M (a0 + 0) (M (a1 + 0))) (a0 + 1) ((upd M (a0 + 0) (M (a1 + 0))) (a1 + 1))) (a0 + 2) ((upd (upd M (a0 + 0) (M (a1 + 0))) (a0 + 1) ((upd M (a0 + 0) (M (a1 + 0))) (a1 + 1))) (a1 + 2))) (a0 + 3) ((upd (upd (upd M (a0 + 0) (M (a1 + 0))) (a0 + 1) ((upd M (a0 + 0) (M (a1 + 0))) (a1 + 1))) (a0 + 2) ((upd (upd M (a0 + 0) (M (a1 + 0))) (a0 + 1) ((upd M (a0 + 0) (M (a1 + 0))) (a1 + 1))) (a1 + 2))) (a1 + 3))) (a1 + 4))) (a0 + 5) ((upd (upd (upd (upd (upd M (a0 + 0) (M (a1 + 0))) (a0 + 1) ((upd M (a0 + 0) (M (a1 + 0))) (a1 + 1))) (a0 + 2) ((upd (upd M (a0 + 0) (M (a1 + 0))) (a0 + 1) ((upd M (a0 + 0) (M (a1 + 0))) (a1 + 1))) (a1 + 2))) (a0 + 3) ((upd (upd (upd M (a0 + 0) (M (a1 + 0))) (a0 + 1) ((upd M (a0 + 0) (M (a1 + 0))) (a1 + 1))) (a0 + 2) ((upd (upd M (a0 + 0) (M (a1 + 0))) (a0 + 1) ((upd M (a0 + 0) (M (a1 + 0))) (a1 + 1))) (a1 + 2))) (a1 + 3))) (a0 + 4) ((upd (upd (upd (upd M (a0 + 0) (M (a1 + 0))) (a0 + 1) ((upd M (a0 + 0) (M (a1 + 0))) (a1 + 1))) (a0 + 2) ((upd (upd M (a0 + 0) (M (a1 + 0))) (a0 + 1) ((upd M (a0 + 0) (M (a1 + 0))) (a1 + 1))) (a1 + 2))) (a0 + 3) ((upd (upd (upd M (a0 + 0) (M (a1 + 0))) (a0 + 1) ((upd M (a0 + 0) (M (a1 + 0))) (a1 + 1))) (a0 + 2) ((upd (upd M (a0 + 0) (M (a1 + 0))) (a0 + 1) ((upd M (a0 + 0) (M (a1 + 0))) (a1 + 1))) (a1 + 2))) (a1 + 3))) (a1 + 4))) (a1 + 5))) (a0 + 6) ((upd (upd (upd (upd (upd (upd M (a0 + 0) (M (a1 + 0))) (a0 + 1) ((upd M (a0 + 0) (M (a1 + 0))) (a1 + 1))) (a0 + 2) ((upd (upd M (a0 + 0) (M (a1 + 0))) (a0 + 1) ((upd M (a0 + 0) (M (a1 + 0))) (a1 + 1))) (a1 + 2))) (a0 + 3) ((upd (upd (upd M (a0 + 0) (M (a1 + 0))) (a0 + 1) ((upd M (a0 + 0) (M (a1 + 0))) (a1 + 1))) (a0 + 2) ((upd (upd M (a0 + 0) (M (a1 + 0))) (a0 + 1) ((upd M (a0 + 0) (M (a1 + 0))) (a1 + 1))) (a1 + 2))) (a1 + 3))) (a0 + 4) ((upd (upd (upd (upd M (a0 + 0) (M (a1 + 0))) (a0 + 1) ((upd M (a0 + 0) (M (a1 + 0))) (a1 + 1))) (a0 + 2) ((upd (upd M (a0 + 0) (M (a1 + 0))) (a0 + 1) ((upd M (a0 + 0) (M (a1 + 0))) (a1 + 1))) (a1 + 2))) (a0 + 3) ((upd (upd (upd M (a0 + 0) (M (a1 + 0))) (a0 + 1) ((upd M (a0 + 0) (M (a1 + 0))) (a1 + 1))) (a0 + 2) ((upd (upd M (a0 + 0) (M (a1 + 0))) (a0 + 1) ((upd M (a0 + 0) (M (a1 + 0))) (a1 + 1))) (a1 + 2))) (a1 + 3))) (a1 + 4))) (a0 + 5) ((upd (upd (upd (upd (upd M (a0 + 0) (M (a1 + 0))) (a0 + 1) ((upd M (a0 + 0) (M (a1 + 0))) (a1 + 1))) (a0 + 2) ((upd (upd M (a0 + 0) (M (a1 + 0))) (a0 + 1) ((upd M (a0 + 0) (M (a1 + 0))) (a1 + 1))) (a1 + 2))) (a0 + 3) ((upd (upd (upd M (a0 + 0) (M (a1 + 0))) (a0 + 1) ((upd M (a0 + 0) (M (a1 + 0))) (a1 + 1))) (a0 + 2) ((upd (upd M (a0 + 0) (M (a1 + 0))) (a0 + 1) ((upd M (a0 + 0) (M (a1 + 0))) (a1 + 1))) (a1 + 2))) (a1 + 3))) (a0 + 4) ((upd (upd (upd (upd M (a0 + 0) (M (a1 + 0))) (a0 + 1) ((upd M (a0 + 0) (M (a1 + 0))) (a1 + 1))) (a0 + 2) ((upd (upd M (a0 + 0) (M (a1 + 0))) (a0 + 1) ((upd M (a0 + 0) (M (a1 + 0))) (a1 + 1))) (a1 + 2))) (a0 + 3) ((upd (upd (upd M (a0 + 0) (M (a1 + 0))) (a0 + 1) ((upd M (a0 + 0) (M (a1 + 0))) (a1 + 1))) (a0 + 2) ((upd (upd M (a0 + 0) (M (a1 + 0))) (a0 + 1) ((upd M (a0 + 0) (M (a1 + 0))) (a1 + 1))) (a1 + 2))) (a1 + 3))) (a1 + 4))) (a1 + 5))) (a1 + 6))) (a1 + 7))))
def f_X6_forgetChanges  (M : xM) : Option xM :=
  (some (upd (upd M 1669 0) 1670 0))
def fb_X6_bytesIn_c5 (k5 : Int32 → Int32 → xM → Option (Int32 × xM)) (a0 : Int32) (v1 : Int32) (v2 : Int32) (M : xM) : Option (Int32 × xM) :=
  (if v2 < 0 then (some (v1, M)) else (if ((iush a0 v2) &&& 255) = 0 then (k5 v1 (v2 + (-8)) M) else (k5 (v1 + 1) (v2 + (-8)) M)))
def f_X6_bytesIn_c5  (a0 : Int32) : Int32 → Int32 → xM → Option (Int32 × xM) :=
  lp (fun _ _ _ => none) (fun k => fb_X6_bytesIn_c5 k a0) FU
def f_X6_bytesIn (a0 : Int32) (M : xM) : Option (Int32 × xM) :=
  (f_X6_bytesIn_c5  a0 0 24 M)
def fb_X3_appendWord_c3 (k3 : Int32 → xM → Option xM) (a1 : Int32) (v2 : Int32) (M : xM) : Option xM :=
  (if v2 < 0 then (some M) else (if ((iush a1 v2) &&& 255) = 0 then (k3 (v2 + (-8)) M) else (bd (f_X3_appendByte ((iush a1 v2) &&& 255) M) (fun M4 => (k3 (v2 + (-8)) M4)))))
def f_X3_appendWord_c3  (a1 : Int32) : Int32 → xM → Option xM :=
  lp (fun _ _ => none) (fun k => fb_X3_appendWord_c3 k a1) FU
def f_X3_appendWord (a1 : Int32) (M : xM) : Option xM :=
  (f_X3_appendWord_c3  a1 24 M)
def f_X6_errorCode  (M : xM) : Option (Int32 × xM) :=
  (some ((M 1779), M))
def f_X6_errorPosition  (M : xM) : Option (Int32 × xM) :=
  (some ((M 1780), M))
def f_X6_minute  (M : xM) : Option (Int32 × xM) :=
  (some ((M 0), M))
def f_X6_bellPosition  (M : xM) : Option (Int32 × xM) :=
  (some ((M 7), M))
def f_X6_threshold  (M : xM) : Option (Int32 × xM) :=
  (some ((M 5), M))
def f_X6_duration  (M : xM) : Option (Int32 × xM) :=
  (some ((M 6), M))
def f_X6_undoCount  (M : xM) : Option (Int32 × xM) :=
  (some ((M 1670), M))
def f_X6_isOpen  (M : xM) : Option (Int32 × xM) :=
  (gd (isb (M 1)) (some ((M 1), M)))
def f_X6_isReady  (M : xM) : Option (Int32 × xM) :=
  (gd (isb (M 2)) (some ((M 2), M)))
def f_X6_openMinutes  (M : xM) : Option (Int32 × xM) :=
  (some ((M 3), M))
def f_X6_ringings  (M : xM) : Option (Int32 × xM) :=
  (some ((M 4), M))
def f_X6_stallCount  (M : xM) : Option (Int32 × xM) :=
  (some ((M 9), M))
def f_X6_buyerCount  (M : xM) : Option (Int32 × xM) :=
  (some ((M 10), M))
def fb_X2_earnedInAll_c4 (k4 : Int32 → Int32 → xM → Option (Int32 × xM)) (a0 : Nat) (v1 : Int32) (v2 : Int32) (M : xM) : Option (Int32 × xM) :=
  (if (M (a0 + 9)) ≤ v2 then (some (v1, M)) else (gd (inb v2 6) (k4 (v1 + (M (((a0 + 23) + 9 * v2.toNatClampNeg) + 7))) (v2 + 1) M)))
def f_X2_earnedInAll_c4  (a0 : Nat) : Int32 → Int32 → xM → Option (Int32 × xM) :=
  lp (fun _ _ _ => none) (fun k => fb_X2_earnedInAll_c4 k a0) FU
def f_X2_earnedInAll (a0 : Nat) (M : xM) : Option (Int32 × xM) :=
  (f_X2_earnedInAll_c4  a0 0 0 M)
def fb_X2_countHeld_c4 (k4 : Int32 → Int32 → xM → Option (Int32 × xM)) (a0 : Nat) (a1 : Int32) (v2 : Int32) (v3 : Int32) (M : xM) : Option (Int32 × xM) :=
  (if (M (a0 + 10)) ≤ v3 then (some (v2, M)) else (gd (inb v3 6) (if (M (((a0 + 77) + 8 * v3.toNatClampNeg) + 4)) = a1 then (k4 (v2 + 1) (v3 + 1) M) else (k4 v2 (v3 + 1) M))))
def f_X2_countHeld_c4  (a0 : Nat) (a1 : Int32) : Int32 → Int32 → xM → Option (Int32 × xM) :=
  lp (fun _ _ _ => none) (fun k => fb_X2_countHeld_c4 k a0 a1) FU
def f_X2_countHeld (a0 : Nat) (a1 : Int32) (M : xM) : Option (Int32 × xM) :=
  (f_X2_countHeld_c4  a0 a1 0 0 M)
def fb_X2_soldInAll_c4 (k4 : Int32 → Int32 → xM → Option (Int32 × xM)) (a0 : Nat) (v1 : Int32) (v2 : Int32) (M : xM) : Option (Int32 × xM) :=
  (if (M (a0 + 9)) ≤ v2 then (some (v1, M)) else (gd (inb v2 6) (k4 (v1 + (M (((a0 + 23) + 9 * v2.toNatClampNeg) + 5))) (v2 + 1) M)))
def f_X2_soldInAll_c4  (a0 : Nat) : Int32 → Int32 → xM → Option (Int32 × xM) :=
  lp (fun _ _ _ => none) (fun k => fb_X2_soldInAll_c4 k a0) FU
def f_X2_soldInAll (a0 : Nat) (M : xM) : Option (Int32 × xM) :=
  (f_X2_soldInAll_c4  a0 0 0 M)
def f_X6_drawOnRope (a1 : Int32) (a2 : Int32) (M : xM) : Option xM :=
  (if a1 < 0 then (some M) else (if 100 ≤ a1 then (some M) else (gd (inb a1 100) (some (upd M (1677 + a1.toNatClampNeg) (vp_nar .byte a2.toInt8.toInt32))))))
def f_X6_outputByte (a1 : Int32) (M : xM) : Option (Int32 × xM) :=
  (if a1 < 0 then (some ((-1), M)) else (if a1 < (M 1674) then (gd (inb a1 100) (some ((M (1677 + a1.toNatClampNeg)), M))) else (some ((-1), M))))
def f_X6_checkRange_c10  (a0 : Int32) (a1 : Int32) (a2 : Int32)  (M : xM) : Option (Nat × Unit × xM) :=
  (some (1, (), M))
def f_X6_checkRange (a0 : Int32) (a1 : Int32) (a2 : Int32) (M : xM) : Option (Nat × Unit × xM) :=
  (if a0 < a1 then (f_X6_checkRange_c10  a0 a1 a2  M) else (if a0 ≤ a2 then (some (0, (), M)) else (f_X6_checkRange_c10  a0 a1 a2  M)))
def f_X6_checkStall_c15  (a1 : Int32)  (M : xM) : Option (Nat × Unit × xM) :=
  (some (2, (), M))
def f_X6_checkStall (a1 : Int32) (M : xM) : Option (Nat × Unit × xM) :=
  (if a1 < 0 then (f_X6_checkStall_c15  a1  M) else (if a1 < (M 9) then (some (0, (), M)) else (f_X6_checkStall_c15  a1  M)))
def f_X6_heldOf (a1 : Int32) (M : xM) : Option (Nat × Int32 × xM) :=
  (tbd (0 : Int32) (f_X6_checkStall a1 M) (fun r4 M3 => (bd2 (f_X2_countHeld 0 a1 M3) (fun r9 M8 => (some (0, r9, M8))))))
def f_X6_reach (a1 : Int32) (a2 : Int32) (M : xM) : Option (Nat × Int32 × xM) :=
  (tbd (0 : Int32) (f_X6_checkRange a1 0 3 M) (fun r4 M3 => (tbd (0 : Int32) (f_X6_checkRange a2 0 9 M3) (fun r10 M9 => (bd2 (f_X4_paces a1 a2 M9) (fun r15 M14 => (some (0, r15, M14))))))))
def f_X4_isSeenFrom (a0 : Nat) (a1 : Int32) (a2 : Int32) (M : xM) : Option (Int32 × xM) :=
  (bd2 (f_X4_paces (M (a0 + 1)) a2 M) (fun r3 M2 => (if r3 < (iabs ((M (a0 + 0)) - a1)) then (some (0, M2)) else (some (1, M2)))))
def f_X6_checkBuyer_c15  (a1 : Int32)  (M : xM) : Option (Nat × Unit × xM) :=
  (some (2, (), M))
def f_X6_checkBuyer (a1 : Int32) (M : xM) : Option (Nat × Unit × xM) :=
  (if a1 < 0 then (f_X6_checkBuyer_c15  a1  M) else (if a1 < (M 10) then (some (0, (), M)) else (f_X6_checkBuyer_c15  a1  M)))
def fb_X7_startTrial_c2 (k2 : Int32 → xM → Option xM)  (v1 : Int32) (M : xM) : Option xM :=
  (if 125 ≤ v1 then (some M) else (gd (inb v1 125) (gd (inb v1 125) (k2 (v1 + 1) (upd M (2770 + v1.toNatClampNeg) (M (2520 + v1.toNatClampNeg)))))))
def f_X7_startTrial_c2   : Int32 → xM → Option xM :=
  lp (fun _ _ => none) (fun k => fb_X7_startTrial_c2 k ) FU
def f_X7_startTrial  (M : xM) : Option xM :=
  (f_X7_startTrial_c2   0 M)
def f_X7_inRange (a0 : Int32) (a1 : Int32) (a2 : Int32) (M : xM) : Option (Int32 × xM) :=
  (if a0 < a1 then (some (0, M)) else (if a2 < a0 then (some (0, M)) else (some (1, M))))
def f_X7_isDigit (a0 : Int32) (M : xM) : Option (Int32 × xM) :=
  (bd2 (f_X7_inRange a0 48 57 M) (fun r3 M2 => (gd (isb r3) (some (r3, M2)))))
def f_X7_flag (a0 : Int32) (M : xM) : Option (Int32 × xM) :=
  (if a0 = 0 then (some (0, M)) else (some (1, M)))
def f_X7_wrong (a1 : Int32) (M : xM) : Option (Int32 × xM) :=
  (some (0, (upd (upd M 2502 a1) 2503 ((upd M 2502 a1) 2517))))
def f_X7_numberIn (a1 : Int32) (a2 : Int32) (M : xM) : Option (Int32 × xM) :=
  (if (M 2516) = 1 then (bd2 (f_X7_inRange (M 2518) a1 a2 M) (fun r4 M3 => (if r4 = 0 then (bd2 (f_X7_wrong 2 M3) (fun r8 M7 => (if r8 = 0 then (some (0, M7)) else (some (1, M7))))) else (some (1, M3))))) else (bd2 (f_X7_wrong 1 M) (fun r12 M11 => (gd (isb r12) (some (r12, M11))))))
def f_X7_isEnd  (M : xM) : Option (Int32 × xM) :=
  (if (M 2516) = 2 then (some (1, M)) else (bd2 (f_X7_wrong 1 M) (fun r4 M3 => (if r4 = 0 then (some (0, M3)) else (some (1, M3))))))
def f_X7_by (a1 : Int32) (a2 : Int32) (M : xM) : Option (Int32 × xM) :=
  (gd (inb ((77 + (8 * a1)) + a2) 125) (some ((M (2520 + ((77 + (8 * a1)) + a2).toNatClampNeg)), M)))
def f_X7_st (a1 : Int32) (a2 : Int32) (M : xM) : Option (Int32 × xM) :=
  (gd (inb ((23 + (9 * a1)) + a2) 125) (some ((M (2520 + ((23 + (9 * a1)) + a2).toNatClampNeg)), M)))
def f_X7_more (a1 : Int32) (a2 : Int32) (a3 : Int32) (M : xM) : Option xM :=
  (gd (inb ((23 + (9 * a1)) + a2) 125) (gd (inb ((23 + (9 * a1)) + a2) 125) (some (upd M (2520 + ((23 + (9 * a1)) + a2).toNatClampNeg) ((M (2520 + ((23 + (9 * a1)) + a2).toNatClampNeg)) + a3)))))
def f_X7_put (a1 : Int32) (a2 : Int32) (a3 : Int32) (M : xM) : Option xM :=
  (gd (inb ((77 + (8 * a1)) + a2) 125) (some (upd M (2520 + ((77 + (8 * a1)) + a2).toNatClampNeg) a3)))
def f_X7_fogAt (a1 : Int32) (M : xM) : Option (Int32 × xM) :=
  (gd (nz (M 2528)) (gd (inb (11 + ((a1 / 5) - (a1 / 5) / (M 2528) * (M 2528))) 125) (some ((M (2520 + (11 + ((a1 / 5) - (a1 / 5) / (M 2528) * (M 2528))).toNatClampNeg)), M))))
def f_X7_giveBack (a1 : Int32) (M : xM) : Option xM :=
  (bd2 (f_X7_by a1 4 M) (fun r3 M2 => (bd (f_X7_more r3 4 1 M2) (fun M5 => (bd (f_X7_put a1 4 (-1) M5) (fun M7 => (bd (f_X7_put a1 5 0 M7) (fun M9 => (some M9)))))))))
def f_X7_apart (a0 : Int32) (a1 : Int32) (M : xM) : Option (Int32 × xM) :=
  (if a1 ≤ a0 then (some ((a0 - a1), M)) else (some ((a1 - a0), M)))
def f_X7_pay (a1 : Int32) (M : xM) : Option (Int32 × xM) :=
  (bd2 (f_X7_by a1 4 M) (fun r3 M2 => (bd2 (f_X7_by a1 5 M2) (fun r6 M5 => (bd (f_X7_more r3 7 r6 M5) (fun M8 => (bd (f_X7_more r3 5 1 M8) (fun M10 => (bd2 (f_X7_by a1 1 M10) (fun r13 M12 => (bd (f_X7_put a1 1 (r13 - r6) M12) (fun M15 => (bd2 (f_X7_by a1 7 M15) (fun r18 M17 => (bd (f_X7_put a1 7 (r18 + 1) M17) (fun M20 => (bd (f_X7_put a1 4 (-1) M20) (fun M22 => (bd (f_X7_put a1 5 0 M22) (fun M24 => (some (1, M24))))))))))))))))))))))
def f_X7_has (a0 : Int32) (a1 : Int32) (M : xM) : Option (Int32 × xM) :=
  (if ((a0 >>> (a1 &&& 31)) &&& 1) = 1 then (some (1, M)) else (some (0, M)))
def f_X7_reachOf (a0 : Int32) (a1 : Int32) (M : xM) : Option (Int32 × xM) :=
  (if a0 = 0 then (some ((30 - (2 * a1)), M)) else if a0 = 1 then (some ((24 - a1), M)) else if a0 = 2 then (some ((45 - (5 * a1)), M)) else (some (12, M)))
def f_X7_feel (a1 : Int32) (a2 : Int32) (M : xM) : Option (Int32 × xM) :=
  (bd2 (f_X7_st a2 2 M) (fun r3 M2 => (bd2 (f_X7_by a1 2 M2) (fun r6 M5 => (if r3 = r6 then (bd2 (f_X7_st a2 4 M5) (fun r10 M9 => (if r10 = 0 then (some (2, M9)) else (bd2 (f_X7_st a2 3 M9) (fun r14 M13 => (bd2 (f_X7_by a1 1 M13) (fun r17 M16 => (if r14 ≤ r17 then (some (0, M16)) else (some (3, M16)))))))))) else (some (1, M5)))))))
def f_X7_guardOf (a0 : Int32) (M : xM) : Option (Int32 × xM) :=
  (if a0 = 0 then (some (7, M)) else if a0 = 1 then (some (5, M)) else if a0 = 2 then (some (6, M)) else (some (9, M)))
def f_X7_lays (a1 : Int32) (a2 : Int32) (M : xM) : Option (Int32 × xM) :=
  (gd (inb a1 125) (gd (inb a1 125) (some ((M (2520 + a1.toNatClampNeg)), (upd M (2520 + a1.toNatClampNeg) a2)))))
def f_X7_doBack (a1 : Int32) (M : xM) : Option (Int32 × xM) :=
  (bd2 (f_X7_by a1 4 M) (fun r3 M2 => (bd (f_X7_giveBack a1 M2) (fun M5 => (bd2 (f_X7_by a1 6 M5) (fun r8 M7 => (bd (f_X7_put a1 6 (r8 ||| (1 <<< (r3 &&& 31))) M7) (fun M10 => (some (r3, M10))))))))))
def f_X7_doStock (a1 : Int32) (a2 : Int32) (M : xM) : Option (Int32 × xM) :=
  (bd (f_X7_more a1 4 a2 M) (fun M2 => (bd (f_X7_more a1 8 a2 M2) (fun M4 => (bd2 (f_X7_st a1 4 M4) (fun r7 M6 => (some (r7, M6))))))))
def fb_X7_leaveTrial_c2 (k2 : Int32 → xM → Option (Int32 × xM)) (a1 : Int32) (v2 : Int32) (M : xM) : Option (Int32 × xM) :=
  (if 125 ≤ v2 then (some (a1, M)) else (gd (inb v2 125) (gd (inb v2 125) (k2 (v2 + 1) (upd M (2520 + v2.toNatClampNeg) (M (2770 + v2.toNatClampNeg)))))))
def f_X7_leaveTrial_c2  (a1 : Int32) : Int32 → xM → Option (Int32 × xM) :=
  lp (fun _ _ => none) (fun k => fb_X7_leaveTrial_c2 k a1) FU
def f_X7_leaveTrial (a1 : Int32) (M : xM) : Option (Int32 × xM) :=
  (f_X7_leaveTrial_c2  a1 0 M)
def f_X7_thrown  (M : xM) : Option (Int32 × xM) :=
  (some ((M 2504), M))
def f_X7_byteOf_c45  (a0 : Int32) (a1 : Int32) (a2 : Int32) (a3 : Int32) (a4 : Int32) (a5 : Int32) (s0 : Int32) (M : xM) : Option (Int32 × xM) :=
  (some (((s0 >>> ((24 - (8 * (a5 - a5 / 4 * 4))) &&& 31)) &&& 255), M))
def f_X7_byteOf (a0 : Int32) (a1 : Int32) (a2 : Int32) (a3 : Int32) (a4 : Int32) (a5 : Int32) (M : xM) : Option (Int32 × xM) :=
  (if 4 ≤ a5 then (if 8 ≤ a5 then (if 12 ≤ a5 then (if 16 ≤ a5 then (f_X7_byteOf_c45  a0 a1 a2 a3 a4 a5 a4 M) else (f_X7_byteOf_c45  a0 a1 a2 a3 a4 a5 a3 M)) else (f_X7_byteOf_c45  a0 a1 a2 a3 a4 a5 a2 M)) else (f_X7_byteOf_c45  a0 a1 a2 a3 a4 a5 a1 M)) else (f_X7_byteOf_c45  a0 a1 a2 a3 a4 a5 a0 M))
def fb_X7_pushAside_c51 (k51 : Int32 → xM → Option xM)  (v1 : Int32) (M : xM) : Option xM :=
  (if 125 ≤ v1 then (some (upd M 2509 ((M 2509) + 1))) else (gd (inb v1 125) (gd (inb ((125 * (M 2509)) + v1) 1000) (k51 (v1 + 1) (upd M (2895 + ((125 * (M 2509)) + v1).toNatClampNeg) (M (2645 + v1.toNatClampNeg)))))))
def f_X7_pushAside_c51   : Int32 → xM → Option xM :=
  lp (fun _ _ => none) (fun k => fb_X7_pushAside_c51 k ) FU
def f_X7_pushAside_c49    (M : xM) : Option xM :=
  (f_X7_pushAside_c51   0 M)
def fb_X7_pushAside_c11 (k11 : Int32 → xM → Option xM)  (v1 : Int32) (M : xM) : Option xM :=
  (if 875 ≤ v1 then (f_X7_pushAside_c49    (upd M 2509 ((M 2509) - 1))) else (gd (inb (v1 + 125) 1000) (gd (inb v1 1000) (k11 (v1 + 1) (upd M (2895 + v1.toNatClampNeg) (M (2895 + (v1 + 125).toNatClampNeg)))))))
def f_X7_pushAside_c11   : Int32 → xM → Option xM :=
  lp (fun _ _ => none) (fun k => fb_X7_pushAside_c11 k ) FU
def f_X7_pushAside  (M : xM) : Option xM :=
  (if (M 2509) = 8 then (f_X7_pushAside_c11   0 M) else (f_X7_pushAside_c49    M))
def f_X7_plain (a1 : Int32) (M : xM) : Option (Int32 × xM) :=
  (some (a1, (upd M 2504 0)))
def f_X7_errorPosition  (M : xM) : Option (Int32 × xM) :=
  (bd2 (f_X7_plain (M 2503) M) (fun r3 M2 => (some (r3, M2))))
def f_X7_minute  (M : xM) : Option (Int32 × xM) :=
  (bd2 (f_X7_plain (M 2520) M) (fun r3 M2 => (some (r3, M2))))
def f_X7_bellPosition  (M : xM) : Option (Int32 × xM) :=
  (bd2 (f_X7_plain (M 2527) M) (fun r3 M2 => (some (r3, M2))))
def f_X7_threshold  (M : xM) : Option (Int32 × xM) :=
  (bd2 (f_X7_plain (M 2525) M) (fun r3 M2 => (some (r3, M2))))
def f_X7_duration  (M : xM) : Option (Int32 × xM) :=
  (bd2 (f_X7_plain (M 2526) M) (fun r3 M2 => (some (r3, M2))))
def f_X7_undoCount  (M : xM) : Option (Int32 × xM) :=
  (bd2 (f_X7_plain (M 2509) M) (fun r3 M2 => (some (r3, M2))))
def f_X7_fails_c9  (a1 : Int32) (a2 : Int32)  (M : xM) : Option (Int32 × xM) :=
  (if a1 = 0 then (some (1, M)) else (some (0, M)))
def f_X7_fails (a1 : Int32) (a2 : Int32) (M : xM) : Option (Int32 × xM) :=
  (if a1 = 0 then (f_X7_fails_c9  a1 a2  (upd M 2504 a2)) else (f_X7_fails_c9  a1 a2  M))
def f_X7_isOpen  (M : xM) : Option (Int32 × xM) :=
  (bd2 (f_X7_plain (M 2521) M) (fun r3 M2 => (if r3 = 1 then (some (1, M2)) else (some (0, M2)))))
def f_X7_isReady  (M : xM) : Option (Int32 × xM) :=
  (bd2 (f_X7_plain (M 2522) M) (fun r3 M2 => (if r3 = 1 then (some (1, M2)) else (some (0, M2)))))
def f_X7_openMinutes  (M : xM) : Option (Int32 × xM) :=
  (bd2 (f_X7_plain (M 2523) M) (fun r3 M2 => (some (r3, M2))))
def f_X7_ringings  (M : xM) : Option (Int32 × xM) :=
  (bd2 (f_X7_plain (M 2524) M) (fun r3 M2 => (some (r3, M2))))
def f_X7_stallCount  (M : xM) : Option (Int32 × xM) :=
  (bd2 (f_X7_plain (M 2529) M) (fun r3 M2 => (some (r3, M2))))
def f_X7_isStall (a1 : Int32) (M : xM) : Option (Int32 × xM) :=
  (bd2 (f_X7_inRange a1 0 (((upd M 2504 0) 2529) - 1) (upd M 2504 0)) (fun r3 M2 => (bd2 (f_X7_fails r3 1 M2) (fun r6 M5 => (if r6 = 0 then (some (1, M5)) else (some (0, M5)))))))
def f_X7_held_c31 (k4 : Int32 → Int32 → xM → Option (Int32 × xM)) (a1 : Int32) (v3 : Int32) (s0 : Int32) (s1 : Int32) (M : xM) : Option (Int32 × xM) :=
  (bd2 (f_X7_flag s0 M) (fun r8 M7 => (k4 (s1 + r8) (v3 + 1) M7)))
def fb_X7_held_c4 (k4 : Int32 → Int32 → xM → Option (Int32 × xM)) (a1 : Int32) (v2 : Int32) (v3 : Int32) (M : xM) : Option (Int32 × xM) :=
  (if (M 2530) ≤ v3 then (some (v2, M)) else (bd2 (f_X7_by v3 4 M) (fun r4 M3 => (if r4 = a1 then (f_X7_held_c31 k4 a1 v3 1 v2 M3) else (f_X7_held_c31 k4 a1 v3 0 v2 M3)))))
def f_X7_held_c4  (a1 : Int32) : Int32 → Int32 → xM → Option (Int32 × xM) :=
  lp (fun _ _ _ => none) (fun k => fb_X7_held_c4 k a1) FU
def f_X7_held (a1 : Int32) (M : xM) : Option (Int32 × xM) :=
  (f_X7_held_c4  a1 0 0 M)
def f_X7_reach_c30  (a1 : Int32) (a2 : Int32) (s0 : Int32) (M : xM) : Option (Int32 × xM) :=
  (bd2 (f_X7_fails s0 1 M) (fun r11 M10 => (if r11 = 0 then (bd2 (f_X7_reachOf a1 a2 M10) (fun r15 M14 => (some (r15, M14)))) else (some (0, M10)))))
def f_X7_reach_c29  (a1 : Int32) (a2 : Int32)  (M : xM) : Option (Int32 × xM) :=
  (f_X7_reach_c30  a1 a2 0 M)
def f_X7_reach (a1 : Int32) (a2 : Int32) (M : xM) : Option (Int32 × xM) :=
  (bd2 (f_X7_inRange a1 0 3 (upd M 2504 0)) (fun r3 M2 => (if r3 = 0 then (f_X7_reach_c29  a1 a2  M2) else (bd2 (f_X7_inRange a2 0 9 M2) (fun r7 M6 => (if r7 = 0 then (f_X7_reach_c29  a1 a2  M6) else (f_X7_reach_c30  a1 a2 1 M6)))))))
def f_X7_buyerCount  (M : xM) : Option (Int32 × xM) :=
  (bd2 (f_X7_plain (M 2530) M) (fun r3 M2 => (some (r3, M2))))
def f_X7_isBuyer (a1 : Int32) (M : xM) : Option (Int32 × xM) :=
  (bd2 (f_X7_inRange a1 0 (((upd M 2504 0) 2530) - 1) (upd M 2504 0)) (fun r3 M2 => (bd2 (f_X7_fails r3 1 M2) (fun r6 M5 => (if r6 = 0 then (some (1, M5)) else (some (0, M5)))))))
def f_X7_touch (a1 : Int32) (a2 : Int32) (M : xM) : Option (Int32 × xM) :=
  (bd2 (f_X7_isBuyer a1 M) (fun r3 M2 => (if r3 = 0 then (some (0, M2)) else (bd2 (f_X7_isStall a2 M2) (fun r7 M6 => (if r7 = 0 then (some (0, M6)) else (bd2 (f_X7_feel a1 a2 M6) (fun r11 M10 => (some (r11, M10))))))))))
def fb_X7_sumOf_c4 (k4 : Int32 → Int32 → xM → Option (Int32 × xM)) (a1 : Int32) (v2 : Int32) (v3 : Int32) (M : xM) : Option (Int32 × xM) :=
  (if (M 2529) ≤ v3 then (some (v2, M)) else (bd2 (f_X7_st v3 a1 M) (fun r4 M3 => (k4 (v2 + r4) (v3 + 1) M3))))
def f_X7_sumOf_c4  (a1 : Int32) : Int32 → Int32 → xM → Option (Int32 × xM) :=
  lp (fun _ _ _ => none) (fun k => fb_X7_sumOf_c4 k a1) FU
def f_X7_sumOf (a1 : Int32) (M : xM) : Option (Int32 × xM) :=
  (f_X7_sumOf_c4  a1 0 0 M)
def fb_X7_consistencyError_c9 (k9 : Int32 → Int32 → xM → Option (Int32 × xM))  (v1 : Int32) (v2 : Int32) (M : xM) : Option (Int32 × xM) :=
  (if (M 2529) ≤ v2 then (some (v1, M)) else (bd2 (f_X7_st v2 8 M) (fun r4 M3 => (bd2 (f_X7_st v2 4 M3) (fun r7 M6 => (bd2 (f_X7_held v2 M6) (fun r10 M9 => (bd2 (f_X7_st v2 5 M9) (fun r13 M12 => (bd2 (f_X7_st v2 6 M12) (fun r16 M15 => (k9 (v1 + (iabs ((((r4 - r7) - r10) - r13) - r16))) (v2 + 1) M15))))))))))))
def f_X7_consistencyError_c9   : Int32 → Int32 → xM → Option (Int32 × xM) :=
  lp (fun _ _ _ => none) (fun k => fb_X7_consistencyError_c9 k ) FU
def f_X7_consistencyError  (M : xM) : Option (Int32 × xM) :=
  (f_X7_consistencyError_c9   0 0 (upd M 2504 0))
def fb_X7_record_c2 (k2 : Int32 → xM → Option xM)  (v1 : Int32) (M : xM) : Option xM :=
  (if 125 ≤ v1 then (bd (f_X7_pushAside  M) (fun M3 => (some M3))) else (gd (inb v1 125) (gd (inb v1 125) (k2 (v1 + 1) (upd M (2645 + v1.toNatClampNeg) (M (2520 + v1.toNatClampNeg)))))))
def f_X7_record_c2   : Int32 → xM → Option xM :=
  lp (fun _ _ => none) (fun k => fb_X7_record_c2 k ) FU
def f_X7_record  (M : xM) : Option xM :=
  (f_X7_record_c2   0 M)
def f_X7_setPrice (a1 : Int32) (a2 : Int32) (M : xM) : Option (Int32 × xM) :=
  (bd2 (f_X7_isStall a1 M) (fun r3 M2 => (if r3 = 0 then (some (0, M2)) else (bd2 (f_X7_inRange a2 1 999 M2) (fun r7 M6 => (bd2 (f_X7_fails r7 2 M6) (fun r10 M9 => (if r10 = 0 then (bd (f_X7_record  M9) (fun M13 => (bd2 (f_X7_lays ((23 + (9 * a1)) + 3) a2 M13) (fun r16 M15 => (some (r16, M15)))))) else (some (0, M9))))))))))
def f_X7_addStock_c42  (a1 : Int32) (a2 : Int32) (s0 : Int32) (M : xM) : Option (Int32 × xM) :=
  (bd2 (f_X7_fails s0 3 M) (fun r18 M17 => (if r18 = 0 then (bd (f_X7_record  M17) (fun M21 => (bd2 (f_X7_doStock a1 a2 M21) (fun r24 M23 => (some (r24, M23)))))) else (some (0, M17)))))
def f_X7_addStock (a1 : Int32) (a2 : Int32) (M : xM) : Option (Int32 × xM) :=
  (bd2 (f_X7_isStall a1 M) (fun r3 M2 => (if r3 = 0 then (some (0, M2)) else (bd2 (f_X7_inRange a2 0 99 M2) (fun r7 M6 => (bd2 (f_X7_fails r7 2 M6) (fun r10 M9 => (if r10 = 0 then (bd2 (f_X7_st a1 4 M9) (fun r14 M13 => (if 99 < (r14 + a2) then (f_X7_addStock_c42  a1 a2 0 M13) else (f_X7_addStock_c42  a1 a2 1 M13)))) else (some (0, M9))))))))))
def f_X7_setLantern (a1 : Int32) (a2 : Int32) (M : xM) : Option (Int32 × xM) :=
  (bd2 (f_X7_isStall a1 M) (fun r3 M2 => (if r3 = 0 then (some (0, M2)) else (bd2 (f_X7_inRange a2 0 3 M2) (fun r7 M6 => (bd2 (f_X7_fails r7 2 M6) (fun r10 M9 => (if r10 = 0 then (bd (f_X7_record  M9) (fun M13 => (bd2 (f_X7_lays ((23 + (9 * a1)) + 1) a2 M13) (fun r16 M15 => (some (r16, M15)))))) else (some (0, M9))))))))))
def f_X7_moveStall (a1 : Int32) (a2 : Int32) (M : xM) : Option (Int32 × xM) :=
  (bd2 (f_X7_isStall a1 M) (fun r3 M2 => (if r3 = 0 then (some (0, M2)) else (bd2 (f_X7_inRange a2 0 99 M2) (fun r7 M6 => (bd2 (f_X7_fails r7 2 M6) (fun r10 M9 => (if r10 = 0 then (bd (f_X7_record  M9) (fun M13 => (bd2 (f_X7_lays ((23 + (9 * a1)) + 0) a2 M13) (fun r16 M15 => (some (r16, M15)))))) else (some (0, M9))))))))))
def f_X7_setFog (a1 : Int32) (a2 : Int32) (M : xM) : Option (Int32 × xM) :=
  (bd2 (f_X7_inRange a1 0 (((upd M 2504 0) 2528) - 1) (upd M 2504 0)) (fun r3 M2 => (bd2 (f_X7_fails r3 1 M2) (fun r6 M5 => (if r6 = 0 then (bd2 (f_X7_inRange a2 0 9 M5) (fun r10 M9 => (bd2 (f_X7_fails r10 2 M9) (fun r13 M12 => (if r13 = 0 then (bd (f_X7_record  M12) (fun M16 => (bd2 (f_X7_lays (11 + a1) a2 M16) (fun r19 M18 => (some (r19, M18)))))) else (some (0, M12))))))) else (some (0, M5)))))))
def f_X7_putBack_c24  (a1 : Int32) (s0 : Int32) (M : xM) : Option (Int32 × xM) :=
  (bd2 (f_X7_fails s0 2 M) (fun r11 M10 => (if r11 = 0 then (bd (f_X7_record  M10) (fun M14 => (bd2 (f_X7_doBack a1 M14) (fun r17 M16 => (some (r17, M16)))))) else (some (0, M10)))))
def f_X7_putBack (a1 : Int32) (M : xM) : Option (Int32 × xM) :=
  (bd2 (f_X7_isBuyer a1 M) (fun r3 M2 => (if r3 = 0 then (some (0, M2)) else (bd2 (f_X7_by a1 4 M2) (fun r7 M6 => (if r7 = (-1) then (f_X7_putBack_c24  a1 0 M6) else (f_X7_putBack_c24  a1 1 M6)))))))
def fb_X7_undo_c39 (k39 : Int32 → xM → Option (Int32 × xM))  (v1 : Int32) (M : xM) : Option (Int32 × xM) :=
  (if 125 ≤ v1 then (some ((M 2509), M)) else (gd (inb ((125 * (M 2509)) + v1) 1000) (gd (inb v1 125) (k39 (v1 + 1) (upd M (2520 + v1.toNatClampNeg) (M (2895 + ((125 * (M 2509)) + v1).toNatClampNeg)))))))
def f_X7_undo_c39   : Int32 → xM → Option (Int32 × xM) :=
  lp (fun _ _ => none) (fun k => fb_X7_undo_c39 k ) FU
def f_X7_undo_c18   (s0 : Int32) (M : xM) : Option (Int32 × xM) :=
  (bd2 (f_X7_fails s0 1 M) (fun r4 M3 => (if r4 = 0 then (f_X7_undo_c39   0 (upd M3 2509 ((M3 2509) - 1))) else (some (0, M3)))))
def f_X7_undo  (M : xM) : Option (Int32 × xM) :=
  (if ((upd M 2504 0) 2509) ≤ 0 then (f_X7_undo_c18   0 (upd M 2504 0)) else (f_X7_undo_c18   1 (upd M 2504 0)))
def fb_X7_save_c23 (k23 : Int32 → xM → Option (Int32 × xM)) (a1 : Int32) (v2 : Int32) (M : xM) : Option (Int32 × xM) :=
  (if 125 ≤ v2 then (gd (inb a1 2) (some (((upd M (4145 + a1.toNatClampNeg) (vp_nar .boolean 1)) 2520), (upd M (4145 + a1.toNatClampNeg) (vp_nar .boolean 1))))) else (gd (inb v2 125) (gd (inb ((125 * a1) + v2) 250) (k23 (v2 + 1) (upd M (3895 + ((125 * a1) + v2).toNatClampNeg) (M (2520 + v2.toNatClampNeg)))))))
def f_X7_save_c23  (a1 : Int32) : Int32 → xM → Option (Int32 × xM) :=
  lp (fun _ _ => none) (fun k => fb_X7_save_c23 k a1) FU
def f_X7_save (a1 : Int32) (M : xM) : Option (Int32 × xM) :=
  (bd2 (f_X7_inRange a1 0 1 (upd M 2504 0)) (fun r3 M2 => (bd2 (f_X7_fails r3 1 M2) (fun r6 M5 => (if r6 = 0 then (f_X7_save_c23  a1 0 M5) else (some (0, M5)))))))
def fb_X7_restore_c37 (k37 : Int32 → xM → Option (Int32 × xM)) (a1 : Int32) (v2 : Int32) (M : xM) : Option (Int32 × xM) :=
  (if 125 ≤ v2 then (some (((upd M 2509 0) 2520), (upd M 2509 0))) else (gd (inb ((125 * a1) + v2) 250) (gd (inb v2 125) (k37 (v2 + 1) (upd M (2520 + v2.toNatClampNeg) (M (3895 + ((125 * a1) + v2).toNatClampNeg)))))))
def f_X7_restore_c37  (a1 : Int32) : Int32 → xM → Option (Int32 × xM) :=
  lp (fun _ _ => none) (fun k => fb_X7_restore_c37 k a1) FU
def f_X7_restore (a1 : Int32) (M : xM) : Option (Int32 × xM) :=
  (bd2 (f_X7_inRange a1 0 1 (upd M 2504 0)) (fun r3 M2 => (bd2 (f_X7_fails r3 1 M2) (fun r6 M5 => (if r6 = 0 then (gd (inb a1 2) (bd2 (f_X7_fails (M5 (4145 + a1.toNatClampNeg)) 2 M5) (fun r11 M10 => (if r11 = 0 then (f_X7_restore_c37  a1 0 M10) else (some (0, M10)))))) else (some (0, M5)))))))
def fb_X7_signAt_c50 (k50 : Int32 → xM → Option (Int32 × xM)) (a1 : Int32) (v2 : Int32) (M : xM) : Option (Int32 × xM) :=
  (if (M 2529) ≤ v2 then (some (45, M)) else (bd2 (f_X7_st v2 0 M) (fun r10 M9 => (if r10 = a1 then (some ((65 + v2), M9)) else (k50 (v2 + 1) M9)))))
def f_X7_signAt_c50  (a1 : Int32) : Int32 → xM → Option (Int32 × xM) :=
  lp (fun _ _ => none) (fun k => fb_X7_signAt_c50 k a1) FU
def fb_X7_signAt_c16 (k16 : Int32 → xM → Option (Int32 × xM)) (a1 : Int32) (v2 : Int32) (M : xM) : Option (Int32 × xM) :=
  (if (M 2530) ≤ v2 then (f_X7_signAt_c50  a1 0 M) else (bd2 (f_X7_by v2 0 M) (fun r5 M4 => (if r5 = a1 then (some ((97 + v2), M4)) else (k16 (v2 + 1) M4)))))
def f_X7_signAt_c16  (a1 : Int32) : Int32 → xM → Option (Int32 × xM) :=
  lp (fun _ _ => none) (fun k => fb_X7_signAt_c16 k a1) FU
def f_X7_signAt (a1 : Int32) (M : xM) : Option (Int32 × xM) :=
  (if a1 = (M 2527) then (some (42, M)) else (f_X7_signAt_c16  a1 0 M))
def f_X7_outputByte (a1 : Int32) (M : xM) : Option (Int32 × xM) :=
  (bd2 (f_X7_inRange a1 0 (((upd M 2504 0) 2519) - 1) (upd M 2504 0)) (fun r3 M2 => (if r3 = 0 then (some ((-1), M2)) else (gd (inb a1 100) (some ((M2 (4152 + a1.toNatClampNeg)), M2))))))
def f_J0_length_8abf5 (a0 : Nat) (M : xM) : Option (Int32 × xM) :=
  (bd2 (f_J0_coder_7d493 a0 M) (fun r3 M2 => (some (((nI (x_slen a0)) >>> (r3 &&& 31)), M2))))
def f_J0_checkIndex_df160 (a0 : Int32) (a1 : Int32) (M : xM) : Option xM :=
  (bd2 (f_J3_checkIndex_8e157 a0 a1 M) (fun r4 M3 => (some M3)))
def f_X3_readToken_c37 (k0 : xM → Option xM)   (M : xM) : Option xM :=
  (k0  (upd M 1783 ((M 1783) + 1)))
def fb_X3_readToken_c96 (k96 : xM → Option xM)   (M : xM) : Option xM :=
  (if (M 1778) ≤ (M 1783) then (some M) else (bd2 (f_X3_byteAt (M 1783) M) (fun r34 M33 => (bd2 (f_X3_isLetter r34 M33) (fun r37 M36 => (if r37 = 0 then (some M36) else (k96  (upd M36 1783 ((M36 1783) + 1)))))))))
def f_X3_readToken_c96   : xM → Option xM :=
  lp (fun  _ => none) (fun k => fb_X3_readToken_c96 k ) FU
def f_X3_readToken_c179   (s0 : Int32) (M : xM) : Option xM :=
  (some (upd (upd M 1784 s0) 1783 (((upd M 1784 s0) 1783) + 1)))
def f_X3_readToken_c50    (M : xM) : Option xM :=
  (if ((upd M 1785 (M 1783)) 1783) < ((upd M 1785 (M 1783)) 1778) then (bd2 (f_X3_byteAt ((upd M 1785 (M 1783)) 1783) (upd M 1785 (M 1783))) (fun r13 M12 => (bd2 (f_X3_isLetter r13 M12) (fun r16 M15 => (if r16 = 0 then (bd2 (f_X3_byteAt (M15 1783) M15) (fun r20 M19 => (bd2 (f_X3_isDigit r20 M19) (fun r23 M22 => (if r23 = 0 then (bd2 (f_X3_byteAt (M22 1783) M22) (fun r27 M26 => (if r27 = 59 then (f_X3_readToken_c179   3 M26) else (f_X3_readToken_c179   4 M26)))) else (bd (f_X3_readDigits  (upd M22 1784 2)) (fun M30 => (some M30)))))))) else (f_X3_readToken_c96    (upd M15 1784 1))))))) else (some (upd (upd M 1785 (M 1783)) 1784 0)))
def fb_X3_readToken_c0 (k0 : xM → Option xM)   (M : xM) : Option xM :=
  (if (M 1778) ≤ (M 1783) then (f_X3_readToken_c50    M) else (bd2 (f_X3_byteAt (M 1783) M) (fun r4 M3 => (if r4 = 32 then (f_X3_readToken_c37 k0   M3) else (bd2 (f_X3_byteAt (M3 1783) M3) (fun r8 M7 => (if r8 = 10 then (f_X3_readToken_c37 k0   M7) else (f_X3_readToken_c50    M7))))))))
def f_X3_readToken_c0   : xM → Option xM :=
  lp (fun  _ => none) (fun k => fb_X3_readToken_c0 k ) FU
def f_X3_readToken  (M : xM) : Option xM :=
  (f_X3_readToken_c0    M)
def f_X3_readNumber (a1 : Int32) (a2 : Int32) (M : xM) : Option (Int32 × xM) :=
  (bd (f_X3_readToken  M) (fun M2 => (bd2 (f_X3_isNumberFrom a1 a2 M2) (fun r5 M4 => (gd (isb r5) (some (r5, M4)))))))
def f_X3_readSemicolon  (M : xM) : Option (Int32 × xM) :=
  (bd (f_X3_readToken  M) (fun M2 => (if (M2 1784) = 3 then (some (1, M2)) else (bd2 (f_X3_fail 1 M2) (fun r6 M5 => (if r6 = 0 then (some (0, M5)) else (some (1, M5))))))))
