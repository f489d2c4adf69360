def f_X3_readFog_c26 (k2 : Int32 → xM → Option (Int32 × xM)) (a1 : Nat) (v2 : Int32) (M : xM) : Option (Int32 × xM) :=
  (if (M 1784) = 2 then (if (M 1786) ≤ 9 then (if v2 = 12 then (bd2 (f_X3_fail 4 M) (fun r13 M12 => (gd (isb r13) (some (r13, M12))))) else (bd (f_X2_addDensity a1 (M 1786) M) (fun M10 => (k2 (v2 + 1) M10)))) else (bd2 (f_X3_fail 2 M) (fun r17 M16 => (gd (isb r17) (some (r17, M16)))))) else (bd2 (f_X3_fail 1 M) (fun r21 M20 => (gd (isb r21) (some (r21, M20))))))
def fb_X3_readFog_c2 (k2 : Int32 → xM → Option (Int32 × xM)) (a1 : Nat) (v2 : Int32) (M : xM) : Option (Int32 × xM) :=
  (if 12 < v2 then (some (0, M)) else (bd (f_X3_readToken  M) (fun M3 => (if (M3 1784) = 3 then (if v2 ≤ 0 then (f_X3_readFog_c26 k2 a1 v2 M3) else (some (1, M3))) else (f_X3_readFog_c26 k2 a1 v2 M3)))))
def f_X3_readFog_c2  (a1 : Nat) : Int32 → xM → Option (Int32 × xM) :=
  lp (fun _ _ => none) (fun k => fb_X3_readFog_c2 k a1) FU
def f_X3_readFog (a1 : Nat) (M : xM) : Option (Int32 × xM) :=
  (f_X3_readFog_c2  a1 0 M)
def f_X3_isRefusedBy_c51  (a1 : Nat) (a2 : Int32)  (M : xM) : Option (Int32 × xM) :=
  (gd (inb (M 1781) 10) (if (M 1781) = 8 then (bd2 (f_X2_isBuyer a1 (M 1786) M) (fun r21 M20 => (if r21 = 0 then (some (0, M20)) else (gd (inb (M20 1786) 6) (bd2 (f_X1_holds ((a1 + 77) + 8 * (M20 1786).toNatClampNeg) M20) (fun r27 M26 => (if r27 = 0 then (some (1, M26)) else (some (0, M26))))))))) else (some (0, M))))
def f_X3_isRefusedBy (a1 : Nat) (a2 : Int32) (M : xM) : Option (Int32 × xM) :=
  (gd (inb (M 1781) 10) (if (M 1781) = 4 then (if a2 = 1 then (bd2 (f_X3_argument 0 M) (fun r6 M5 => (bd2 (f_X2_isStall a1 r6 M5) (fun r9 M8 => (if r9 = 0 then (some (0, M8)) else (gd (inb r6 6) (bd2 (f_X4_hasRoomFor ((a1 + 23) + 9 * r6.toNatClampNeg) (M8 1786) M8) (fun r15 M14 => (if r15 = 0 then (some (1, M14)) else (some (0, M14))))))))))) else (f_X3_isRefusedBy_c51  a1 a2  M)) else (f_X3_isRefusedBy_c51  a1 a2  M)))
def f_X2_placeStall (a0 : Nat) (a1 : Int32) (a2 : Int32) (a3 : Int32) (a4 : Int32) (a5 : Int32) (M : xM) : Option (Int32 × xM) :=
  (if (M (a0 + 9)) < 6 then (gd (inb (M (a0 + 9)) 6) (bd (f_X4_reset ((a0 + 23) + 9 * (M (a0 + 9)).toNatClampNeg) a1 a2 a3 a4 M) (fun M5 => (gd (inb (M (a0 + 9)) 6) (bd (f_X4_receive ((a0 + 23) + 9 * (M (a0 + 9)).toNatClampNeg) a5 M5) (fun M9 => (some ((M (a0 + 9)), (upd M9 (a0 + 9) ((M9 (a0 + 9)) + 1)))))))))) else (some ((-1), M)))
def f_X2_placeBuyer (a0 : Nat) (a1 : Int32) (a2 : Int32) (a3 : Int32) (a4 : Int32) (M : xM) : Option (Int32 × xM) :=
  (if (M (a0 + 10)) < 6 then (gd (inb (M (a0 + 10)) 6) (bd (f_X1_reset ((a0 + 77) + 8 * (M (a0 + 10)).toNatClampNeg) a1 a2 a3 a4 M) (fun M5 => (some ((M (a0 + 10)), (upd M5 (a0 + 10) ((M5 (a0 + 10)) + 1))))))) else (some ((-1), M)))
def f_X2_returnGood (a0 : Nat) (a1 : Nat) (M : xM) : Option xM :=
  (bd2 (f_X2_isStall a0 (M (a1 + 4)) M) (fun r3 M2 => (if r3 = 0 then (bd (f_X1_letGo a1 M2) (fun M6 => (some M6))) else (gd (inb (M2 (a1 + 4)) 6) (bd (f_X1_letGo a1 (upd M2 (((a0 + 23) + 9 * (M2 (a1 + 4)).toNatClampNeg) + 4) ((M2 (((a0 + 23) + 9 * (M2 (a1 + 4)).toNatClampNeg) + 4)) + 1))) (fun M10 => (some M10)))))))
def f_X2_densityNow (a0 : Nat) (M : xM) : Option (Int32 × xM) :=
  (bd2 (f_X2_densityIn a0 (M (a0 + 0)) M) (fun r3 M2 => (some (r3, M2))))
def fb_X2_moveBell_c57 (k57 : Int32 → xM → Option xM) (a0 : Nat) (a1 : Int32) (v3 : Int32) (M : xM) : Option xM :=
  (if (M (a0 + 10)) ≤ v3 then (some M) else (gd (inb v3 6) (bd (f_X2_returnGood a0 ((a0 + 77) + 8 * v3.toNatClampNeg) M) (fun M13 => (gd (inb v3 6) (k57 (v3 + 1) (upd M13 (((a0 + 77) + 8 * v3.toNatClampNeg) + 6) 0)))))))
def f_X2_moveBell_c57  (a0 : Nat) (a1 : Int32) : Int32 → xM → Option xM :=
  lp (fun _ _ => none) (fun k => fb_X2_moveBell_c57 k a0 a1) FU
def f_X2_moveBell_c45  (a0 : Nat) (a1 : Int32)  (M : xM) : Option xM :=
  (f_X2_moveBell_c57  a0 a1 0 (upd (upd M (a0 + 1) 0) (a0 + 3) 0))
def f_X2_moveBell_c94  (a0 : Nat) (a1 : Int32) (v2 : Int32) (M : xM) : Option xM :=
  (if (M (a0 + 1)) = 0 then (if (M (a0 + 2)) = 0 then (some M) else (if v2 = 0 then (some (upd (upd (upd (upd M (a0 + 1) 1) (a0 + 3) 0) (a0 + 2) 0) (a0 + 4) (((upd (upd (upd M (a0 + 1) 1) (a0 + 3) 0) (a0 + 2) 0) (a0 + 4)) + 1))) else (some M))) else (some M))
def f_X2_moveBell_c23  (a0 : Nat) (a1 : Int32) (v2 : Int32) (M : xM) : Option xM :=
  (if (M (a0 + 1)) = 0 then (f_X2_moveBell_c94  a0 a1 v2 M) else (if v2 = 0 then (if (M (a0 + 3)) < (M (a0 + 6)) then (f_X2_moveBell_c94  a0 a1 v2 M) else (f_X2_moveBell_c45  a0 a1  M)) else (f_X2_moveBell_c45  a0 a1  M)))
def f_X2_moveBell_c13  (a0 : Nat) (a1 : Int32) (s0 : Int32) (M : xM) : Option xM :=
  (if s0 = 0 then (f_X2_moveBell_c23  a0 a1 s0 M) else (f_X2_moveBell_c23  a0 a1 s0 (upd M (a0 + 2) 1)))
def f_X2_moveBell (a0 : Nat) (a1 : Int32) (M : xM) : Option xM :=
  (if (M (a0 + 5)) ≤ a1 then (f_X2_moveBell_c13  a0 a1 0 M) else (f_X2_moveBell_c13  a0 a1 1 M))
def f_X2_findTarget_c62 (k9 : Int32 → Int32 → Int32 → xM → Option (Int32 × xM)) (a0 : Nat) (a1 : Nat) (a2 : Int32) (v3 : Int32) (v4 : Int32) (v5 : Int32) (v6 : Int32) (s0 : Int32) (M : xM) : Option (Int32 × xM) :=
  (if s0 = 0 then (k9 v3 v4 (v5 + 1) M) else (if v4 ≤ v6 then (k9 v3 v4 (v5 + 1) M) else (bd2 (f_X1_avoids a1 v5 M) (fun r14 M13 => (if r14 = 0 then (k9 v5 v6 (v5 + 1) M13) else (k9 v3 v4 (v5 + 1) M13))))))
def fb_X2_findTarget_c9 (k9 : Int32 → Int32 → Int32 → xM → Option (Int32 × xM)) (a0 : Nat) (a1 : Nat) (a2 : Int32) (v3 : Int32) (v4 : Int32) (v5 : Int32) (M : xM) : Option (Int32 × xM) :=
  (if (M (a0 + 9)) ≤ v5 then (some (v3, M)) else (gd (inb v5 6) (gd (inb v5 6) (bd2 (f_X4_paces (M (((a0 + 23) + 9 * v5.toNatClampNeg) + 1)) a2 M) (fun r8 M7 => (if r8 < (iabs ((M (((a0 + 23) + 9 * v5.toNatClampNeg) + 0)) - (M (a1 + 0)))) then (f_X2_findTarget_c62 k9 a0 a1 a2 v3 v4 v5 (iabs ((M (((a0 + 23) + 9 * v5.toNatClampNeg) + 0)) - (M (a1 + 0)))) 0 M7) else (f_X2_findTarget_c62 k9 a0 a1 a2 v3 v4 v5 (iabs ((M (((a0 + 23) + 9 * v5.toNatClampNeg) + 0)) - (M (a1 + 0)))) 1 M7)))))))
def f_X2_findTarget_c9  (a0 : Nat) (a1 : Nat) (a2 : Int32) : Int32 → Int32 → Int32 → xM → Option (Int32 × xM) :=
  lp (fun _ _ _ _ => none) (fun k => fb_X2_findTarget_c9 k a0 a1 a2) FU
def f_X2_findTarget (a0 : Nat) (a1 : Nat) (a2 : Int32) (M : xM) : Option (Int32 × xM) :=
  (f_X2_findTarget_c9  a0 a1 a2 (-1) 100 0 M)
def f_X4_letMistIn (a0 : Nat) (a1 : Int32) (M : xM) : Option xM :=
  (if (M (a0 + 4)) ≤ 0 then (some M) else (bd2 (f_X4_guardedDensity a0 M) (fun r4 M3 => (if a1 ≤ r4 then (some M3) else (some (upd (upd M3 (a0 + 4) ((M3 (a0 + 4)) - 1)) (a0 + 6) (((upd M3 (a0 + 4) ((M3 (a0 + 4)) - 1)) (a0 + 6)) + 1)))))))
def fb_X2_copyFrom_c88 (k88 : Int32 → xM → Option xM) (a0 : Nat) (a1 : Nat) (v2 : Int32) (M : xM) : Option xM :=
  (if (M (a0 + 8)) ≤ v2 then (gd (isb ((upd (upd (upd (upd M (a0 + 0) (M (a1 + 0))) (a0 + 7) ((upd M (a0 + 0) (M (a1 + 0))) (a1 + 7))) (a0 + 5) ((upd (upd M (a0 + 0) (M (a1 + 0))) (a0 + 7) ((upd M (a0 + 0) (M (a1 + 0))) (a1 + 7))) (a1 + 5))) (a0 + 6) ((upd (upd (upd M (a0 + 0) (M (a1 + 0))) (a0 + 7) ((upd M (a0 + 0) (M (a1 + 0))) (a1 + 7))) (a0 + 5) ((upd (upd M (a0 + 0) (M (a1 + 0))) (a0 + 7) ((upd M (a0 + 0) (M (a1 + 0))) (a1 + 7))) (a1 + 5))) (a1 + 6))) (a1 + 1))) (gd (isb ((upd (upd (upd (upd (upd M (a0 + 0) (M (a1 + 0))) (a0 + 7) ((upd M (a0 + 0) (M (a1 + 0))) (a1 + 7))) (a0 + 5) ((upd (upd M (a0 + 0) (M (a1 + 0))) (a0 + 7) ((upd M (a0 + 0) (M (a1 + 0))) (a1 + 7))) (a1 + 5))) (a0 + 6) ((upd (upd (upd M (a0 + 0) (M (a1 + 0))) (a0 + 7) ((upd M (a0 + 0) (M (a1 + 0))) (a1 + 7))) (a0 + 5) ((upd (upd M (a0 + 0) (M (a1 + 0))) (a0 + 7) ((upd M (a0 + 0) (M (a1 + 0))) (a1 + 7))) (a1 + 5))) (a1 + 6))) (a0 + 1) ((upd (upd (upd (upd M (a0 + 0) (M (a1 + 0))) (a0 + 7) ((upd M (a0 + 0) (M (a1 + 0))) (a1 + 7))) (a0 + 5) ((upd (upd M (a0 + 0) (M (a1 + 0))) (a0 + 7) ((upd M (a0 + 0) (M (a1 + 0))) (a1 + 7))) (a1 + 5))) (a0 + 6) ((upd (upd (upd M (a0 + 0) (M (a1 + 0))) (a0 + 7) ((upd M (a0 + 0) (M (a1 + 0))) (a1 + 7))) (a0 + 5) ((upd (upd M (a0 + 0) (M (a1 + 0))) (a0 + 7) ((upd M (a0 + 0) (M (a1 + 0))) (a1 + 7))) (a1 + 5))) (a1 + 6))) (a1 + 1))) (a1 + 2))) (some (upd (upd (upd (upd (upd (upd (upd (upd M (a0 + 0) (M (a1 + 0))) (a0 + 7) ((upd M (a0 + 0) (M (a1 + 0))) (a1 + 7))) (a0 + 5) ((upd (upd M (a0 + 0) (M (a1 + 0))) (a0 + 7) ((upd M (a0 + 0) (M (a1 + 0))) (a1 + 7))) (a1 + 5))) (a0 + 6) ((upd (upd (upd M (a0 + 0) (M (a1 + 0))) (a0 + 7) ((upd M (a0 + 0) (M (a1 + 0))) (a1 + 7))) (a0 + 5) ((upd (upd M (a0 + 0) (M (a1 + 0))) (a0 + 7) ((upd M (a0 + 0) (M (a1 + 0))) (a1 + 7))) (a1 + 5))) (a1 + 6))) (a0 + 1) ((upd (upd (upd (upd M (a0 + 0) (M (a1 + 0))) (a0 + 7) ((upd M (a0 + 0) (M (a1 + 0))) (a1 + 7))) (a0 + 5) ((upd (upd M (a0 + 0) (M (a1 + 0))) (a0 + 7) ((upd M (a0 + 0) (M (a1 + 0))) (a1 + 7))) (a1 + 5))) (a0 + 6) ((upd (upd (upd M (a0 + 0) (M (a1 + 0))) (a0 + 7) ((upd M (a0 + 0) (M (a1 + 0))) (a1 + 7))) (a0 + 5) ((upd (upd M (a0 + 0) (M (a1 + 0))) (a0 + 7) ((upd M (a0 + 0) (M (a1 + 0))) (a1 + 7))) (a1 + 5))) (a1 + 6))) (a1 + 1))) (a0 + 2) ((upd (upd (upd (upd (upd M (a0 + 0) (M (a1 + 0))) (a0 + 7) ((upd M (a0 + 0) (M (a1 + 0))) (a1 + 7))) (a0 + 5) ((upd (upd M (a0 + 0) (M (a1 + 0))) (a0 + 7) ((upd M (a0 + 0) (M (a1 + 0))) (a1 + 7))) (a1 + 5))) (a0 + 6) ((upd (upd (upd M (a0 + 0) (M (a1 + 0))) (a0 + 7) ((upd M (a0 + 0) (M (a1 + 0))) (a1 + 7))) (a0 + 5) ((upd (upd M (a0 + 0) (M (a1 + 0))) (a0 + 7) ((upd M (a0 + 0) (M (a1 + 0))) (a1 + 7))) (a1 + 5))) (a1 + 6))) (a0 + 1) ((upd (upd (upd (upd M (a0 + 0) (M (a1 + 0))) (a0 + 7) ((upd M (a0 + 0) (M (a1 + 0))) (a1 + 7))) (a0 + 5) ((upd (upd M (a0 + 0) (M (a1 + 0))) (a0 + 7) ((upd M (a0 + 0) (M (a1 + 0))) (a1 + 7))) (a1 + 5))) (a0 + 6) ((upd (upd (upd M (a0 + 0) (M (a1 + 0))) (a0 + 7) ((upd M (a0 + 0) (M (a1 + 0))) (a1 + 7))) (a0 + 5) ((upd (upd M (a0 + 0) (M (a1 + 0))) (a0 + 7) ((upd M (a0 + 0) (M (a1 + 0))) (a1 + 7))) (a1 + 5))) (a1 + 6))) (a1 + 1))) (a1 + 2))) (a0 + 3) ((upd (upd (upd (upd (upd (upd M (a0 + 0) (M (a1 + 0))) (a0 + 7) ((upd M (a0 + 0) (M (a1 + 0))) (a1 + 7))) (a0 + 5) ((upd (upd M (a0 + 0) (M (a1 + 0))) (a0 + 7) ((upd M (a0 + 0) (M (a1 + 0))) (a1 + 7))) (a1 + 5))) (a0 + 6) ((upd (upd (upd M (a0 + 0) (M (a1 + 0))) (a0 + 7) ((upd M (a0 + 0) (M (a1 + 0))) (a1 + 7))) (a0 + 5) ((upd (upd M (a0 + 0) (M (a1 + 0))) (a0 + 7) ((upd M (a0 + 0) (M (a1 + 0))) (a1 + 7))) (a1 + 5))) (a1 + 6))) (a0 + 1) ((upd (upd (upd (upd M (a0 + 0) (M (a1 + 0))) (a0 + 7) ((upd M (a0 + 0) (M (a1 + 0))) (a1 + 7))) (a0 + 5) ((upd (upd M (a0 + 0) (M (a1 + 0))) (a0 + 7) ((upd M (a0 + 0) (M (a1 + 0))) (a1 + 7))) (a1 + 5))) (a0 + 6) ((upd (upd (upd M (a0 + 0) (M (a1 + 0))) (a0 + 7) ((upd M (a0 + 0) (M (a1 + 0))) (a1 + 7))) (a0 + 5) ((upd (upd M (a0 + 0) (M (a1 + 0))) (a0 + 7) ((upd M (a0 + 0) (M (a1 + 0))) (a1 + 7))) (a1 + 5))) (a1 + 6))) (a1 + 1))) (a0 + 2) ((upd (upd (upd (upd (upd M (a0 + 0) (M (a1 + 0))) (a0 + 7) ((upd M (a0 + 0) (M (a1 + 0))) (a1 + 7))) (a0 + 5) ((upd (upd M (a0 + 0) (M (a1 + 0))) (a0 + 7) ((upd M (a0 + 0) (M (a1 + 0))) (a1 + 7))) (a1 + 5))) (a0 + 6) ((upd (upd (upd M (a0 + 0) (M (a1 + 0))) (a0 + 7) ((upd M (a0 + 0) (M (a1 + 0))) (a1 + 7))) (a0 + 5) ((upd (upd M (a0 + 0) (M (a1 + 0))) (a0 + 7) ((upd M (a0 + 0) (M (a1 + 0))) (a1 + 7))) (a1 + 5))) (a1 + 6))) (a0 + 1) ((upd (upd (upd (upd M (a0 + 0) (M (a1 + 0))) (a0 + 7) ((upd M (a0 + 0) (M (a1 + 0))) (a1 + 7))) (a0 + 5) ((upd (upd M (a0 + 0) (M (a1 + 0))) (a0 + 7) ((upd M (a0 + 0) (M (a1 + 0))) (a1 + 7))) (a1 + 5))) (a0 + 6) ((upd (upd (upd M (a0 + 0) (M (a1 + 0))) (a0 + 7) ((upd M (a0 + 0) (M (a1 + 0))) (a1 + 7))) (a0 + 5) ((upd (upd M (a0 + 0) (M (a1 + 0))) (a0 + 7) ((upd M (a0 + 0) (M (a1 + 0))) (a1 + 7))) (a1 + 5))) (a1 + 6))) (a1 + 1))) (a1 + 2))) (a1 + 3))) (a0 + 4) ((upd (upd (upd (upd (upd (upd (upd M (a0 + 0) (M (a1 + 0))) (a0 + 7) ((upd M (a0 + 0) (M (a1 + 0))) (a1 + 7))) (a0 + 5) ((upd (upd M (a0 + 0) (M (a1 + 0))) (a0 + 7) ((upd M (a0 + 0) (M (a1 + 0))) (a1 + 7))) (a1 + 5))) (a0 + 6) ((upd (upd (upd M (a0 + 0) (M (a1 + 0))) (a0 + 7) ((upd M (a0 + 0) (M (a1 + 0))) (a1 + 7))) (a0 + 5) ((upd (upd M (a0 + 0) (M (a1 + 0))) (a0 + 7) ((upd M (a0 + 0) (M (a1 + 0))) (a1 + 7))) (a1 + 5))) (a1 + 6))) (a0 + 1) ((upd (upd (upd (upd M (a0 + 0) (M (a1 + 0))) (a0 + 7) ((upd M (a0 + 0) (M (a1 + 0))) (a1 + 7))) (a0 + 5) ((upd (upd M (a0 + 0) (M (a1 + 0))) (a0 + 7) ((upd M (a0 + 0) (M (a1 + 0))) (a1 + 7))) (a1 + 5))) (a0 + 6) ((upd (upd (upd M (a0 + 0) (M (a1 + 0))) (a0 + 7) ((upd M (a0 + 0) (M (a1 + 0))) (a1 + 7))) (a0 + 5) ((upd (upd M (a0 + 0) (M (a1 + 0))) (a0 + 7) ((upd M (a0 + 0) (M (a1 + 0))) (a1 + 7))) (a1 + 5))) (a1 + 6))) (a1 + 1))) (a0 + 2) ((upd (upd (upd (upd (upd M (a0 + 0) (M (a1 + 0))) (a0 + 7) ((upd M (a0 + 0) (M (a1 + 0))) (a1 + 7))) (a0 + 5) ((upd (upd M (a0 + 0) (M (a1 + 0))) (a0 + 7) ((upd M (a0 + 0) (M (a1 + 0))) (a1 + 7))) (a1 + 5))) (a0 + 6) ((upd (upd (upd M (a0 + 0) (M (a1 + 0))) (a0 + 7) ((upd M (a0 + 0) (M (a1 + 0))) (a1 + 7))) (a0 + 5) ((upd (upd M (a0 + 0) (M (a1 + 0))) (a0 + 7) ((upd M (a0 + 0) (M (a1 + 0))) (a1 + 7))) (a1 + 5))) (a1 + 6))) (a0 + 1) ((upd (upd (upd (upd M (a0 + 0) (M (a1 + 0))) (a0 + 7) ((upd M (a0 + 0) (M (a1 + 0))) (a1 + 7))) (a0 + 5) ((upd (upd M (a0 + 0) (M (a1 + 0))) (a0 + 7) ((upd M (a0 + 0) (M (a1 + 0))) (a1 + 7))) (a1 + 5))) (a0 + 6) ((upd (upd (upd M (a0 + 0) (M (a1 + 0))) (a0 + 7) ((upd M (a0 + 0) (M (a1 + 0))) (a1 + 7))) (a0 + 5) ((upd (upd M (a0 + 0) (M (a1 + 0))) (a0 + 7) ((upd M (a0 + 0) (M (a1 + 0))) (a1 + 7))) (a1 + 5))) (a1 + 6))) (a1 + 1))) (a1 + 2))) (a0 + 3) ((upd (upd (upd (upd (upd (upd M (a0 + 0) (M (a1 + 0))) (a0 + 7) ((upd M (a0 + 0) (M (a1 + 0))) (a1 + 7))) (a0 + 5) ((upd (upd M (a0 + 0) (M (a1 + 0))) (a0 + 7) ((upd M (a0 + 0) (M (a1 + 0))) (a1 + 7))) (a1 + 5))) (a0 + 6) ((upd (upd (upd M (a0 + 0) (M (a1 + 0))) (a0 + 7) ((upd M (a0 + 0) (M (a1 + 0))) (a1 + 7))) (a0 + 5) ((upd (upd M (a0 + 0) (M (a1 + 0))) (a0 + 7) ((upd M (a0 + 0) (M (a1 + 0))) (a1 + 7))) (a1 + 5))) (a1 + 6))) (a0 + 1) ((upd (upd (upd (upd M (a0 + 0) (M (a1 + 0))) (a0 + 7) ((upd M (a0 + 0) (M (a1 + 0))) (a1 + 7))) (a0 + 5) ((upd (upd M (a0 + 0) (M (a1 + 0))) (a0 + 7) ((upd M (a0 + 0) (M (a1 + 0))) (a1 + 7))) (a1 + 5))) (a0 + 6) ((upd (upd (upd M (a0 + 0) (M (a1 + 0))) (a0 + 7) ((upd M (a0 + 0) (M (a1 + 0))) (a1 + 7))) (a0 + 5) ((upd (upd M (a0 + 0) (M (a1 + 0))) (a0 + 7) ((upd M (a0 + 0) (M (a1 + 0))) (a1 + 7))) (a1 + 5))) (a1 + 6))) (a1 + 1))) (a0 + 2) ((upd (upd (upd (upd (upd M (a0 + 0) (M (a1 + 0))) (a0 + 7) ((upd M (a0 + 0) (M (a1 + 0))) (a1 + 7))) (a0 + 5) ((upd (upd M (a0 + 0) (M (a1 + 0))) (a0 + 7) ((upd M (a0 + 0) (M (a1 + 0))) (a1 + 7))) (a1 + 5))) (a0 + 6) ((upd (upd (upd M (a0 + 0) (M (a1 + 0))) (a0 + 7) ((upd M (a0 + 0) (M (a1 + 0))) (a1 + 7))) (a0 + 5) ((upd (upd M (a0 + 0) (M (a1 + 0))) (a0 + 7) ((upd M (a0 + 0) (M (a1 + 0))) (a1 + 7))) (a1 + 5))) (a1 + 6))) (a0 + 1) ((upd (upd (upd (upd M (a0 + 0) (M (a1 + 0))) (a0 + 7) ((upd M (a0 + 0) (M (a1 + 0))) (a1 + 7))) (a0 + 5) ((upd (upd M (a0 + 0) (M (a1 + 0))) (a0 + 7) ((upd M (a0 + 0) (M (a1 + 0))) (a1 + 7))) (a1 + 5))) (a0 + 6) ((upd (upd (upd M (a0 + 0) (M (a1 + 0))) (a0 + 7) ((upd M (a0 + 0) (M (a1 + 0))) (a1 + 7))) (a0 + 5) ((upd (upd M (a0 + 0) (M (a1 + 0))) (a0 + 7) ((upd M (a0 + 0) (M (a1 + 0))) (a1 + 7))) (a1 + 5))) (a1 + 6))) (a1 + 1))) (a1 + 2))) (a1 + 3))) (a1 + 4)))))) else (gd (inb v2 12) (gd (inb v2 12) (k88 (v2 + 1) (upd M ((a0 + 11) + v2.toNatClampNeg) (M ((a1 + 11) + v2.toNatClampNeg)))))))
def f_X2_copyFrom_c88  (a0 : Nat) (a1 : Nat) : Int32 → xM → Option xM :=
  lp (fun _ _ => none) (fun k => fb_X2_copyFrom_c88 k a0 a1) FU
def fb_X2_copyFrom_c49 (k49 : Int32 → xM → Option xM) (a0 : Nat) (a1 : Nat) (v2 : Int32) (M : xM) : Option xM :=
  (if (M (a0 + 10)) ≤ v2 then (f_X2_copyFrom_c88  a0 a1 0 (upd M (a0 + 8) (M (a1 + 8)))) else (gd (inb v2 6) (gd (inb v2 6) (bd (f_X1_copyFrom ((a0 + 77) + 8 * v2.toNatClampNeg) ((a1 + 77) + 8 * v2.toNatClampNeg) M) (fun M14 => (k49 (v2 + 1) M14))))))
def f_X2_copyFrom_c49  (a0 : Nat) (a1 : Nat) : Int32 → xM → Option xM :=
  lp (fun _ _ => none) (fun k => fb_X2_copyFrom_c49 k a0 a1) FU
def fb_X2_copyFrom_c10 (k10 : Int32 → xM → Option xM) (a0 : Nat) (a1 : Nat) (v2 : Int32) (M : xM) : Option xM :=
  (if (M (a0 + 9)) ≤ v2 then (f_X2_copyFrom_c49  a0 a1 0 (upd M (a0 + 10) (M (a1 + 10)))) else (gd (inb v2 6) (gd (inb v2 6) (bd (f_X4_copyFrom ((a0 + 23) + 9 * v2.toNatClampNeg) ((a1 + 23) + 9 * v2.toNatClampNeg) M) (fun M7 => (k10 (v2 + 1) M7))))))
def f_X2_copyFrom_c10  (a0 : Nat) (a1 : Nat) : Int32 → xM → Option xM :=
  lp (fun _ _ => none) (fun k => fb_X2_copyFrom_c10 k a0 a1) FU
def f_X2_copyFrom (a0 : Nat) (a1 : Nat) (M : xM) : Option xM :=
  (f_X2_copyFrom_c10  a0 a1 0 (upd M (a0 + 9) (M (a1 + 9))))
def f_X6_feed (a1 : Int32) (a2 : Int32) (a3 : Int32) (a4 : Int32) (a5 : Int32) (M : xM) : Option (Int32 × xM) :=
  (bd2 (f_X6_bytesIn a1 M) (fun r3 M2 => (bd2 (f_X6_bytesIn a2 M2) (fun r6 M5 => (bd2 (f_X6_bytesIn a3 M5) (fun r9 M8 => (bd2 (f_X6_bytesIn a4 M8) (fun r12 M11 => (bd2 (f_X6_bytesIn a5 M11) (fun r15 M14 => (if ((M14 1778) + ((((r3 + r6) + r9) + r12) + r15)) ≤ 700 then (bd (f_X3_appendWord a1 M14) (fun M18 => (bd (f_X3_appendWord a2 M18) (fun M20 => (bd (f_X3_appendWord a3 M20) (fun M22 => (bd (f_X3_appendWord a4 M22) (fun M24 => (bd (f_X3_appendWord a5 M24) (fun M26 => (some ((M26 1778), M26)))))))))))) else (some ((-1), M14)))))))))))))
def f_X6_remember_c41   (s0 : Int32) (M : xM) : Option xM :=
  (some (upd (upd M 1669 s0) 1670 (imin (((upd M 1669 s0) 1670) + 1) 8)))
def f_X6_remember  (M : xM) : Option xM :=
  (gd (inb (M 1669) 8) (bd (f_X2_copyFrom (384 + 128 * (M 1669).toNatClampNeg) 0 M) (fun M4 => (if 8 ≤ ((M4 1669) + 1) then (f_X6_remember_c41   0 M4) else (f_X6_remember_c41   ((M4 1669) + 1) M4)))))
def f_X6_minutesToBell_c58 (k13 : Int32 → xM → Option (Int32 × xM))  (v1 : Int32) (M : xM) : Option (Int32 × xM) :=
  (bd (f_X2_countMinute 256 M) (fun M12 => (k13 (v1 + 1) M12)))
def fb_X6_minutesToBell_c13 (k13 : Int32 → xM → Option (Int32 × xM))  (v1 : Int32) (M : xM) : Option (Int32 × xM) :=
  (if 200 < v1 then (some ((-1), M)) else (bd2 (f_X2_densityNow 256 M) (fun r6 M5 => (bd (f_X2_moveBell 256 r6 M5) (fun M8 => (if (M 257) = 0 then (if (M8 257) = 0 then (f_X6_minutesToBell_c58 k13  v1 M8) else (some (v1, M8))) else (f_X6_minutesToBell_c58 k13  v1 M8)))))))
def f_X6_minutesToBell_c13   : Int32 → xM → Option (Int32 × xM) :=
  lp (fun _ _ => none) (fun k => fb_X6_minutesToBell_c13 k ) FU
def f_X6_minutesToBell  (M : xM) : Option (Int32 × xM) :=
  (bd (f_X2_copyFrom 256 0 M) (fun M2 => (f_X6_minutesToBell_c13   0 M2)))
def fb_X6_minutesToEnd_c25 (k25 : Int32 → xM → Option (Int32 × xM))  (v1 : Int32) (M : xM) : Option (Int32 × xM) :=
  (if 200 < v1 then (some ((-1), M)) else (bd2 (f_X2_densityNow 256 M) (fun r7 M6 => (bd (f_X2_moveBell 256 r7 M6) (fun M9 => (if (M9 257) = 0 then (some (v1, M9)) else (bd (f_X2_countMinute 256 M9) (fun M12 => (k25 (v1 + 1) M12)))))))))
def f_X6_minutesToEnd_c25   : Int32 → xM → Option (Int32 × xM) :=
  lp (fun _ _ => none) (fun k => fb_X6_minutesToEnd_c25 k ) FU
def f_X6_minutesToEnd  (M : xM) : Option (Int32 × xM) :=
  (if (M 1) = 0 then (some ((-1), M)) else (bd (f_X2_copyFrom 256 0 M) (fun M3 => (f_X6_minutesToEnd_c25   0 M3))))
def fb_X6_coinsInAll_c10 (k10 : Int32 → Int32 → xM → Option (Int32 × xM))  (v1 : Int32) (v2 : Int32) (M : xM) : Option (Int32 × xM) :=
  (if (M 10) ≤ v2 then (some (v1, M)) else (gd (inb v2 6) (k10 (v1 + (M ((77 + 8 * v2.toNatClampNeg) + 1))) (v2 + 1) M)))
def f_X6_coinsInAll_c10   : Int32 → Int32 → xM → Option (Int32 × xM) :=
  lp (fun _ _ _ => none) (fun k => fb_X6_coinsInAll_c10 k ) FU
def f_X6_coinsInAll  (M : xM) : Option (Int32 × xM) :=
  (bd2 (f_X2_earnedInAll 0 M) (fun r3 M2 => (f_X6_coinsInAll_c10   r3 0 M2)))
def fb_X6_consistencyError_c4 (k4 : Int32 → Int32 → xM → Option (Int32 × xM))  (v1 : Int32) (v2 : Int32) (M : xM) : Option (Int32 × xM) :=
  (if (M 9) ≤ v2 then (some (v1, M)) else (gd (inb v2 6) (bd2 (f_X2_countHeld 0 v2 M) (fun r6 M5 => (k4 (v1 + (iabs ((M5 ((23 + 9 * v2.toNatClampNeg) + 8)) - ((((M ((23 + 9 * v2.toNatClampNeg) + 4)) + r6) + (M5 ((23 + 9 * v2.toNatClampNeg) + 5))) + (M5 ((23 + 9 * v2.toNatClampNeg) + 6)))))) (v2 + 1) M5)))))
def f_X6_consistencyError_c4   : Int32 → Int32 → xM → Option (Int32 × xM) :=
  lp (fun _ _ _ => none) (fun k => fb_X6_consistencyError_c4 k ) FU
def f_X6_consistencyError  (M : xM) : Option (Int32 × xM) :=
  (f_X6_consistencyError_c4   0 0 M)
def fb_X6_writeRope_c75 (k75 : Int32 → xM → Option (Int32 × xM))  (v1 : Int32) (M : xM) : Option (Int32 × xM) :=
  (if v1 < 0 then (bd (f_X6_drawOnRope (M 7) 42 M) (fun M10 => (some (((upd M10 1674 100) 1674), (upd M10 1674 100))))) else (gd (inb v1 6) (bd (f_X6_drawOnRope (M ((77 + 8 * v1.toNatClampNeg) + 0)) (97 + v1) M) (fun M14 => (k75 (v1 + (-1)) M14)))))
def f_X6_writeRope_c75   : Int32 → xM → Option (Int32 × xM) :=
  lp (fun _ _ => none) (fun k => fb_X6_writeRope_c75 k ) FU
def fb_X6_writeRope_c35 (k35 : Int32 → xM → Option (Int32 × xM))  (v1 : Int32) (M : xM) : Option (Int32 × xM) :=
  (if v1 < 0 then (f_X6_writeRope_c75   ((M 10) - 1) M) else (gd (inb v1 6) (bd (f_X6_drawOnRope (M ((23 + 9 * v1.toNatClampNeg) + 0)) (65 + v1) M) (fun M7 => (k35 (v1 + (-1)) M7)))))
def f_X6_writeRope_c35   : Int32 → xM → Option (Int32 × xM) :=
  lp (fun _ _ => none) (fun k => fb_X6_writeRope_c35 k ) FU
def fb_X6_writeRope_c2 (k2 : Int32 → xM → Option (Int32 × xM))  (v1 : Int32) (M : xM) : Option (Int32 × xM) :=
  (if 100 ≤ v1 then (f_X6_writeRope_c35   ((M 9) - 1) M) else (gd (inb v1 100) (k2 (v1 + 1) (upd M (1677 + v1.toNatClampNeg) (vp_nar .byte 45)))))
def f_X6_writeRope_c2   : Int32 → xM → Option (Int32 × xM) :=
  lp (fun _ _ => none) (fun k => fb_X6_writeRope_c2 k ) FU
def f_X6_writeRope  (M : xM) : Option (Int32 × xM) :=
  (f_X6_writeRope_c2   0 M)
def f_X6_fogIn (a1 : Int32) (M : xM) : Option (Nat × Int32 × xM) :=
  (tbd (0 : Int32) (f_X6_checkRange a1 0 99999 M) (fun r4 M3 => (bd2 (f_X2_densityIn 0 a1 M3) (fun r9 M8 => (some (0, r9, M8))))))
def f_X6_stallAt (a1 : Int32) (M : xM) : Option (Nat × Nat × xM) :=
  (tbd (0 : Nat) (f_X6_checkStall a1 M) (fun r4 M3 => (gd (inb a1 6) (some (0, (23 + 9 * a1.toNatClampNeg), M3)))))
def f_X6_lanternOf (a1 : Int32) (M : xM) : Option (Nat × Int32 × xM) :=
  (tbd (0 : Int32) (f_X6_stallAt a1 M) (fun r4 M3 => (some (0, (M3 (r4 + 1)), M3))))
def f_X6_textureOf (a1 : Int32) (M : xM) : Option (Nat × Int32 × xM) :=
  (tbd (0 : Int32) (f_X6_stallAt a1 M) (fun r4 M3 => (some (0, (M3 (r4 + 2)), M3))))
def f_X6_priceOf (a1 : Int32) (M : xM) : Option (Nat × Int32 × xM) :=
  (tbd (0 : Int32) (f_X6_stallAt a1 M) (fun r4 M3 => (some (0, (M3 (r4 + 3)), M3))))
def f_X6_stockOf (a1 : Int32) (M : xM) : Option (Nat × Int32 × xM) :=
  (tbd (0 : Int32) (f_X6_stallAt a1 M) (fun r4 M3 => (some (0, (M3 (r4 + 4)), M3))))
def f_X6_soldOf (a1 : Int32) (M : xM) : Option (Nat × Int32 × xM) :=
  (tbd (0 : Int32) (f_X6_stallAt a1 M) (fun r4 M3 => (some (0, (M3 (r4 + 5)), M3))))
def f_X6_lostOf (a1 : Int32) (M : xM) : Option (Nat × Int32 × xM) :=
  (tbd (0 : Int32) (f_X6_stallAt a1 M) (fun r4 M3 => (some (0, (M3 (r4 + 6)), M3))))
def f_X6_earnings (a1 : Int32) (M : xM) : Option (Nat × Int32 × xM) :=
  (tbd (0 : Int32) (f_X6_stallAt a1 M) (fun r4 M3 => (some (0, (M3 (r4 + 7)), M3))))
def fb_X6_seenFrom_c20 (k20 : Int32 → Int32 → Int32 → xM → Option (Nat × Int32 × xM)) (a1 : Int32) (v2 : Int32) (v3 : Int32) (v4 : Int32) (M : xM) : Option (Nat × Int32 × xM) :=
  (if (M 9) ≤ v4 then (some (0, v3, M)) else (gd (inb v4 6) (bd2 (f_X4_isSeenFrom (23 + 9 * v4.toNatClampNeg) a1 v2 M) (fun r15 M14 => (if r15 = 0 then (k20 v2 v3 (v4 + 1) M14) else (k20 v2 (v3 ||| (1 <<< (v4 &&& 31))) (v4 + 1) M14))))))
def f_X6_seenFrom_c20  (a1 : Int32) : Int32 → Int32 → Int32 → xM → Option (Nat × Int32 × xM) :=
  lp (fun _ _ _ _ => none) (fun k => fb_X6_seenFrom_c20 k a1) FU
def f_X6_seenFrom (a1 : Int32) (M : xM) : Option (Nat × Int32 × xM) :=
  (tbd (0 : Int32) (f_X6_checkRange a1 0 99 M) (fun r4 M3 => (bd2 (f_X2_densityNow 0 M3) (fun r9 M8 => (f_X6_seenFrom_c20  a1 r9 0 0 M8)))))
def f_X6_buyerAt (a1 : Int32) (M : xM) : Option (Nat × Nat × xM) :=
  (tbd (0 : Nat) (f_X6_checkBuyer a1 M) (fun r4 M3 => (gd (inb a1 6) (some (0, (77 + 8 * a1.toNatClampNeg), M3)))))
def f_X6_coinsOf (a1 : Int32) (M : xM) : Option (Nat × Int32 × xM) :=
  (tbd (0 : Int32) (f_X6_buyerAt a1 M) (fun r4 M3 => (some (0, (M3 (r4 + 1)), M3))))
def f_X6_wantedTexture (a1 : Int32) (M : xM) : Option (Nat × Int32 × xM) :=
  (tbd (0 : Int32) (f_X6_buyerAt a1 M) (fun r4 M3 => (some (0, (M3 (r4 + 2)), M3))))
def f_X6_speedOf (a1 : Int32) (M : xM) : Option (Nat × Int32 × xM) :=
  (tbd (0 : Int32) (f_X6_buyerAt a1 M) (fun r4 M3 => (some (0, (M3 (r4 + 3)), M3))))
def f_X6_heldFrom (a1 : Int32) (M : xM) : Option (Nat × Int32 × xM) :=
  (tbd (0 : Int32) (f_X6_buyerAt a1 M) (fun r4 M3 => (some (0, (M3 (r4 + 4)), M3))))
def f_X6_debtOf (a1 : Int32) (M : xM) : Option (Nat × Int32 × xM) :=
  (tbd (0 : Int32) (f_X6_buyerAt a1 M) (fun r4 M3 => (some (0, (M3 (r4 + 5)), M3))))
def f_X6_avoidedBy (a1 : Int32) (M : xM) : Option (Nat × Int32 × xM) :=
  (tbd (0 : Int32) (f_X6_buyerAt a1 M) (fun r4 M3 => (some (0, (M3 (r4 + 6)), M3))))
def f_X6_boughtBy (a1 : Int32) (M : xM) : Option (Nat × Int32 × xM) :=
  (tbd (0 : Int32) (f_X6_buyerAt a1 M) (fun r4 M3 => (some (0, (M3 (r4 + 7)), M3))))
def f_X6_targetOf (a1 : Int32) (M : xM) : Option (Nat × Int32 × xM) :=
  (tbd (0 : Int32) (f_X6_buyerAt a1 M) (fun r4 M3 => (bd2 (f_X1_holds r4 M3) (fun r9 M8 => (if r9 = 0 then (bd2 (f_X2_densityNow 0 M8) (fun r13 M12 => (bd2 (f_X2_findTarget 0 r4 r13 M12) (fun r16 M15 => (some (0, r16, M15)))))) else (some (0, (-1), M8)))))))
def f_X6_touch (a1 : Int32) (a2 : Int32) (M : xM) : Option (Nat × Int32 × xM) :=
  (tbd (0 : Int32) (f_X6_buyerAt a1 M) (fun r4 M3 => (tbd (0 : Int32) (f_X6_stallAt a2 M3) (fun r10 M9 => (bd2 (f_X1_feel r4 r10 M9) (fun r15 M14 => (some (0, r15, M14))))))))
def f_X6_addStall (a1 : Int32) (a2 : Int32) (a3 : Int32) (a4 : Int32) (a5 : Int32) (M : xM) : Option (Nat × Int32 × xM) :=
  (tbd (0 : Int32) (f_X6_checkRange a1 0 99 M) (fun r4 M3 => (tbd (0 : Int32) (f_X6_checkRange a2 0 3 M3) (fun r10 M9 => (tbd (0 : Int32) (f_X6_checkRange a3 0 2 M9) (fun r16 M15 => (tbd (0 : Int32) (f_X6_checkRange a4 1 999 M15) (fun r22 M21 => (tbd (0 : Int32) (f_X6_checkRange a5 0 99 M21) (fun r28 M27 => (if (M27 9) < 6 then (bd (f_X6_remember  M27) (fun M33 => (bd2 (f_X2_placeStall 0 a1 a2 a3 a4 a5 M33) (fun r36 M35 => (some (0, r36, M35)))))) else (some (3, (0 : Int32), M27)))))))))))))
def f_X6_addBuyer (a1 : Int32) (a2 : Int32) (a3 : Int32) (a4 : Int32) (M : xM) : Option (Nat × Int32 × xM) :=
  (tbd (0 : Int32) (f_X6_checkRange a1 0 99 M) (fun r4 M3 => (tbd (0 : Int32) (f_X6_checkRange a2 0 9999 M3) (fun r10 M9 => (tbd (0 : Int32) (f_X6_checkRange a3 0 2 M9) (fun r16 M15 => (tbd (0 : Int32) (f_X6_checkRange a4 1 20 M15) (fun r22 M21 => (if (M21 10) < 6 then (bd (f_X6_remember  M21) (fun M27 => (bd2 (f_X2_placeBuyer 0 a1 a2 a3 a4 M27) (fun r30 M29 => (some (0, r30, M29)))))) else (some (3, (0 : Int32), M21)))))))))))
def f_X6_setPrice (a1 : Int32) (a2 : Int32) (M : xM) : Option (Nat × Int32 × xM) :=
  (tbd (0 : Int32) (f_X6_stallAt a1 M) (fun r4 M3 => (tbd (0 : Int32) (f_X6_checkRange a2 1 999 M3) (fun r10 M9 => (bd (f_X6_remember  M9) (fun M14 => (some (0, (M14 (r4 + 3)), (upd M14 (r4 + 3) a2)))))))))
def f_X6_addStock (a1 : Int32) (a2 : Int32) (M : xM) : Option (Nat × Int32 × xM) :=
  (tbd (0 : Int32) (f_X6_stallAt a1 M) (fun r4 M3 => (tbd (0 : Int32) (f_X6_checkRange a2 0 99 M3) (fun r10 M9 => (bd2 (f_X4_hasRoomFor r4 a2 M9) (fun r15 M14 => (if r15 = 0 then (some (3, (0 : Int32), M14)) else (bd (f_X6_remember  M14) (fun M18 => (bd (f_X4_receive r4 a2 M18) (fun M20 => (some (0, (M20 (r4 + 4)), M20)))))))))))))
def f_X6_setLantern (a1 : Int32) (a2 : Int32) (M : xM) : Option (Nat × Int32 × xM) :=
  (tbd (0 : Int32) (f_X6_stallAt a1 M) (fun r4 M3 => (tbd (0 : Int32) (f_X6_checkRange a2 0 3 M3) (fun r10 M9 => (bd (f_X6_remember  M9) (fun M14 => (some (0, (M14 (r4 + 1)), (upd M14 (r4 + 1) a2)))))))))
def f_X6_moveStall (a1 : Int32) (a2 : Int32) (M : xM) : Option (Nat × Int32 × xM) :=
  (tbd (0 : Int32) (f_X6_stallAt a1 M) (fun r4 M3 => (tbd (0 : Int32) (f_X6_checkRange a2 0 99 M3) (fun r10 M9 => (bd (f_X6_remember  M9) (fun M14 => (some (0, (M14 (r4 + 0)), (upd M14 (r4 + 0) a2)))))))))
def f_X6_setFog_c15  (a1 : Int32) (a2 : Int32)  (M : xM) : Option (Nat × Int32 × xM) :=
  (some (2, (0 : Int32), M))
def f_X6_setFog (a1 : Int32) (a2 : Int32) (M : xM) : Option (Nat × Int32 × xM) :=
  (if a1 < 0 then (f_X6_setFog_c15  a1 a2  M) else (if a1 < (M 8) then (tbd (0 : Int32) (f_X6_checkRange a2 0 9 M) (fun r6 M5 => (bd (f_X6_remember  M5) (fun M10 => (gd (inb a1 12) (gd (inb a1 12) (some (0, (M10 (11 + a1.toNatClampNeg)), (upd M10 (11 + a1.toNatClampNeg) a2))))))))) else (f_X6_setFog_c15  a1 a2  M)))
def f_X6_undo_c42   (s0 : Int32) (M : xM) : Option (Nat × Int32 × xM) :=
  (gd (inb ((upd (upd M 1669 s0) 1670 (((upd M 1669 s0) 1670) - 1)) 1669) 8) (bd (f_X2_copyFrom 0 (384 + 128 * ((upd (upd M 1669 s0) 1670 (((upd M 1669 s0) 1670) - 1)) 1669).toNatClampNeg) (upd (upd M 1669 s0) 1670 (((upd M 1669 s0) 1670) - 1))) (fun M6 => (some (0, (M6 1670), M6)))))
def f_X6_undo  (M : xM) : Option (Nat × Int32 × xM) :=
  (if (M 1670) = 0 then (some (3, (0 : Int32), M)) else (if (M 1669) ≤ 0 then (f_X6_undo_c42   (8 - 1) M) else (f_X6_undo_c42   ((M 1669) - 1) M)))
def f_X6_save (a1 : Int32) (M : xM) : Option (Nat × Int32 × xM) :=
  (tbd (0 : Int32) (f_X6_checkRange a1 0 1 M) (fun r4 M3 => (gd (inb a1 2) (bd (f_X2_copyFrom (1408 + 128 * a1.toNatClampNeg) 0 M3) (fun M10 => (gd (inb a1 2) (some (0, ((upd M10 (1675 + a1.toNatClampNeg) (vp_nar .boolean 1)) 0), (upd M10 (1675 + a1.toNatClampNeg) (vp_nar .boolean 1))))))))))
def f_X6_restore (a1 : Int32) (M : xM) : Option (Nat × Int32 × xM) :=
  (tbd (0 : Int32) (f_X6_checkRange a1 0 1 M) (fun r4 M3 => (gd (inb a1 2) (if (M3 (1675 + a1.toNatClampNeg)) = 0 then (some (4, (0 : Int32), M3)) else (gd (inb a1 2) (bd (f_X2_copyFrom 0 (1408 + 128 * a1.toNatClampNeg) M3) (fun M12 => (bd (f_X6_forgetChanges  M12) (fun M14 => (some (0, (M14 0), M14)))))))))))
def f_X7_isSmall (a0 : Int32) (M : xM) : Option (Int32 × xM) :=
  (bd2 (f_X7_inRange a0 97 122 M) (fun r3 M2 => (gd (isb r3) (some (r3, M2)))))
def fb_X7_doStall_c12 (k12 : Int32 → Int32 → xM → Option (Int32 × xM)) (a1 : Int32) (a2 : Int32) (a3 : Int32) (a4 : Int32) (a5 : Int32) (v6 : Int32) (v7 : Int32) (M : xM) : Option (Int32 × xM) :=
  (if 9 ≤ v7 then (bd (f_X7_more v6 0 a1 M) (fun M3 => (bd (f_X7_more v6 1 a2 M3) (fun M5 => (bd (f_X7_more v6 2 a3 M5) (fun M7 => (bd (f_X7_more v6 3 a4 M7) (fun M9 => (bd (f_X7_more v6 4 a5 M9) (fun M11 => (bd (f_X7_more v6 8 a5 M11) (fun M13 => (some (v6, (upd M13 2529 ((M13 2529) + 1)))))))))))))))) else (gd (inb ((23 + (9 * v6)) + v7) 125) (k12 v6 (v7 + 1) (upd M (2520 + ((23 + (9 * v6)) + v7).toNatClampNeg) 0))))
def f_X7_doStall_c12  (a1 : Int32) (a2 : Int32) (a3 : Int32) (a4 : Int32) (a5 : Int32) : Int32 → Int32 → xM → Option (Int32 × xM) :=
  lp (fun _ _ _ => none) (fun k => fb_X7_doStall_c12 k a1 a2 a3 a4 a5) FU
def f_X7_doStall (a1 : Int32) (a2 : Int32) (a3 : Int32) (a4 : Int32) (a5 : Int32) (M : xM) : Option (Int32 × xM) :=
  (f_X7_doStall_c12  a1 a2 a3 a4 a5 (M 2529) 0 M)
def fb_X7_doBuyer_c12 (k12 : Int32 → Int32 → xM → Option (Int32 × xM)) (a1 : Int32) (a2 : Int32) (a3 : Int32) (a4 : Int32) (v5 : Int32) (v6 : Int32) (M : xM) : Option (Int32 × xM) :=
  (if 8 ≤ v6 then (bd (f_X7_put v5 0 a1 M) (fun M3 => (bd (f_X7_put v5 1 a2 M3) (fun M5 => (bd (f_X7_put v5 2 a3 M5) (fun M7 => (bd (f_X7_put v5 3 a4 M7) (fun M9 => (bd (f_X7_put v5 4 (-1) M9) (fun M11 => (some (v5, (upd M11 2530 ((M11 2530) + 1)))))))))))))) else (bd (f_X7_put v5 v6 0 M) (fun M13 => (k12 v5 (v6 + 1) M13))))
def f_X7_doBuyer_c12  (a1 : Int32) (a2 : Int32) (a3 : Int32) (a4 : Int32) : Int32 → Int32 → xM → Option (Int32 × xM) :=
  lp (fun _ _ _ => none) (fun k => fb_X7_doBuyer_c12 k a1 a2 a3 a4) FU
def f_X7_doBuyer (a1 : Int32) (a2 : Int32) (a3 : Int32) (a4 : Int32) (M : xM) : Option (Int32 × xM) :=
  (f_X7_doBuyer_c12  a1 a2 a3 a4 (M 2530) 0 M)
def f_X7_endBell_c47 (k21 : Int32 → xM → Option xM)  (v1 : Int32) (M : xM) : Option xM :=
  (bd (f_X7_put v1 6 0 M) (fun M9 => (k21 (v1 + 1) M9)))
def fb_X7_endBell_c21 (k21 : Int32 → xM → Option xM)  (v1 : Int32) (M : xM) : Option xM :=
  (if (M 2530) ≤ v1 then (some M) else (bd2 (f_X7_by v1 4 M) (fun r4 M3 => (if r4 = (-1) then (f_X7_endBell_c47 k21  v1 M3) else (bd (f_X7_giveBack v1 M3) (fun M7 => (f_X7_endBell_c47 k21  v1 M7)))))))
def f_X7_endBell_c21   : Int32 → xM → Option xM :=
  lp (fun _ _ => none) (fun k => fb_X7_endBell_c21 k ) FU
def f_X7_endBell  (M : xM) : Option xM :=
  (f_X7_endBell_c21   0 (upd (upd (upd M 2512 1) 2521 0) 2523 0))
def f_X7_walk (a1 : Int32) (a2 : Int32) (M : xM) : Option xM :=
  (bd2 (f_X7_by a1 0 M) (fun r3 M2 => (bd2 (f_X7_by a1 3 M2) (fun r6 M5 => (bd2 (f_X7_apart r3 a2 M5) (fun r9 M8 => (if r3 ≤ a2 then (bd (f_X7_put a1 0 (r3 + (imin r6 r9)) M8) (fun M12 => (some M12))) else (bd (f_X7_put a1 0 (r3 - (imin r6 r9)) M8) (fun M14 => (some M14))))))))))
def f_X7_isSeen (a1 : Int32) (a2 : Int32) (a3 : Int32) (M : xM) : Option (Int32 × xM) :=
  (bd2 (f_X7_st a1 0 M) (fun r3 M2 => (bd2 (f_X7_apart r3 a2 M2) (fun r6 M5 => (bd2 (f_X7_st a1 1 M5) (fun r9 M8 => (bd2 (f_X7_reachOf r9 a3 M8) (fun r12 M11 => (if r12 < r6 then (some (0, M11)) else (some (1, M11)))))))))))
def f_X7_takes (a1 : Int32) (a2 : Int32) (M : xM) : Option xM :=
  (bd2 (f_X7_feel a1 a2 M) (fun r3 M2 => (if r3 = 0 then (bd (f_X7_more a2 4 (-1) M2) (fun M6 => (bd (f_X7_put a1 4 a2 M6) (fun M8 => (bd2 (f_X7_st a2 3 M8) (fun r11 M10 => (bd (f_X7_put a1 5 r11 M10) (fun M13 => (some M13))))))))) else (bd2 (f_X7_by a1 6 M2) (fun r16 M15 => (bd (f_X7_put a1 6 (r16 ||| (1 <<< (a2 &&& 31))) M15) (fun M18 => (some M18))))))))
def f_X7_feed_c40 (k11 : Int32 → Int32 → xM → Option (Int32 × xM)) (a1 : Int32) (a2 : Int32) (a3 : Int32) (a4 : Int32) (a5 : Int32) (v7 : Int32) (s0 : Int32) (s1 : Int32) (M : xM) : Option (Int32 × xM) :=
  (bd2 (f_X7_flag s0 M) (fun r15 M14 => (k11 (s1 + r15) (v7 + 1) M14)))
def f_X7_feed_c117 (k70 : Int32 → xM → Option (Int32 × xM)) (a1 : Int32) (a2 : Int32) (a3 : Int32) (a4 : Int32) (a5 : Int32) (v7 : Int32) (M : xM) : Option (Int32 × xM) :=
  (k70 (v7 + 1) M)
def fb_X7_feed_c70 (k70 : Int32 → xM → Option (Int32 × xM)) (a1 : Int32) (a2 : Int32) (a3 : Int32) (a4 : Int32) (a5 : Int32) (v7 : Int32) (M : xM) : Option (Int32 × xM) :=
  (if 20 ≤ v7 then (some ((M 2501), M)) else (bd2 (f_X7_byteOf a1 a2 a3 a4 a5 v7 M) (fun r10 M9 => (if r10 = 0 then (f_X7_feed_c117 k70 a1 a2 a3 a4 a5 v7 M9) else (gd (inb (M9 2501) 700) (f_X7_feed_c117 k70 a1 a2 a3 a4 a5 v7 (upd (upd M9 (4252 + (M9 2501).toNatClampNeg) r10) 2501 (((upd M9 (4252 + (M9 2501).toNatClampNeg) r10) 2501) + 1))))))))
def f_X7_feed_c70  (a1 : Int32) (a2 : Int32) (a3 : Int32) (a4 : Int32) (a5 : Int32) : Int32 → xM → Option (Int32 × xM) :=
  lp (fun _ _ => none) (fun k => fb_X7_feed_c70 k a1 a2 a3 a4 a5) FU
def fb_X7_feed_c11 (k11 : Int32 → Int32 → xM → Option (Int32 × xM)) (a1 : Int32) (a2 : Int32) (a3 : Int32) (a4 : Int32) (a5 : Int32) (v6 : Int32) (v7 : Int32) (M : xM) : Option (Int32 × xM) :=
  (if 20 ≤ v7 then (if ((M 2501) + v6) ≤ 700 then (f_X7_feed_c70  a1 a2 a3 a4 a5 0 M) else (some ((-1), M))) else (bd2 (f_X7_byteOf a1 a2 a3 a4 a5 v7 M) (fun r5 M4 => (if r5 = 0 then (f_X7_feed_c40 k11 a1 a2 a3 a4 a5 v7 0 v6 M4) else (f_X7_feed_c40 k11 a1 a2 a3 a4 a5 v7 1 v6 M4)))))
def f_X7_feed_c11  (a1 : Int32) (a2 : Int32) (a3 : Int32) (a4 : Int32) (a5 : Int32) : Int32 → Int32 → xM → Option (Int32 × xM) :=
  lp (fun _ _ _ => none) (fun k => fb_X7_feed_c11 k a1 a2 a3 a4 a5) FU
def f_X7_feed (a1 : Int32) (a2 : Int32) (a3 : Int32) (a4 : Int32) (a5 : Int32) (M : xM) : Option (Int32 × xM) :=
  (f_X7_feed_c11  a1 a2 a3 a4 a5 0 0 (upd M 2504 0))
def f_X7_errorCode  (M : xM) : Option (Int32 × xM) :=
  (bd2 (f_X7_plain (M 2502) M) (fun r3 M2 => (some (r3, M2))))
def f_X7_fogIn (a1 : Int32) (M : xM) : Option (Int32 × xM) :=
  (bd2 (f_X7_inRange a1 0 99999 (upd M 2504 0)) (fun r3 M2 => (bd2 (f_X7_fails r3 1 M2) (fun r6 M5 => (if r6 = 0 then (bd2 (f_X7_fogAt a1 M5) (fun r10 M9 => (some (r10, M9)))) else (some (0, M5)))))))
def f_X7_asked (a1 : Int32) (a2 : Int32) (M : xM) : Option (Int32 × xM) :=
  (bd2 (f_X7_isStall a1 M) (fun r3 M2 => (if r3 = 0 then (some (0, M2)) else (bd2 (f_X7_st a1 a2 M2) (fun r7 M6 => (some (r7, M6)))))))
def f_X7_lanternOf (a1 : Int32) (M : xM) : Option (Int32 × xM) :=
  (bd2 (f_X7_asked a1 1 M) (fun r3 M2 => (some (r3, M2))))
def f_X7_textureOf (a1 : Int32) (M : xM) : Option (Int32 × xM) :=
  (bd2 (f_X7_asked a1 2 M) (fun r3 M2 => (some (r3, M2))))
def f_X7_priceOf (a1 : Int32) (M : xM) : Option (Int32 × xM) :=
  (bd2 (f_X7_asked a1 3 M) (fun r3 M2 => (some (r3, M2))))
def f_X7_stockOf (a1 : Int32) (M : xM) : Option (Int32 × xM) :=
  (bd2 (f_X7_asked a1 4 M) (fun r3 M2 => (some (r3, M2))))
def f_X7_heldOf (a1 : Int32) (M : xM) : Option (Int32 × xM) :=
  (bd2 (f_X7_isStall a1 M) (fun r3 M2 => (if r3 = 0 then (some (0, M2)) else (bd2 (f_X7_held a1 M2) (fun r7 M6 => (some (r7, M6)))))))
def f_X7_soldOf (a1 : Int32) (M : xM) : Option (Int32 × xM) :=
  (bd2 (f_X7_asked a1 5 M) (fun r3 M2 => (some (r3, M2))))
def f_X7_lostOf (a1 : Int32) (M : xM) : Option (Int32 × xM) :=
  (bd2 (f_X7_asked a1 6 M) (fun r3 M2 => (some (r3, M2))))
def f_X7_earnings (a1 : Int32) (M : xM) : Option (Int32 × xM) :=
  (bd2 (f_X7_asked a1 7 M) (fun r3 M2 => (some (r3, M2))))
def f_X7_seenFrom_c64 (k26 : Int32 → Int32 → xM → Option (Int32 × xM)) (a1 : Int32) (v3 : Int32) (s0 : Int32) (s1 : Int32) (M : xM) : Option (Int32 × xM) :=
  (k26 (s1 ||| s0) (v3 + 1) M)
def fb_X7_seenFrom_c26 (k26 : Int32 → Int32 → xM → Option (Int32 × xM)) (a1 : Int32) (v2 : Int32) (v3 : Int32) (M : xM) : Option (Int32 × xM) :=
  (if (M 2529) ≤ v3 then (some (v2, M)) else (bd2 (f_X7_fogAt (M 2520) M) (fun r11 M10 => (bd2 (f_X7_isSeen v3 a1 r11 M10) (fun r14 M13 => (if r14 = 0 then (f_X7_seenFrom_c64 k26 a1 v3 0 v2 M13) else (f_X7_seenFrom_c64 k26 a1 v3 (1 <<< (v3 &&& 31)) v2 M13)))))))
def f_X7_seenFrom_c26  (a1 : Int32) : Int32 → Int32 → xM → Option (Int32 × xM) :=
  lp (fun _ _ _ => none) (fun k => fb_X7_seenFrom_c26 k a1) FU
def f_X7_seenFrom (a1 : Int32) (M : xM) : Option (Int32 × xM) :=
  (bd2 (f_X7_inRange a1 0 99 (upd M 2504 0)) (fun r3 M2 => (bd2 (f_X7_fails r3 1 M2) (fun r6 M5 => (if r6 = 0 then (f_X7_seenFrom_c26  a1 0 0 M5) else (some (0, M5)))))))
def f_X7_askedOf (a1 : Int32) (a2 : Int32) (M : xM) : Option (Int32 × xM) :=
  (bd2 (f_X7_isBuyer a1 M) (fun r3 M2 => (if r3 = 0 then (some (0, M2)) else (bd2 (f_X7_by a1 a2 M2) (fun r7 M6 => (some (r7, M6)))))))
def f_X7_coinsOf (a1 : Int32) (M : xM) : Option (Int32 × xM) :=
  (bd2 (f_X7_askedOf a1 1 M) (fun r3 M2 => (some (r3, M2))))
def f_X7_wantedTexture (a1 : Int32) (M : xM) : Option (Int32 × xM) :=
  (bd2 (f_X7_askedOf a1 2 M) (fun r3 M2 => (some (r3, M2))))
def f_X7_speedOf (a1 : Int32) (M : xM) : Option (Int32 × xM) :=
  (bd2 (f_X7_askedOf a1 3 M) (fun r3 M2 => (some (r3, M2))))
def f_X7_heldFrom (a1 : Int32) (M : xM) : Option (Int32 × xM) :=
  (bd2 (f_X7_askedOf a1 4 M) (fun r3 M2 => (some (r3, M2))))
def f_X7_debtOf (a1 : Int32) (M : xM) : Option (Int32 × xM) :=
  (bd2 (f_X7_askedOf a1 5 M) (fun r3 M2 => (some (r3, M2))))
def f_X7_avoidedBy (a1 : Int32) (M : xM) : Option (Int32 × xM) :=
  (bd2 (f_X7_askedOf a1 6 M) (fun r3 M2 => (some (r3, M2))))
def f_X7_boughtBy (a1 : Int32) (M : xM) : Option (Int32 × xM) :=
  (bd2 (f_X7_askedOf a1 7 M) (fun r3 M2 => (some (r3, M2))))
def fb_X7_coinsInAll_c14 (k14 : Int32 → Int32 → xM → Option (Int32 × xM))  (v1 : Int32) (v2 : Int32) (M : xM) : Option (Int32 × xM) :=
  (if (M 2530) ≤ v2 then (some (v1, M)) else (bd2 (f_X7_by v2 1 M) (fun r7 M6 => (k14 (v1 + r7) (v2 + 1) M6))))
def f_X7_coinsInAll_c14   : Int32 → Int32 → xM → Option (Int32 × xM) :=
  lp (fun _ _ _ => none) (fun k => fb_X7_coinsInAll_c14 k ) FU
def f_X7_coinsInAll  (M : xM) : Option (Int32 × xM) :=
  (bd2 (f_X7_sumOf 7 (upd M 2504 0)) (fun r3 M2 => (f_X7_coinsInAll_c14   r3 0 M2)))
def f_X7_addStall_c99  (a1 : Int32) (a2 : Int32) (a3 : Int32) (a4 : Int32) (a5 : Int32) (s0 : Int32) (M : xM) : Option (Int32 × xM) :=
  (bd2 (f_X7_fails s0 2 M) (fun r29 M28 => (if r29 = 0 then (bd (f_X7_record  M28) (fun M32 => (bd2 (f_X7_doStall a1 a2 a3 a4 a5 M32) (fun r35 M34 => (some (r35, M34)))))) else (some (0, M28)))))
def f_X7_addStall_c74  (a1 : Int32) (a2 : Int32) (a3 : Int32) (a4 : Int32) (a5 : Int32) (s0 : Int32) (M : xM) : Option (Int32 × xM) :=
  (bd2 (f_X7_fails s0 1 M) (fun r24 M23 => (if r24 = 0 then (if 6 ≤ (M23 2529) then (f_X7_addStall_c99  a1 a2 a3 a4 a5 0 M23) else (f_X7_addStall_c99  a1 a2 a3 a4 a5 1 M23)) else (some (0, M23)))))
def f_X7_addStall_c73  (a1 : Int32) (a2 : Int32) (a3 : Int32) (a4 : Int32) (a5 : Int32)  (M : xM) : Option (Int32 × xM) :=
  (f_X7_addStall_c74  a1 a2 a3 a4 a5 0 M)
def f_X7_addStall_c38  (a1 : Int32) (a2 : Int32) (a3 : Int32) (a4 : Int32) (a5 : Int32) (s0 : Int32) (M : xM) : Option (Int32 × xM) :=
  (if s0 = 0 then (f_X7_addStall_c73  a1 a2 a3 a4 a5  M) else (bd2 (f_X7_inRange a4 1 999 M) (fun r16 M15 => (if r16 = 0 then (f_X7_addStall_c73  a1 a2 a3 a4 a5  M15) else (bd2 (f_X7_inRange a5 0 99 M15) (fun r20 M19 => (if r20 = 0 then (f_X7_addStall_c73  a1 a2 a3 a4 a5  M19) else (f_X7_addStall_c74  a1 a2 a3 a4 a5 1 M19))))))))
def f_X7_addStall_c37  (a1 : Int32) (a2 : Int32) (a3 : Int32) (a4 : Int32) (a5 : Int32)  (M : xM) : Option (Int32 × xM) :=
  (f_X7_addStall_c38  a1 a2 a3 a4 a5 0 M)
def f_X7_addStall (a1 : Int32) (a2 : Int32) (a3 : Int32) (a4 : Int32) (a5 : Int32) (M : xM) : Option (Int32 × xM) :=
  (bd2 (f_X7_inRange a1 0 99 (upd M 2504 0)) (fun r3 M2 => (if r3 = 0 then (f_X7_addStall_c37  a1 a2 a3 a4 a5  M2) else (bd2 (f_X7_inRange a2 0 3 M2) (fun r7 M6 => (if r7 = 0 then (f_X7_addStall_c37  a1 a2 a3 a4 a5  M6) else (bd2 (f_X7_inRange a3 0 2 M6) (fun r11 M10 => (if r11 = 0 then (f_X7_addStall_c37  a1 a2 a3 a4 a5  M10) else (f_X7_addStall_c38  a1 a2 a3 a4 a5 1 M10))))))))))
def f_X7_addBuyer_c81  (a1 : Int32) (a2 : Int32) (a3 : Int32) (a4 : Int32) (s0 : Int32) (M : xM) : Option (Int32 × xM) :=
  (bd2 (f_X7_fails s0 2 M) (fun r24 M23 => (if r24 = 0 then (bd (f_X7_record  M23) (fun M27 => (bd2 (f_X7_doBuyer a1 a2 a3 a4 M27) (fun r30 M29 => (some (r30, M29)))))) else (some (0, M23)))))
def f_X7_addBuyer_c51  (a1 : Int32) (a2 : Int32) (a3 : Int32) (a4 : Int32) (s0 : Int32) (M : xM) : Option (Int32 × xM) :=
  (bd2 (f_X7_fails s0 1 M) (fun r19 M18 => (if r19 = 0 then (if 6 ≤ (M18 2530) then (f_X7_addBuyer_c81  a1 a2 a3 a4 0 M18) else (f_X7_addBuyer_c81  a1 a2 a3 a4 1 M18)) else (some (0, M18)))))
def f_X7_addBuyer_c50  (a1 : Int32) (a2 : Int32) (a3 : Int32) (a4 : Int32)  (M : xM) : Option (Int32 × xM) :=
  (f_X7_addBuyer_c51  a1 a2 a3 a4 0 M)
def f_X7_addBuyer (a1 : Int32) (a2 : Int32) (a3 : Int32) (a4 : Int32) (M : xM) : Option (Int32 × xM) :=
  (bd2 (f_X7_inRange a1 0 99 (upd M 2504 0)) (fun r3 M2 => (if r3 = 0 then (f_X7_addBuyer_c50  a1 a2 a3 a4  M2) else (bd2 (f_X7_inRange a2 0 9999 M2) (fun r7 M6 => (if r7 = 0 then (f_X7_addBuyer_c50  a1 a2 a3 a4  M6) else (bd2 (f_X7_inRange a3 0 2 M6) (fun r11 M10 => (if r11 = 0 then (f_X7_addBuyer_c50  a1 a2 a3 a4  M10) else (bd2 (f_X7_inRange a4 1 20 M10) (fun r15 M14 => (if r15 = 0 then (f_X7_addBuyer_c50  a1 a2 a3 a4  M14) else (f_X7_addBuyer_c51  a1 a2 a3 a4 1 M14)))))))))))))
def fb_X7_writeRope_c13 (k13 : Int32 → xM → Option (Int32 × xM))  (v1 : Int32) (M : xM) : Option (Int32 × xM) :=
  (if 100 ≤ v1 then (some ((M 2519), M)) else (bd2 (f_X7_signAt v1 M) (fun r4 M3 => (gd (inb v1 100) (k13 (v1 + 1) (upd M3 (4152 + v1.toNatClampNeg) r4))))))
def f_X7_writeRope_c13   : Int32 → xM → Option (Int32 × xM) :=
  lp (fun _ _ => none) (fun k => fb_X7_writeRope_c13 k ) FU
def f_X7_writeRope  (M : xM) : Option (Int32 × xM) :=
  (f_X7_writeRope_c13   0 (upd (upd M 2504 0) 2519 100))
def f_J1_charAt_3b067 (a0 : Nat) (a1 : Int32) (M : xM) : Option (Int32 × xM) :=
  (bd (f_J0_checkIndex_df160 a1 (nI (x_slen a0)) M) (fun M2 => (gd (inb a1 (x_slen a0)) (gd (isn .char ((((x_sb a0 a1.toNatClampNeg) &&& 255).toUInt32 % 65536).toInt32)) (some ((((x_sb a0 a1.toNatClampNeg) &&& 255).toUInt32 % 65536).toInt32, M2))))))
def f_X2_returnAndAvoid (a0 : Nat) (a1 : Nat) (M : xM) : Option xM :=
  (bd (f_X2_returnGood a0 a1 M) (fun M2 => (bd (f_X1_avoid a1 (M (a1 + 4)) M2) (fun M4 => (some M4)))))
def f_X2_letAct (a0 : Nat) (a1 : Nat) (a2 : Int32) (M : xM) : Option xM :=
  (bd2 (f_X2_isStall a0 (M (a1 + 4)) M) (fun r3 M2 => (if r3 = 0 then (bd2 (f_X2_findTarget a0 a1 a2 M2) (fun r7 M6 => (bd2 (f_X2_isStall a0 r7 M6) (fun r10 M9 => (if r10 = 0 then (some M9) else (gd (inb r7 6) (bd (f_X1_walkTo a1 (M9 (((a0 + 23) + 9 * r7.toNatClampNeg) + 0)) M9) (fun M15 => (if (M15 (a1 + 0)) = (M15 (((a0 + 23) + 9 * r7.toNatClampNeg) + 0)) then (bd2 (f_X1_feel a1 ((a0 + 23) + 9 * r7.toNatClampNeg) M15) (fun r19 M18 => (if r19 = 0 then (bd (f_X1_take a1 ((a0 + 23) + 9 * r7.toNatClampNeg) r7 M18) (fun M24 => (some M24))) else (bd (f_X1_avoid a1 r7 M18) (fun M22 => (some M22)))))) else (some M15)))))))))) else (bd (f_X1_walkTo a1 (M2 (a0 + 7)) M2) (fun M26 => (if (M26 (a1 + 0)) = (M26 (a0 + 7)) then (gd (inb (M26 (a1 + 4)) 6) (bd (f_X1_payTo a1 ((a0 + 23) + 9 * (M26 (a1 + 4)).toNatClampNeg) M26) (fun M31 => (some M31)))) else (some M26)))))))
def f_X6_positionOf (a1 : Int32) (M : xM) : Option (Nat × Int32 × xM) :=
  (tbd (0 : Int32) (f_X6_stallAt a1 M) (fun r4 M3 => (some (0, (M3 (r4 + 0)), M3))))
def f_X6_placeOf (a1 : Int32) (M : xM) : Option (Nat × Int32 × xM) :=
  (tbd (0 : Int32) (f_X6_buyerAt a1 M) (fun r4 M3 => (some (0, (M3 (r4 + 0)), M3))))
def f_X6_putBack (a1 : Int32) (M : xM) : Option (Nat × Int32 × xM) :=
  (tbd (0 : Int32) (f_X6_buyerAt a1 M) (fun r4 M3 => (bd2 (f_X1_holds r4 M3) (fun r9 M8 => (if r9 = 0 then (some (3, (0 : Int32), M8)) else (bd (f_X6_remember  M8) (fun M12 => (bd (f_X2_returnAndAvoid 0 r4 M12) (fun M14 => (some (0, (M12 (r4 + 4)), M14)))))))))))
def f_X7_next_c39 (k0 : xM → Option xM)   (M : xM) : Option xM :=
  (k0  (upd M 2515 ((M 2515) + 1)))
def fb_X7_next_c109 (k109 : xM → Option xM)   (M : xM) : Option xM :=
  (if (M 2501) ≤ (M 2515) then (some M) else (gd (inb (M 2515) 700) (bd2 (f_X7_isSmall (M (4252 + (M 2515).toNatClampNeg)) M) (fun r29 M28 => (if r29 = 0 then (some M28) else (k109  (upd M28 2515 ((M28 2515) + 1))))))))
def f_X7_next_c109   : xM → Option xM :=
  lp (fun  _ => none) (fun k => fb_X7_next_c109 k ) FU
def f_X7_next_c230 (k168 : xM → Option xM)  (s0 : Int32) (M : xM) : Option xM :=
  (k168  (upd (upd M 2518 s0) 2515 (((upd M 2518 s0) 2515) + 1)))
def fb_X7_next_c168 (k168 : xM → Option xM)   (M : xM) : Option xM :=
  (if (M 2501) ≤ (M 2515) then (some M) else (gd (inb (M 2515) 700) (bd2 (f_X7_isDigit (M (4252 + (M 2515).toNatClampNeg)) M) (fun r21 M20 => (if r21 = 0 then (some M20) else (if (M20 2518) ≤ 9999 then (gd (inb (M20 2515) 700) (f_X7_next_c230 k168  (((10 * (M20 2518)) + (M20 (4252 + (M20 2515).toNatClampNeg))) - 48) M20)) else (f_X7_next_c230 k168  99999 M20)))))))
def f_X7_next_c168   : xM → Option xM :=
  lp (fun  _ => none) (fun k => fb_X7_next_c168 k ) FU
def f_X7_next_c52    (M : xM) : Option xM :=
  (if ((upd M 2517 (M 2515)) 2515) = ((upd M 2517 (M 2515)) 2501) then (some (upd (upd M 2517 (M 2515)) 2516 4)) else (gd (inb ((upd M 2517 (M 2515)) 2515) 700) (bd2 (f_X7_isSmall ((upd M 2517 (M 2515)) (4252 + ((upd M 2517 (M 2515)) 2515).toNatClampNeg)) (upd (upd M 2517 (M 2515)) 2515 (((upd M 2517 (M 2515)) 2515) + 1))) (fun r10 M9 => (if r10 = 0 then (bd2 (f_X7_isDigit ((upd M 2517 (M 2515)) (4252 + ((upd M 2517 (M 2515)) 2515).toNatClampNeg)) M9) (fun r14 M13 => (if r14 = 0 then (if ((upd M 2517 (M 2515)) (4252 + ((upd M 2517 (M 2515)) 2515).toNatClampNeg)) = 59 then (some (upd M13 2516 2)) else (some (upd M13 2516 3))) else (f_X7_next_c168    (upd (upd M13 2516 1) 2518 (((upd M 2517 (M 2515)) (4252 + ((upd M 2517 (M 2515)) 2515).toNatClampNeg)) - 48)))))) else (f_X7_next_c109    (upd M9 2516 0)))))))
def fb_X7_next_c0 (k0 : xM → Option xM)   (M : xM) : Option xM :=
  (if (M 2501) ≤ (M 2515) then (f_X7_next_c52    M) else (gd (inb (M 2515) 700) (if (M (4252 + (M 2515).toNatClampNeg)) = 32 then (f_X7_next_c39 k0   M) else (gd (inb (M 2515) 700) (if (M (4252 + (M 2515).toNatClampNeg)) = 10 then (f_X7_next_c39 k0   M) else (f_X7_next_c52    M))))))
def f_X7_next_c0   : xM → Option xM :=
  lp (fun  _ => none) (fun k => fb_X7_next_c0 k ) FU
def f_X7_next  (M : xM) : Option xM :=
  (f_X7_next_c0    M)
def f_X7_into (a1 : Int32) (a2 : Int32) (a3 : Int32) (M : xM) : Option (Int32 × xM) :=
  (bd2 (f_X7_numberIn a2 a3 M) (fun r3 M2 => (if r3 = 0 then (some (0, M2)) else (gd (inb a1 5) (bd (f_X7_next  (upd M2 (4147 + a1.toNatClampNeg) (M2 2518))) (fun M7 => (some (1, M7))))))))
def f_X7_semicolon  (M : xM) : Option (Int32 × xM) :=
  (bd2 (f_X7_isEnd  M) (fun r3 M2 => (if r3 = 0 then (some (0, M2)) else (bd (f_X7_next  M2) (fun M6 => (some (1, M6)))))))
def f_X7_wordRead (a1 : Int32) (M : xM) : Option (Int32 × xM) :=
  (if a1 = (-1) then (bd2 (f_X7_wrong 1 M) (fun r6 M5 => (gd (isb r6) (some (r6, M5))))) else (bd (f_X7_next  M) (fun M3 => (some (1, M3)))))
def f_X7_holderInto  (M : xM) : Option (Int32 × xM) :=
  (bd2 (f_X7_numberIn 0 ((M 2530) - 1) M) (fun r3 M2 => (if r3 = 0 then (some (0, M2)) else (bd2 (f_X7_by (M2 2518) 4 M2) (fun r7 M6 => (if r7 = (-1) then (bd2 (f_X7_wrong 3 M6) (fun r13 M12 => (gd (isb r13) (some (r13, M12))))) else (bd (f_X7_next  (upd M6 4147 (M6 2518))) (fun M10 => (some (1, M10))))))))))
def f_X7_stockInto  (M : xM) : Option (Int32 × xM) :=
  (bd2 (f_X7_numberIn 0 99 M) (fun r3 M2 => (if r3 = 0 then (some (0, M2)) else (bd2 (f_X7_st (M2 4147) 4 M2) (fun r7 M6 => (if (r7 + (M6 2518)) ≤ 99 then (bd (f_X7_next  (upd M6 4148 (M6 2518))) (fun M10 => (some (1, M10)))) else (bd2 (f_X7_wrong 3 M6) (fun r13 M12 => (gd (isb r13) (some (r13, M12)))))))))))
def f_X7_stepBell_c22  (a1 : Int32)  (M : xM) : Option xM :=
  (if (M 2521) = 1 then (if a1 < (M 2525) then (bd (f_X7_endBell  M) (fun M7 => (some M7))) else (if (M 2523) = (M 2526) then (bd (f_X7_endBell  M) (fun M10 => (some M10))) else (some M))) else (if (M 2522) = 1 then (if a1 < (M 2525) then (some M) else (some (upd (upd (upd (upd M 2521 1) 2523 0) 2522 0) 2524 (((upd (upd (upd M 2521 1) 2523 0) 2522 0) 2524) + 1)))) else (some M)))
def f_X7_stepBell (a1 : Int32) (M : xM) : Option xM :=
  (if ((upd M 2512 0) 2525) ≤ a1 then (f_X7_stepBell_c22  a1  (upd M 2512 0)) else (f_X7_stepBell_c22  a1  (upd (upd M 2512 0) 2522 1)))
def f_X7_target_c113 (k13 : Int32 → Int32 → Int32 → xM → Option (Int32 × xM)) (a1 : Int32) (a2 : Int32) (v3 : Int32) (v5 : Int32) (s0 : Int32) (M : xM) : Option (Int32 × xM) :=
  (k13 v3 s0 (v5 + 1) M)
def f_X7_target_c111 (k13 : Int32 → Int32 → Int32 → xM → Option (Int32 × xM)) (a1 : Int32) (a2 : Int32) (v3 : Int32) (v4 : Int32) (v5 : Int32) (M : xM) : Option (Int32 × xM) :=
  (f_X7_target_c113 k13 a1 a2 v3 v5 v4 M)
def f_X7_target_c94 (k13 : Int32 → Int32 → Int32 → xM → Option (Int32 × xM)) (a1 : Int32) (a2 : Int32) (v3 : Int32) (v4 : Int32) (v5 : Int32) (v6 : Int32) (s0 : Int32) (M : xM) : Option (Int32 × xM) :=
  (if v6 = 0 then (f_X7_target_c111 k13 a1 a2 v3 v4 v5 M) else (if s0 = 0 then (f_X7_target_c111 k13 a1 a2 v3 v4 v5 M) else (f_X7_target_c113 k13 a1 a2 v3 v5 v5 M)))
def f_X7_target_c89 (k13 : Int32 → Int32 → Int32 → xM → Option (Int32 × xM)) (a1 : Int32) (a2 : Int32) (v3 : Int32) (v4 : Int32) (v5 : Int32) (v6 : Int32) (M : xM) : Option (Int32 × xM) :=
  (f_X7_target_c94 k13 a1 a2 v3 v4 v5 v6 1 M)
def f_X7_target_c56 (k13 : Int32 → Int32 → Int32 → xM → Option (Int32 × xM)) (a1 : Int32) (a2 : Int32) (v3 : Int32) (v4 : Int32) (v5 : Int32) (s0 : Int32) (M : xM) : Option (Int32 × xM) :=
  (if v4 = (-1) then (f_X7_target_c89 k13 a1 a2 v3 v4 v5 s0 M) else (bd2 (f_X7_st v5 0 M) (fun r19 M18 => (bd2 (f_X7_apart r19 v3 M18) (fun r22 M21 => (bd2 (f_X7_st v4 0 M21) (fun r25 M24 => (bd2 (f_X7_apart r25 v3 M24) (fun r28 M27 => (if r28 ≤ r22 then (f_X7_target_c94 k13 a1 a2 v3 v4 v5 s0 0 M27) else (f_X7_target_c89 k13 a1 a2 v3 v4 v5 s0 M27)))))))))))
def f_X7_target_c55 (k13 : Int32 → Int32 → Int32 → xM → Option (Int32 × xM)) (a1 : Int32) (a2 : Int32) (v3 : Int32) (v4 : Int32) (v5 : Int32) (M : xM) : Option (Int32 × xM) :=
  (f_X7_target_c56 k13 a1 a2 v3 v4 v5 0 M)
def fb_X7_target_c13 (k13 : Int32 → Int32 → Int32 → xM → Option (Int32 × xM)) (a1 : Int32) (a2 : Int32) (v3 : Int32) (v4 : Int32) (v5 : Int32) (M : xM) : Option (Int32 × xM) :=
  (if (M 2529) ≤ v5 then (some (v4, M)) else (bd2 (f_X7_by a1 6 M) (fun r7 M6 => (bd2 (f_X7_has r7 v5 M6) (fun r10 M9 => (if r10 = 0 then (bd2 (f_X7_isSeen v5 v3 a2 M9) (fun r14 M13 => (if r14 = 0 then (f_X7_target_c55 k13 a1 a2 v3 v4 v5 M13) else (f_X7_target_c56 k13 a1 a2 v3 v4 v5 1 M13)))) else (f_X7_target_c55 k13 a1 a2 v3 v4 v5 M9)))))))
def f_X7_target_c13  (a1 : Int32) (a2 : Int32) : Int32 → Int32 → Int32 → xM → Option (Int32 × xM) :=
  lp (fun _ _ _ _ => none) (fun k => fb_X7_target_c13 k a1 a2) FU
def f_X7_target (a1 : Int32) (a2 : Int32) (M : xM) : Option (Int32 × xM) :=
  (bd2 (f_X7_by a1 0 M) (fun r3 M2 => (f_X7_target_c13  a1 a2 r3 (-1) 0 M2)))
def f_X7_positionOf (a1 : Int32) (M : xM) : Option (Int32 × xM) :=
  (bd2 (f_X7_asked a1 0 M) (fun r3 M2 => (some (r3, M2))))
def f_X7_placeOf (a1 : Int32) (M : xM) : Option (Int32 × xM) :=
  (bd2 (f_X7_askedOf a1 0 M) (fun r3 M2 => (some (r3, M2))))
def f_X7_targetOf (a1 : Int32) (M : xM) : Option (Int32 × xM) :=
  (bd2 (f_X7_isBuyer a1 M) (fun r3 M2 => (if r3 = 0 then (some (0, M2)) else (bd2 (f_X7_by a1 4 M2) (fun r7 M6 => (if r7 = (-1) then (bd2 (f_X7_fogAt (M6 2520) M6) (fun r11 M10 => (bd2 (f_X7_target a1 r11 M10) (fun r14 M13 => (some (r14, M13)))))) else (some ((-1), M6))))))))
def f_J0_charAt_5068e (a0 : Nat) (a1 : Int32) (M : xM) : Option (Int32 × xM) :=
  (bd2 (f_J0_isLatin1_aae02 a0 M) (fun r3 M2 => (if r3 = 0 then none else (bd2 (f_J1_charAt_3b067 a0 a1 M2) (fun r7 M6 => (gd (isn .char r7) (some (r7, M6))))))))
def fb_X3_isWord_c28 (k28 : Int32 → xM → Option (Int32 × xM)) (a1 : Nat) (v2 : Int32) (M : xM) : Option (Int32 × xM) :=
  (bd2 (f_J0_length_8abf5 a1 M) (fun r8 M7 => (if r8 ≤ v2 then (some (1, M7)) else (bd2 (f_X3_byteAt ((M7 1785) + v2) M7) (fun r12 M11 => (bd2 (f_J0_charAt_5068e a1 v2 M11) (fun r15 M14 => (if r12 = r15 then (k28 (v2 + 1) M14) else (some (0, M14))))))))))
def f_X3_isWord_c28  (a1 : Nat) : Int32 → xM → Option (Int32 × xM) :=
  lp (fun _ _ => none) (fun k => fb_X3_isWord_c28 k a1) FU
def f_X3_isWord (a1 : Nat) (M : xM) : Option (Int32 × xM) :=
  (if (M 1784) = 1 then (bd2 (f_J0_length_8abf5 a1 M) (fun r4 M3 => (if ((M 1783) - (M 1785)) = r4 then (f_X3_isWord_c28  a1 0 M3) else (some (0, M3))))) else (some (0, M)))
def fb_X3_verbRead_c2 (k2 : Int32 → xM → Option (Int32 × xM))  (v1 : Int32) (M : xM) : Option (Int32 × xM) :=
  (if 9 ≤ v1 then (some (0, M)) else (gd (inb v1 9) (gd (inb ((v1 + 1) - 1) 9) (bd2 (f_X3_isWord (x_vw ((v1 + 1) - 1).toNatClampNeg) M) (fun r6 M5 => (if r6 = 0 then (k2 (v1 + 1) M5) else (gd (inb v1 9) (some ((v1 + 1), M5)))))))))
def f_X3_verbRead_c2   : Int32 → xM → Option (Int32 × xM) :=
  lp (fun _ _ => none) (fun k => fb_X3_verbRead_c2 k ) FU
def f_X3_verbRead  (M : xM) : Option (Int32 × xM) :=
  (f_X3_verbRead_c2   0 M)
def f_X3_lanternRead  (M : xM) : Option (Int32 × xM) :=
  (bd2 (f_X3_isWord 3 M) (fun r3 M2 => (if r3 = 0 then (bd2 (f_X3_isWord 4 M2) (fun r7 M6 => (if r7 = 0 then (bd2 (f_X3_isWord 5 M6) (fun r11 M10 => (if r11 = 0 then (bd2 (f_X3_isWord 6 M10) (fun r15 M14 => (if r15 = 0 then (some ((-1), M14)) else (some (3, M14))))) else (some (2, M10))))) else (some (1, M6))))) else (some (0, M2)))))
def f_X3_textureRead  (M : xM) : Option (Int32 × xM) :=
  (bd2 (f_X3_isWord 7 M) (fun r3 M2 => (if r3 = 0 then (bd2 (f_X3_isWord 8 M2) (fun r7 M6 => (if r7 = 0 then (bd2 (f_X3_isWord 9 M6) (fun r11 M10 => (if r11 = 0 then (some ((-1), M10)) else (some (2, M10))))) else (some (1, M6))))) else (some (0, M2)))))
def f_X2_pass_c83 (k2 : Int32 → xM → Option xM) (a0 : Nat) (a1 : Int32) (v2 : Int32) (M : xM) : Option xM :=
  (bd (f_X2_countMinute a0 M) (fun M9 => (k2 (v2 + 1) M9)))
def fb_X2_pass_c57 (k2 : Int32 → xM → Option xM) (k57 : Int32 → Int32 → Int32 → xM → Option xM) (a0 : Nat) (a1 : Int32) (v2 : Int32) (v3 : Int32) (v4 : Int32) (M : xM) : Option xM :=
  (if (M (a0 + 9)) ≤ v4 then (f_X2_pass_c83 k2 a0 a1 v2 M) else (gd (inb v4 6) (bd (f_X4_letMistIn ((a0 + 23) + 9 * v4.toNatClampNeg) v3 M) (fun M19 => (k57 v2 v3 (v4 + 1) M19)))))
def f_X2_pass_c57 (k2 : Int32 → xM → Option xM) (a0 : Nat) (a1 : Int32) : Int32 → Int32 → Int32 → xM → Option xM :=
  lp (fun _ _ _ _ => none) (fun k => fb_X2_pass_c57 k2 k a0 a1) FU
def fb_X2_pass_c27 (k2 : Int32 → xM → Option xM) (k27 : Int32 → Int32 → Int32 → xM → Option xM) (a0 : Nat) (a1 : Int32) (v2 : Int32) (v3 : Int32) (v4 : Int32) (M : xM) : Option xM :=
  (if (M (a0 + 10)) ≤ v4 then (f_X2_pass_c57 k2 a0 a1 v2 v3 0 M) else (gd (inb v4 6) (bd (f_X2_letAct a0 ((a0 + 77) + 8 * v4.toNatClampNeg) v3 M) (fun M14 => (k27 v2 v3 (v4 + 1) M14)))))
def f_X2_pass_c27 (k2 : Int32 → xM → Option xM) (a0 : Nat) (a1 : Int32) : Int32 → Int32 → Int32 → xM → Option xM :=
  lp (fun _ _ _ _ => none) (fun k => fb_X2_pass_c27 k2 k a0 a1) FU
def fb_X2_pass_c2 (k2 : Int32 → xM → Option xM) (a0 : Nat) (a1 : Int32) (v2 : Int32) (M : xM) : Option xM :=
  (if a1 ≤ v2 then (some M) else (bd2 (f_X2_densityNow a0 M) (fun r4 M3 => (bd (f_X2_moveBell a0 r4 M3) (fun M6 => (if (M6 (a0 + 1)) = 0 then (f_X2_pass_c83 k2 a0 a1 v2 M6) else (f_X2_pass_c27 k2 a0 a1 v2 r4 0 M6)))))))
def f_X2_pass_c2  (a0 : Nat) (a1 : Int32) : Int32 → xM → Option xM :=
  lp (fun _ _ => none) (fun k => fb_X2_pass_c2 k a0 a1) FU
def f_X2_pass (a0 : Nat) (a1 : Int32) (M : xM) : Option xM :=
  (f_X2_pass_c2  a0 a1 0 M)
def fb_X6_nextPayer_c30 (k13 : Int32 → xM → Option (Int32 × xM)) (k30 : Int32 → Int32 → xM → Option (Int32 × xM))  (v1 : Int32) (v2 : Int32) (M : xM) : Option (Int32 × xM) :=
  (if (M 10) ≤ v2 then (k13 (v1 + 1) M) else (gd (inb v2 6) (gd (inb v2 6) (if (M ((333 + 8 * v2.toNatClampNeg) + 7)) ≤ (M ((77 + 8 * v2.toNatClampNeg) + 7)) then (k30 v1 (v2 + 1) M) else (some (v2, M))))))
def f_X6_nextPayer_c30 (k13 : Int32 → xM → Option (Int32 × xM))  : Int32 → Int32 → xM → Option (Int32 × xM) :=
  lp (fun _ _ _ => none) (fun k => fb_X6_nextPayer_c30 k13 k ) FU
def fb_X6_nextPayer_c13 (k13 : Int32 → xM → Option (Int32 × xM))  (v1 : Int32) (M : xM) : Option (Int32 × xM) :=
  (if 200 < v1 then (some ((-1), M)) else (bd (f_X2_pass 256 1 M) (fun M5 => (f_X6_nextPayer_c30 k13  v1 0 M5))))
def f_X6_nextPayer_c13   : Int32 → xM → Option (Int32 × xM) :=
  lp (fun _ _ => none) (fun k => fb_X6_nextPayer_c13 k ) FU
def f_X6_nextPayer  (M : xM) : Option (Int32 × xM) :=
  (bd (f_X2_copyFrom 256 0 M) (fun M2 => (f_X6_nextPayer_c13   1 M2)))
def fb_X6_bestBellPosition_c6 (k6 : Int32 → Int32 → Int32 → xM → Option (Int32 × xM))  (v1 : Int32) (v2 : Int32) (v3 : Int32) (M : xM) : Option (Int32 × xM) :=
  (if 99 < v3 then (some (v1, M)) else (bd (f_X2_copyFrom 256 0 M) (fun M3 => (bd (f_X2_pass 256 60 (upd M3 263 v3)) (fun M5 => (bd2 (f_X2_earnedInAll 256 M5) (fun r8 M7 => (if r8 ≤ v2 then (k6 v1 v2 (v3 + 1) M7) else (k6 v3 r8 (v3 + 1) M7)))))))))
def f_X6_bestBellPosition_c6   : Int32 → Int32 → Int32 → xM → Option (Int32 × xM) :=
  lp (fun _ _ _ _ => none) (fun k => fb_X6_bestBellPosition_c6 k ) FU
def f_X6_bestBellPosition  (M : xM) : Option (Int32 × xM) :=
  (f_X6_bestBellPosition_c6   (-1) (-1) 0 M)
def fb_X6_minutesToPay_c22 (k22 : Int32 → Int32 → xM → Option (Nat × Int32 × xM)) (a1 : Int32) (v2 : Int32) (v3 : Int32) (M : xM) : Option (Nat × Int32 × xM) :=
  (if 200 < v3 then (some (0, (-1), M)) else (bd (f_X2_pass 256 1 M) (fun M11 => (gd (inb a1 6) (if (M11 ((333 + 8 * a1.toNatClampNeg) + 7)) ≤ v2 then (k22 v2 (v3 + 1) M11) else (some (0, v3, M11)))))))
def f_X6_minutesToPay_c22  (a1 : Int32) : Int32 → Int32 → xM → Option (Nat × Int32 × xM) :=
  lp (fun _ _ _ => none) (fun k => fb_X6_minutesToPay_c22 k a1) FU
def f_X6_minutesToPay (a1 : Int32) (M : xM) : Option (Nat × Int32 × xM) :=
  (tbd (0 : Int32) (f_X6_buyerAt a1 M) (fun r4 M3 => (bd (f_X2_copyFrom 256 0 M3) (fun M8 => (f_X6_minutesToPay_c22  a1 (M3 (r4 + 7)) 1 M8)))))
