def F_X10_meanValue (fu : Nat) (st : SS) : Option (Except (Nat × (Unit)) (UInt64)) :=
    if (s_cnt st) = 0 then (some (.error (5, ())))
    else (zbind (F_X8_sumOfValues fu st) fun zo2 =>
    if ¬ (zn64 (FP.ddiv (FP.l2d zo2) (FP.i2d (s_cnt st)))) then none else
    if ¬ (zn64 (FP.ddiv (FP.ddiv (FP.l2d zo2) (FP.i2d (s_cnt st))) (4666723172467343360 : UInt64))) then none else
    some (.ok (FP.ddiv (FP.ddiv (FP.l2d zo2) (FP.i2d (s_cnt st))) (4666723172467343360 : UInt64))))
def F_X10_share (fu : Nat) (st : SS) (p1 : Int32) : Option (Except (Nat × (Unit)) (UInt32)) :=
    zbind (F_X10_requirePosition fu st p1) fun zo1 => zcase zo1 (fun za1 =>
    zbind (F_X8_sumOfValues fu st) fun zo2 =>
    if zo2 = 0 then (some (.error (5, ())))
    else (if za1 < 0 ∨ 6 ≤ Int32.toNatClampNeg za1 then none else
    if ¬ (zn32 (FP.fdiv (FP.l2f ((s_vals st) (Int32.toNatClampNeg za1))) (FP.l2f zo2))) then none else
    some (.ok (FP.fdiv (FP.l2f ((s_vals st) (Int32.toNatClampNeg za1))) (FP.l2f zo2)))))
    (fun zw1 => some (.error (zw1.1, ())))
def F_X11_meanValue (fu : Nat) (mm : Nat → Int64) (mthr : Int32) : Option (UInt64 × Int32) :=
    zbind (F_X11_many mm) fun zo1 =>
    if zo1 = 0 then (zbind (F_X11_throwing 0 1) fun zo7 =>
    some (FP.dconst0, zo7.2))
    else (zbind (F_X11_sum fu mm) fun zo3 =>
    zbind (F_X11_many mm) fun zo4 =>
    if ¬ (zn64 (FP.ddiv (FP.l2d zo3) (FP.i2d zo4))) then none else
    if ¬ (zn64 (FP.ddiv (FP.ddiv (FP.l2d zo3) (FP.i2d zo4)) (4666723172467343360 : UInt64))) then none else
    some ((FP.ddiv (FP.ddiv (FP.l2d zo3) (FP.i2d zo4)) (4666723172467343360 : UInt64)), 0))
def F_X11_share_29 (fu : Nat) (mm : Nat → Int64) (mthr : Int32) (x2 : Int64) : Option (UInt32 × Int32) :=
  if mthr ≤ 0 then (zbind (F_X11_sum fu mm) fun zo2 =>
    if ¬ (zn32 (FP.fdiv (FP.l2f x2) (FP.l2f zo2))) then none else
    some ((FP.fdiv (FP.l2f x2) (FP.l2f zo2)), mthr))
    else (some (FP.fconst0, mthr))
def F_X11_share (fu : Nat) (mm : Nat → Int64) (mthr : Int32) (p1 : Int32) : Option (UInt32 × Int32) :=
    zbind (F_X11_ofNumber fu mm mthr p1 1) fun zo4 =>
    if zo4.2 = 0 then (zbind (F_X11_sum fu mm) fun zo6 =>
    if zo6 = 0 then (zbind (F_X11_throwing zo4.2 2) fun zo8 =>
    F_X11_share_29 fu mm zo8.2 zo4.1)
    else (F_X11_share_29 fu mm zo4.2 zo4.1))
    else (F_X11_share_29 fu mm zo4.2 zo4.1)
def F_L_meanValue (fu : Nat) (st : SS) (jd : Nat → UInt64) : Option (Int32 × (Nat → UInt64)) :=
    zbind (F_X10_meanValue fu st) fun zo1 => zcase zo1 (fun za1 =>
    some (0, (vf_upd jd (Int32.toNatClampNeg 0) za1)))
    (fun zw1 => if zw1.1 = 5 then (some (1, jd))
    else none)
def F_L_share (fu : Nat) (st : SS) (jd : Nat → UInt64) (p1 : Int32) : Option (Int32 × (Nat → UInt64)) :=
    zbind (F_X10_share fu st p1) fun zo1 => zcase zo1 (fun za1 =>
    if ¬ (zn64 (FP.f2d za1)) then none else
    some (0, (vf_upd jd (Int32.toNatClampNeg 0) (FP.f2d za1))))
    (fun zw1 => if zw1.1 = 3 then (some (1, jd))
    else if zw1.1 = 5 then (some (2, jd))
    else none)
