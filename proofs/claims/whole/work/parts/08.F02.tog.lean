def F_X9_isUp (p0 : Int32) (p1 : Int32) : Option (Int32) :=
    if ((p0 >>> (p1 &&& 31)) &&& 1) = 1 then (some 1)
    else (some 0)
def F_X9_roundedBy (p0 : Int32) (p1 : Int32) (p2 : Int64) (p4 : Int32) : Option (Int64) :=
    zbind (F_X7_stepOf p4) fun zo1 =>
    if zo1 = 0 then none else
    zlet (p2 - (p2 - p2 / zo1 * zo1)) fun zv3 =>
    zbind (F_X9_isUp p0 p1) fun zo4 =>
    if zo4 = 0 then (some zv3)
    else (some (zv3 + zo1))
def F_X9_sumOf_5 (fu : Nat) : Nat → SS → Int32 → Int32 → Int64 → Int32 → Option (Int64)
  | 0 => fun _ _ _ _ _ => none
  | n + 1 => fun st p1 p2 x3 x5 =>
    if (s_cnt st) ≤ x5 then (some x3)
    else (if x5 < 0 ∨ 6 ≤ Int32.toNatClampNeg x5 then none else
    zbind (F_X9_roundedBy p2 x5 ((s_vals st) (Int32.toNatClampNeg x5)) p1) fun zo3 =>
    zlet (x3 + zo3) fun zv4 =>
    zlet (x5 + 1) fun zv5 =>
    (F_X9_sumOf_5 fu n) st p1 p2 zv4 zv5)
def F_X9_sumOf (fu : Nat) (st : SS) (p1 : Int32) (p2 : Int32) : Option (Int64) :=
    F_X9_sumOf_5 fu fu st p1 p2 0 0
def F_X9_errorOf_5 (fu : Nat) : Nat → SS → Int32 → Int32 → Int64 → Int32 → Option (Int64)
  | 0 => fun _ _ _ _ _ => none
  | n + 1 => fun st p1 p2 x3 x5 =>
    if (s_cnt st) ≤ x5 then (some x3)
    else (if x5 < 0 ∨ 6 ≤ Int32.toNatClampNeg x5 then none else
    zlet ((s_vals st) (Int32.toNatClampNeg x5)) fun zv3 =>
    zbind (F_X9_roundedBy p2 x5 zv3 p1) fun zo4 =>
    zlet (x3 + (if 0 < (zo4 - zv3) then (zo4 - zv3) else -(zo4 - zv3))) fun zv5 =>
    zlet (x5 + 1) fun zv6 =>
    (F_X9_errorOf_5 fu n) st p1 p2 zv5 zv6)
def F_X9_errorOf (fu : Nat) (st : SS) (p1 : Int32) (p2 : Int32) : Option (Int64) :=
    F_X9_errorOf_5 fu fu st p1 p2 0 0
def F_X9_nearestToUp_9 (fu : Nat) : Nat → SS → Int64 → Int32 → Int64 → Int32 → Int32 → Option (Int32)
  | 0 => fun _ _ _ _ _ _ => none
  | n + 1 => fun st p1 p3 x4 x6 x7 =>
    if (s_cnt st) ≤ x7 then (some x6)
    else (if x7 < 0 ∨ 6 ≤ Int32.toNatClampNeg x7 then none else
    if p1 = 0 then none else
    zlet (((s_vals st) (Int32.toNatClampNeg x7)) - ((s_vals st) (Int32.toNatClampNeg x7)) / p1 * p1) fun zv4 =>
    if x4 < zv4 then (zbind (F_X9_isUp p3 x7) fun zo7 =>
    if zo7 = 0 then (zlet (1 <<< (x7 &&& 31)) fun zv10 =>
    zlet (x7 + 1) fun zv11 =>
    (F_X9_nearestToUp_9 fu n) st p1 p3 zv4 zv10 zv11)
    else (zlet (x7 + 1) fun zv9 =>
    (F_X9_nearestToUp_9 fu n) st p1 p3 x4 x6 zv9))
    else (zlet (x7 + 1) fun zv6 =>
    (F_X9_nearestToUp_9 fu n) st p1 p3 x4 x6 zv6))
def F_X9_nearestToUp (fu : Nat) (st : SS) (p1 : Int64) (p3 : Int32) : Option (Int32) :=
    F_X9_nearestToUp_9 fu fu st p1 p3 0 0 0
def F_X9_bestChoice_58 (fu : Nat) : Nat → SS → Int64 → Int64 → Int32 → Int32 → Option (Int32)
  | 0 => fun _ _ _ _ _ => none
  | n + 1 => fun st x2 x6 x8 x9 =>
    if (Int32.toInt64 x9) < x6 then (if 6 ≤ x9 then (some x8)
    else (zbind (F_X9_nearestToUp fu st x2 x8) fun zo3 =>
    zlet (x8 ||| zo3) fun zv4 =>
    zlet (x9 + 1) fun zv5 =>
    (F_X9_bestChoice_58 fu n) st x2 x6 zv4 zv5))
    else (some x8)
def F_X9_bestChoice_11 (fu : Nat) : Nat → SS → Int32 → Int64 → Int64 → Int32 → Option (Int32)
  | 0 => fun _ _ _ _ _ => none
  | n + 1 => fun st p1 x2 x4 x6 =>
    if (s_cnt st) ≤ x6 then (zbind (F_X7_ofSum x4 p1 104) fun zo7 =>
    if x2 = 0 then none else
    zlet (zo7 / x2) fun zv9 =>
    F_X9_bestChoice_58 fu fu st x2 zv9 0 0)
    else (if x6 < 0 ∨ 6 ≤ Int32.toNatClampNeg x6 then none else
    if x2 = 0 then none else
    zlet (x4 + (((s_vals st) (Int32.toNatClampNeg x6)) - ((s_vals st) (Int32.toNatClampNeg x6)) / x2 * x2)) fun zv12 =>
    zlet (x6 + 1) fun zv13 =>
    (F_X9_bestChoice_11 fu n) st p1 x2 zv12 zv13)
def F_X9_bestChoice (fu : Nat) (st : SS) (p1 : Int32) : Option (Int32) :=
    zbind (F_X7_stepOf p1) fun zo14 =>
    F_X9_bestChoice_11 fu fu st p1 zo14 0 0
def F_X9_hasOnlyRests_8 (fu : Nat) : Nat → SS → Int32 → Int64 → Int32 → Option (Int32)
  | 0 => fun _ _ _ _ => none
  | n + 1 => fun st p2 x3 x5 =>
    if (s_cnt st) ≤ x5 then (some 1)
    else (zbind (F_X9_isUp p2 x5) fun zo2 =>
    if zo2 = 0 then (zlet (x5 + 1) fun zv4 =>
    (F_X9_hasOnlyRests_8 fu n) st p2 x3 zv4)
    else (if x5 < 0 ∨ 6 ≤ Int32.toNatClampNeg x5 then none else
    if x3 = 0 then none else
    if (((s_vals st) (Int32.toNatClampNeg x5)) - ((s_vals st) (Int32.toNatClampNeg x5)) / x3 * x3) = 0 then (some 0)
    else (zlet (x5 + 1) fun zv8 =>
    (F_X9_hasOnlyRests_8 fu n) st p2 x3 zv8)))
def F_X9_hasOnlyRests (fu : Nat) (st : SS) (p1 : Int32) (p2 : Int32) : Option (Int32) :=
    zbind (F_X7_stepOf p1) fun zo9 =>
    F_X9_hasOnlyRests_8 fu fu st p2 zo9 0
def F_X9_leastErrorOfSets_19 (fu : Nat) : Nat → SS → Int32 → Int64 → Int64 → Int32 → Option (Int64)
  | 0 => fun _ _ _ _ _ => none
  | n + 1 => fun st p1 x2 x4 x6 =>
    if (1 <<< ((s_cnt st) &&& 31)) ≤ x6 then (some x4)
    else (zbind (F_X9_hasOnlyRests fu st p1 x6) fun zo2 =>
    if zo2 = 0 then (zlet (x6 + 1) fun zv4 =>
    (F_X9_leastErrorOfSets_19 fu n) st p1 x2 x4 zv4)
    else (zbind (F_X9_sumOf fu st p1 x6) fun zo5 =>
    if zo5 = x2 then (zbind (F_X9_errorOf fu st p1 x6) fun zo8 =>
    zlet (if zo8 < x4 then zo8 else x4) fun zv9 =>
    zlet (x6 + 1) fun zv10 =>
    (F_X9_leastErrorOfSets_19 fu n) st p1 x2 zv9 zv10)
    else (zlet (x6 + 1) fun zv7 =>
    (F_X9_leastErrorOfSets_19 fu n) st p1 x2 x4 zv7)))
def F_X9_leastErrorOfSets (fu : Nat) (st : SS) (p1 : Int32) : Option (Int64) :=
    zbind (F_X8_sumOfValues fu st) fun zo11 =>
    zbind (F_X7_ofSum zo11 p1 104) fun zo12 =>
    F_X9_leastErrorOfSets_19 fu fu st p1 zo12 9223372036854775807 0
