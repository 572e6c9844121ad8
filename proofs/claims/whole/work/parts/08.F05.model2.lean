def F_X11_ofNumber (fu : Nat) (mm : Nat → Int64) (mthr : Int32) (p1 : Int32) (p2 : Int32) : Option (Int64 × Int32) :=
    zbind (F_X11_find fu mm p1) fun zo1 =>
    if zo1 = (-1) then (zbind (F_X11_throwing 0 1) fun zo6 =>
    some ((Int32.toInt64 zo6.1), zo6.2))
    else (zbind (F_X11_find fu mm p1) fun zo3 =>
    zbind (F_X11_at zo3) fun zo4 =>
    if (zo4 + p2) < 0 ∨ 28 ≤ Int32.toNatClampNeg (zo4 + p2) then none else
    some ((mm (Int32.toNatClampNeg (zo4 + p2))), 0))
def F_X11_value (fu : Nat) (mm : Nat → Int64) (mthr : Int32) (p1 : Int32) : Option (Int64 × Int32) :=
    zbind (F_X11_ofNumber fu mm mthr p1 1) fun zo1 =>
    some (zo1.1, zo1.2)
def F_X11_scale (fu : Nat) (mm : Nat → Int64) (mthr : Int32) (p1 : Int32) : Option (Int32 × Int32) :=
    zbind (F_X11_ofNumber fu mm mthr p1 2) fun zo1 =>
    some ((Int64.toInt32 zo1.1), zo1.2)
def F_X11_mode (fu : Nat) (mm : Nat → Int64) (mthr : Int32) (p1 : Int32) : Option (Int32 × Int32) :=
    zbind (F_X11_ofNumber fu mm mthr p1 3) fun zo1 =>
    if ¬ (0 ≤ (zchar (Int64.toInt32 zo1.1)) ∧ (zchar (Int64.toInt32 zo1.1)) ≤ 65535) then none else
    some ((zchar (Int64.toInt32 zo1.1)), zo1.2)
def F_X11_digitAt_6 (fu : Nat) : Nat → Int32 → Int64 → Int32 → Option (Int32)
  | 0 => fun _ _ _ => none
  | n + 1 => fun p2 x3 x5 =>
    if p2 ≤ x5 then (some (Int64.toInt32 (x3 - x3 / 10 * 10)))
    else (zlet (x3 / 10) fun zv2 =>
    zlet (x5 + 1) fun zv3 =>
    (F_X11_digitAt_6 fu n) p2 zv2 zv3)
def F_X11_digitAt (fu : Nat) (p0 : Int64) (p2 : Int32) : Option (Int32) :=
    F_X11_digitAt_6 fu fu p2 p0 (-4)
def F_X11_digit (fu : Nat) (mm : Nat → Int64) (mthr : Int32) (p1 : Int32) (p2 : Int32) : Option (Int32 × Int32) :=
    zbind (F_X11_ofNumber fu mm mthr p1 1) fun zo1 =>
    if zo1.2 ≤ 0 then (zbind (F_X11_in (Int32.toInt64 p2) (-4) 5) fun zo3 =>
    if zo3 = 0 then (zbind (F_X11_throwing zo1.2 2) fun zo5 =>
    some (zo5.1, zo5.2))
    else (zbind (F_X11_digitAt fu zo1.1 p2) fun zo6 =>
    some (zo6, zo1.2)))
    else (some ((-1), zo1.2))
def F_X11_digitSum_25 (fu : Nat) : Nat → (Nat → Int64) → Int32 → Int64 → Int32 → Int32 → Option (Int32 × Int32)
  | 0 => fun _ _ _ _ _ => none
  | n + 1 => fun mm mthr x2 x4 x5 =>
    if 5 < x5 then (some (x4, mthr))
    else (if mthr = 0 then (zbind (F_X11_digitAt fu x2 x5) fun zo3 =>
    zlet (x4 + zo3) fun zv4 =>
    zlet (x5 + 1) fun zv5 =>
    (F_X11_digitSum_25 fu n) mm mthr x2 zv4 zv5)
    else (some (x4, mthr)))
def F_X11_digitSum (fu : Nat) (mm : Nat → Int64) (mthr : Int32) (p1 : Int32) : Option (Int32 × Int32) :=
    zbind (F_X11_ofNumber fu mm mthr p1 1) fun zo6 =>
    if zo6.2 ≤ 0 then (F_X11_digitSum_25 fu fu mm zo6.2 zo6.1 0 (-4))
    else (F_X11_digitSum_25 fu fu mm zo6.2 zo6.1 (-1) (-4))
def F_X11_isAhead_57 (mm : Nat → Int64) (p1 : Int32) (p2 : Int32) (y0 : Int64) : Option (Int32) :=
  if 0 < y0 then (some 1)
    else (if y0 = 0 then (if p2 ≤ p1 then (some 0)
    else (some 1))
    else (some 0))
def F_X11_isAhead (mm : Nat → Int64) (p1 : Int32) (p2 : Int32) : Option (Int32) :=
    zbind (F_X11_at p1) fun zo4 =>
    if (zo4 + 1) < 0 ∨ 28 ≤ Int32.toNatClampNeg (zo4 + 1) then none else
    zbind (F_X11_at p2) fun zo6 =>
    if (zo6 + 1) < 0 ∨ 28 ≤ Int32.toNatClampNeg (zo6 + 1) then none else
    zlet ((mm (Int32.toNatClampNeg (zo4 + 1))) - (mm (Int32.toNatClampNeg (zo6 + 1)))) fun zv8 =>
    if zv8 = 0 then (zbind (F_X11_at p1) fun zo10 =>
    if (zo10 + 2) < 0 ∨ 28 ≤ Int32.toNatClampNeg (zo10 + 2) then none else
    zbind (F_X11_at p2) fun zo12 =>
    if (zo12 + 2) < 0 ∨ 28 ≤ Int32.toNatClampNeg (zo12 + 2) then none else
    F_X11_isAhead_57 mm p1 p2 ((mm (Int32.toNatClampNeg (zo10 + 2))) - (mm (Int32.toNatClampNeg (zo12 + 2)))))
    else (F_X11_isAhead_57 mm p1 p2 zv8)
def F_X11_numberAtRank_20 (k7 : (Nat → Int64) → Int32 → Int32 → Int32 → Option (Int32 × Int32)) (fu : Nat) : Nat → (Nat → Int64) → Int32 → Int32 → Int32 → Int32 → Int32 → Option (Int32 × Int32)
  | 0 => fun _ _ _ _ _ _ => none
  | n + 1 => fun mm mthr p1 x2 x3 x4 =>
    zbind (F_X11_many mm) fun zo1 =>
    if zo1 ≤ x4 then (if x3 = p1 then (zbind (F_X11_at x2) fun zo5 =>
    if zo5 < 0 ∨ 28 ≤ Int32.toNatClampNeg zo5 then none else
    some ((Int64.toInt32 (mm (Int32.toNatClampNeg zo5))), mthr))
    else (zlet (x2 + 1) fun zv4 =>
    k7 mm mthr p1 zv4))
    else (zbind (F_X11_isAhead mm x4 x2) fun zo7 =>
    if zo7 = 0 then (zlet (x3 + 0) fun zv9 =>
    zlet (x4 + 1) fun zv10 =>
    (F_X11_numberAtRank_20 k7 fu n) mm mthr p1 x2 zv9 zv10)
    else (zlet (x3 + 1) fun zv11 =>
    zlet (x4 + 1) fun zv12 =>
    (F_X11_numberAtRank_20 k7 fu n) mm mthr p1 x2 zv11 zv12))
def F_X11_numberAtRank_7 (fu : Nat) : Nat → (Nat → Int64) → Int32 → Int32 → Int32 → Option (Int32 × Int32)
  | 0 => fun _ _ _ _ => none
  | n + 1 => fun mm mthr p1 x2 =>
    zbind (F_X11_many mm) fun zo13 =>
    if zo13 ≤ x2 then (zbind (F_X11_throwing mthr 1) fun zo15 =>
    some (zo15.1, zo15.2))
    else (F_X11_numberAtRank_20 (F_X11_numberAtRank_7 fu n) fu fu mm mthr p1 x2 0 0)
def F_X11_numberAtRank (fu : Nat) (mm : Nat → Int64) (mthr : Int32) (p1 : Int32) : Option (Int32 × Int32) :=
    F_X11_numberAtRank_7 fu fu mm 0 p1 0
def F_X11_rounded (fu : Nat) (mm : Nat → Int64) (mthr : Int32) (p1 : Int32) (p2 : Int32) (p3 : Int32) : Option (Int64 × Int32) :=
    zbind (F_X11_ofNumber fu mm mthr p1 1) fun zo1 =>
    if zo1.2 ≤ 0 then (zbind (F_X11_isScale p2) fun zo3 =>
    if zo3 = 0 then (zbind (F_X11_throwing zo1.2 2) fun zo5 =>
    some ((Int32.toInt64 zo5.1), zo5.2))
    else (zbind (F_X11_isMode p3) fun zo6 =>
    if zo6 = 0 then (zbind (F_X11_throwing zo1.2 2) fun zo8 =>
    some ((Int32.toInt64 zo8.1), zo8.2))
    else (zbind (F_X11_round fu zo1.1 p2 p3) fun zo9 =>
    some (zo9, zo1.2))))
    else (some ((-1), zo1.2))
def F_X11_part (fu : Nat) (mm : Nat → Int64) (mthr : Int32) (p1 : Int32) (p2 : Int32) (p3 : Int32) : Option (Int64 × Int32) :=
    zbind (F_X11_ofNumber fu mm mthr p1 1) fun zo1 =>
    if zo1.2 ≤ 0 then (zbind (F_X11_in (Int32.toInt64 p2) 1 9) fun zo3 =>
    if zo3 = 0 then (zbind (F_X11_throwing zo1.2 2) fun zo17 =>
    some ((Int32.toInt64 zo17.1), zo17.2))
    else (zbind (F_X11_in (Int32.toInt64 p3) 0 (Int32.toInt64 (p2 - 1))) fun zo5 =>
    if zo5 = 0 then (zbind (F_X11_throwing zo1.2 3) fun zo16 =>
    some ((Int32.toInt64 zo16.1), zo16.2))
    else (zbind (F_X11_find fu mm p1) fun zo7 =>
    zbind (F_X11_at zo7) fun zo8 =>
    if (zo8 + 2) < 0 ∨ 28 ≤ Int32.toNatClampNeg (zo8 + 2) then none else
    zbind (F_X11_step fu (Int64.toInt32 (mm (Int32.toNatClampNeg (zo8 + 2))))) fun zo10 =>
    if zo10 = 0 then none else
    zlet (zo1.1 / zo10) fun zv12 =>
    if (Int32.toInt64 p2) = 0 then none else
    if (Int32.toInt64 p2) = 0 then none else
    if (Int32.toInt64 p3) < (zv12 - zv12 / (Int32.toInt64 p2) * (Int32.toInt64 p2)) then (some ((zo10 * ((zv12 / (Int32.toInt64 p2)) + (Int32.toInt64 1))), zo1.2))
    else (some ((zo10 * ((zv12 / (Int32.toInt64 p2)) + (Int32.toInt64 0))), zo1.2)))))
    else (some ((-1), zo1.2))
def F_X11_adds_94 (k42 : (Nat → Int64) → Int32 → (Nat → Int32) → Int32 → Int32 → Int64 → Int32 → Int32 → Option (Int32 × (Nat → Int32))) (fu : Nat) (mm : Nat → Int64) (mthr : Int32) (mcar : Nat → Int32) (p2 : Int32) (p3 : Int32) (x4 : Int64) (x7 : Int32) (x8 : Int32) (y1 : Int32) (y2 : Int32) : Option (Int32 × (Nat → Int32)) :=
  if y1 < 0 ∨ 10 ≤ Int32.toNatClampNeg y1 then none else
    if x8 ≤ 9 then (zlet (x7 + 1) fun zv3 =>
    k42 mm mthr (upd mcar (Int32.toNatClampNeg y1) (vp_nar .boolean y2)) p2 p3 x4 0 zv3)
    else (zlet (x7 + 1) fun zv4 =>
    k42 mm mthr (upd mcar (Int32.toNatClampNeg y1) (vp_nar .boolean y2)) p2 p3 x4 1 zv4)
def F_X11_adds_42 (fu : Nat) : Nat → (Nat → Int64) → Int32 → (Nat → Int32) → Int32 → Int32 → Int64 → Int32 → Int32 → Option (Int32 × (Nat → Int32))
  | 0 => fun _ _ _ _ _ _ _ _ => none
  | n + 1 => fun mm mthr mcar p2 p3 x4 x6 x7 =>
    if 10 ≤ x7 then (some (mthr, mcar))
    else (zbind (F_X11_digitAt fu x4 (x7 - 4)) fun zo6 =>
    zbind (F_X11_units p2 p3) fun zo7 =>
    zbind (F_X11_digitAt fu zo7 (x7 - 4)) fun zo8 =>
    zlet ((zo6 + zo8) + x6) fun zv9 =>
    if zv9 ≤ 9 then (F_X11_adds_94 (F_X11_adds_42 fu n) fu mm mthr mcar p2 p3 x4 x7 zv9 x7 0)
    else (F_X11_adds_94 (F_X11_adds_42 fu n) fu mm mthr mcar p2 p3 x4 x7 zv9 x7 1))
def F_X11_adds (fu : Nat) (mm : Nat → Int64) (mthr : Int32) (mcar : Nat → Int32) (p1 : Int32) (p2 : Int32) (p3 : Int32) : Option (Int32 × (Nat → Int32)) :=
    zbind (F_X11_ofNumber fu mm mthr p1 1) fun zo11 =>
    if zo11.2 = 0 then (zbind (F_X11_isAmount p2 p3) fun zo14 =>
    if zo14 = 0 then (zbind (F_X11_throwing zo11.2 2) fun zo17 =>
    if zo17.2 = 0 then (F_X11_adds_42 fu fu mm zo17.2 mcar p2 p3 zo11.1 0 0)
    else (some (zo17.2, mcar)))
    else (if zo11.2 = 0 then (F_X11_adds_42 fu fu mm zo11.2 mcar p2 p3 zo11.1 0 0)
    else (some (zo11.2, mcar))))
    else (if zo11.2 = 0 then (F_X11_adds_42 fu fu mm zo11.2 mcar p2 p3 zo11.1 0 0)
    else (some (zo11.2, mcar)))
def F_X11_carries_24 (fu : Nat) : Nat → (Nat → Int64) → Int32 → (Nat → Int32) → Int32 → Int32 → Option (Int32 × Int32 × (Nat → Int32))
  | 0 => fun _ _ _ _ _ => none
  | n + 1 => fun mm mthr mcar x4 x5 =>
    if 10 ≤ x5 then (some (x4, mthr, mcar))
    else (if mthr = 0 then (if x5 < 0 ∨ 10 ≤ Int32.toNatClampNeg x5 then none else
    if (mcar (Int32.toNatClampNeg x5)) = 0 then (zlet (x4 + 0) fun zv5 =>
    zlet (x5 + 1) fun zv6 =>
    (F_X11_carries_24 fu n) mm mthr mcar zv5 zv6)
    else (zlet (x4 + 1) fun zv7 =>
    zlet (x5 + 1) fun zv8 =>
    (F_X11_carries_24 fu n) mm mthr mcar zv7 zv8))
    else (some (x4, mthr, mcar)))
def F_X11_carries (fu : Nat) (mm : Nat → Int64) (mthr : Int32) (mcar : Nat → Int32) (p1 : Int32) (p2 : Int32) (p3 : Int32) : Option (Int32 × Int32 × (Nat → Int32)) :=
    zbind (F_X11_adds fu mm mthr mcar p1 p2 p3) fun zo9 =>
    if zo9.1 ≤ 0 then (F_X11_carries_24 fu fu mm zo9.1 zo9.2 0 0)
    else (F_X11_carries_24 fu fu mm zo9.1 zo9.2 (-1) 0)
def F_X11_carriesBySums (fu : Nat) (mm : Nat → Int64) (mthr : Int32) (mcar : Nat → Int32) (p1 : Int32) (p2 : Int32) (p3 : Int32) : Option (Int32 × Int32 × (Nat → Int32)) :=
    zbind (F_X11_carries fu mm mthr mcar p1 p2 p3) fun zo1 =>
    some (zo1.1, zo1.2.1, zo1.2.2)
def F_X11_longestCarry_27 (fu : Nat) : Nat → (Nat → Int64) → Int32 → (Nat → Int32) → Int32 → Int32 → Int32 → Option (Int32 × Int32 × (Nat → Int32))
  | 0 => fun _ _ _ _ _ _ => none
  | n + 1 => fun mm mthr mcar x4 x5 x6 =>
    if 10 ≤ x6 then (some (x4, mthr, mcar))
    else (if mthr = 0 then (if x6 < 0 ∨ 10 ≤ Int32.toNatClampNeg x6 then none else
    if (mcar (Int32.toNatClampNeg x6)) = 0 then (zlet (if x4 < 0 then 0 else x4) fun zv5 =>
    zlet (x6 + 1) fun zv6 =>
    (F_X11_longestCarry_27 fu n) mm mthr mcar zv5 0 zv6)
    else (zlet (x5 + 1) fun zv7 =>
    zlet (if x4 < zv7 then zv7 else x4) fun zv8 =>
    zlet (x6 + 1) fun zv9 =>
    (F_X11_longestCarry_27 fu n) mm mthr mcar zv8 zv7 zv9))
    else (some (x4, mthr, mcar)))
def F_X11_longestCarry (fu : Nat) (mm : Nat → Int64) (mthr : Int32) (mcar : Nat → Int32) (p1 : Int32) (p2 : Int32) (p3 : Int32) : Option (Int32 × Int32 × (Nat → Int32)) :=
    zbind (F_X11_adds fu mm mthr mcar p1 p2 p3) fun zo10 =>
    if zo10.1 ≤ 0 then (F_X11_longestCarry_27 fu fu mm zo10.1 zo10.2 0 0 0)
    else (F_X11_longestCarry_27 fu fu mm zo10.1 zo10.2 (-1) 0 0)
def F_X11_togetherError_30 (fu : Nat) : Nat → (Nat → Int64) → Int32 → (Nat → Int32) → Int32 → Int64 → Int32 → Option (Int64 × Int32 × (Nat → Int32))
  | 0 => fun _ _ _ _ _ _ => none
  | n + 1 => fun mm mthr mUp p1 x2 x4 =>
    zbind (F_X11_many mm) fun zo1 =>
    if zo1 ≤ x4 then (some (x2, mthr, mUp))
    else (if x4 < 0 ∨ 6 ≤ Int32.toNatClampNeg x4 then none else
    if (mUp (Int32.toNatClampNeg x4)) = 0 then (zbind (F_X11_rest fu mm x4 p1) fun zo5 =>
    zlet (x2 + zo5) fun zv6 =>
    zlet (x4 + 1) fun zv7 =>
    (F_X11_togetherError_30 fu n) mm mthr mUp p1 zv6 zv7)
    else (zbind (F_X11_step fu p1) fun zo8 =>
    zbind (F_X11_rest fu mm x4 p1) fun zo9 =>
    zlet (x2 + (zo8 - zo9)) fun zv10 =>
    zlet (x4 + 1) fun zv11 =>
    (F_X11_togetherError_30 fu n) mm mthr mUp p1 zv10 zv11))
def F_X11_togetherError (fu : Nat) (mm : Nat → Int64) (mthr : Int32) (mUp : Nat → Int32) (p1 : Int32) : Option (Int64 × Int32 × (Nat → Int32)) :=
    zbind (F_X11_isScale p1) fun zo12 =>
    if zo12 = 0 then (zbind (F_X11_throwing 0 1) fun zo15 =>
    some ((Int32.toInt64 zo15.1), zo15.2, mUp))
    else (zbind (F_X11_chooses fu mm mUp p1) fun zo14 =>
    F_X11_togetherError_30 fu fu mm 0 zo14.2 p1 0 0)
def F_X11_togetherErrorBySets (fu : Nat) (mm : Nat → Int64) (mthr : Int32) (mUp : Nat → Int32) (p1 : Int32) : Option (Int64 × Int32 × (Nat → Int32)) :=
    zbind (F_X11_togetherError fu mm mthr mUp p1) fun zo1 =>
    some (zo1.1, zo1.2.1, zo1.2.2)
def F_X11_goesUp_45 (fu : Nat) (mm : Nat → Int64) (mthr : Int32) (mUp : Nat → Int32) (p1 : Int32) : Option (Int32 × Int32 × (Nat → Int32)) :=
  if mthr = 0 then (zbind (F_X11_find fu mm p1) fun zo2 =>
    if zo2 < 0 ∨ 6 ≤ Int32.toNatClampNeg zo2 then none else
    if (mUp (Int32.toNatClampNeg zo2)) = 0 then (some (0, mthr, mUp))
    else (some (1, mthr, mUp)))
    else (some (0, mthr, mUp))
def F_X11_goesUp (fu : Nat) (mm : Nat → Int64) (mthr : Int32) (mUp : Nat → Int32) (p1 : Int32) (p2 : Int32) : Option (Int32 × Int32 × (Nat → Int32)) :=
    zbind (F_X11_find fu mm p1) fun zo5 =>
    if zo5 = (-1) then (zbind (F_X11_throwing 0 1) fun zo11 =>
    F_X11_goesUp_45 fu mm zo11.2 mUp p1)
    else (zbind (F_X11_isScale p2) fun zo7 =>
    if zo7 = 0 then (zbind (F_X11_throwing 0 2) fun zo10 =>
    F_X11_goesUp_45 fu mm zo10.2 mUp p1)
    else (zbind (F_X11_chooses fu mm mUp p2) fun zo9 =>
    F_X11_goesUp_45 fu mm 0 zo9.2 p1))
def F_X11_isQuotient (p0 : Int32) (p1 : Int32) : Option (Int32) :=
    zbind (F_X11_in (Int32.toInt64 p0) 0 9999) fun zo1 =>
    if zo1 = 0 then (some 0)
    else (zbind (F_X11_in (Int32.toInt64 p1) 1 999) fun zo3 =>
    if zo3 = 0 then (some 0)
    else (some 1))
