def F_X11_takesIn (mm : Nat → Int64) (p1 : Int64) (p3 : Int32) (p4 : Int32) : Option (Int32 × (Nat → Int64)) :=
    zbind (F_X11_many mm) fun zo1 =>
    zbind (F_X11_at zo1) fun zo2 =>
    if zo2 < 0 ∨ 28 ≤ Int32.toNatClampNeg zo2 then none else
    if (zo2 + 1) < 0 ∨ 28 ≤ Int32.toNatClampNeg (zo2 + 1) then none else
    if (zo2 + 2) < 0 ∨ 28 ≤ Int32.toNatClampNeg (zo2 + 2) then none else
    if (zo2 + 3) < 0 ∨ 28 ≤ Int32.toNatClampNeg (zo2 + 3) then none else
    zlet (((vp_updL (vp_updL (vp_updL (vp_updL mm (Int32.toNatClampNeg zo2) (mm (Int32.toNatClampNeg 1))) (Int32.toNatClampNeg (zo2 + 1)) p1) (Int32.toNatClampNeg (zo2 + 2)) (Int32.toInt64 p3)) (Int32.toNatClampNeg (zo2 + 3)) (Int32.toInt64 p4)) (Int32.toNatClampNeg 0)) + 1) fun zv7 =>
    zlet (((vp_updL (vp_updL (vp_updL (vp_updL (vp_updL mm (Int32.toNatClampNeg zo2) (mm (Int32.toNatClampNeg 1))) (Int32.toNatClampNeg (zo2 + 1)) p1) (Int32.toNatClampNeg (zo2 + 2)) (Int32.toInt64 p3)) (Int32.toNatClampNeg (zo2 + 3)) (Int32.toInt64 p4)) (Int32.toNatClampNeg 0) zv7) (Int32.toNatClampNeg 1)) + 1) fun zv8 =>
    if zo2 < 0 ∨ 28 ≤ Int32.toNatClampNeg zo2 then none else
    some ((Int64.toInt32 ((vp_updL (vp_updL (vp_updL (vp_updL (vp_updL (vp_updL mm (Int32.toNatClampNeg zo2) (mm (Int32.toNatClampNeg 1))) (Int32.toNatClampNeg (zo2 + 1)) p1) (Int32.toNatClampNeg (zo2 + 2)) (Int32.toInt64 p3)) (Int32.toNatClampNeg (zo2 + 3)) (Int32.toInt64 p4)) (Int32.toNatClampNeg 0) zv7) (Int32.toNatClampNeg 1) zv8) (Int32.toNatClampNeg zo2))), (vp_updL (vp_updL (vp_updL (vp_updL (vp_updL (vp_updL mm (Int32.toNatClampNeg zo2) (mm (Int32.toNatClampNeg 1))) (Int32.toNatClampNeg (zo2 + 1)) p1) (Int32.toNatClampNeg (zo2 + 2)) (Int32.toInt64 p3)) (Int32.toNatClampNeg (zo2 + 3)) (Int32.toInt64 p4)) (Int32.toNatClampNeg 0) zv7) (Int32.toNatClampNeg 1) zv8))
def F_X11_addIt (fu : Nat) (mm : Nat → Int64) (mthr : Int32) (p1 : Int32) (p2 : Int32) (p3 : Int32) (p4 : Int32) : Option (Int32 × (Nat → Int64) × Int32) :=
    zbind (F_X11_isAmount p1 p2) fun zo1 =>
    if zo1 = 0 then (zbind (F_X11_throwing mthr 1) fun zo3 =>
    some (zo3.1, mm, zo3.2))
    else (zbind (F_X11_isScale p3) fun zo4 =>
    if zo4 = 0 then (zbind (F_X11_throwing mthr 1) fun zo6 =>
    some (zo6.1, mm, zo6.2))
    else (zbind (F_X11_isMode p4) fun zo7 =>
    if zo7 = 0 then (zbind (F_X11_throwing mthr 1) fun zo19 =>
    some (zo19.1, mm, zo19.2))
    else (zbind (F_X11_many mm) fun zo9 =>
    if zo9 = 6 then (zbind (F_X11_throwing mthr 2) fun zo18 =>
    some (zo18.1, mm, zo18.2))
    else (zbind (F_X11_units p1 p2) fun zo11 =>
    zbind (F_X11_step fu p3) fun zo12 =>
    if zo12 = 0 then none else
    if 0 < (zo11 - zo11 / zo12 * zo12) then (zbind (F_X11_throwing mthr 3) fun zo17 =>
    some (zo17.1, mm, zo17.2))
    else (zbind (F_X11_units p1 p2) fun zo15 =>
    zbind (F_X11_takesIn mm zo15 p3 p4) fun zo16 =>
    some (zo16.1, zo16.2, mthr))))))
def F_X11_addNumber (fu : Nat) (mm : Nat → Int64) (masd : Nat → Int64) (mpst : Nat → Int64) (mchg : Int32) (mthr : Int32) (p1 : Int32) (p2 : Int32) (p3 : Int32) (p4 : Int32) : Option (Int32 × (Nat → Int64) × (Nat → Int64) × (Nat → Int64) × Int32 × Int32) :=
    zbind (F_X11_starts fu mm masd mthr) fun zo1 =>
    zbind (F_X11_addIt fu mm zo1.2 p1 p2 p3 p4) fun zo2 =>
    zbind (F_X11_ends fu zo1.1 mpst mchg zo2.2.2) fun zo3 =>
    some (zo2.1, zo2.2.1, zo1.1, zo3.1, zo3.2, zo2.2.2)
def F_X11_overIt (fu : Nat) (mm : Nat → Int64) (mthr : Int32) (p1 : Int32) (p2 : Int32) (p3 : Int32) (p4 : Int32) : Option (Int32 × (Nat → Int64) × Int32) :=
    zbind (F_X11_in (Int32.toInt64 p1) 0 9999) fun zo1 =>
    if zo1 = 0 then (zbind (F_X11_throwing mthr 1) fun zo3 =>
    some (zo3.1, mm, zo3.2))
    else (zbind (F_X11_in (Int32.toInt64 p2) 1 999) fun zo4 =>
    if zo4 = 0 then (zbind (F_X11_throwing mthr 1) fun zo6 =>
    some (zo6.1, mm, zo6.2))
    else (zbind (F_X11_isScale p3) fun zo7 =>
    if zo7 = 0 then (zbind (F_X11_throwing mthr 1) fun zo9 =>
    some (zo9.1, mm, zo9.2))
    else (zbind (F_X11_isMode p4) fun zo10 =>
    if zo10 = 0 then (zbind (F_X11_throwing mthr 1) fun zo19 =>
    some (zo19.1, mm, zo19.2))
    else (zbind (F_X11_many mm) fun zo12 =>
    if zo12 = 6 then (zbind (F_X11_throwing mthr 2) fun zo18 =>
    some (zo18.1, mm, zo18.2))
    else (zbind (F_X11_step fu p3) fun zo14 =>
    zbind (F_X11_step fu p3) fun zo15 =>
    zbind (F_X11_times (10000 * (Int32.toInt64 p1)) ((Int32.toInt64 p2) * zo15) p4) fun zo16 =>
    zbind (F_X11_takesIn mm (zo14 * zo16) p3 p4) fun zo17 =>
    some (zo17.1, zo17.2, mthr))))))
def F_X11_addQuotient (fu : Nat) (mm : Nat → Int64) (masd : Nat → Int64) (mpst : Nat → Int64) (mchg : Int32) (mthr : Int32) (p1 : Int32) (p2 : Int32) (p3 : Int32) (p4 : Int32) : Option (Int32 × (Nat → Int64) × (Nat → Int64) × (Nat → Int64) × Int32 × Int32) :=
    zbind (F_X11_starts fu mm masd mthr) fun zo1 =>
    zbind (F_X11_overIt fu mm zo1.2 p1 p2 p3 p4) fun zo2 =>
    zbind (F_X11_ends fu zo1.1 mpst mchg zo2.2.2) fun zo3 =>
    some (zo2.1, zo2.2.1, zo1.1, zo3.1, zo3.2, zo2.2.2)
def F_X11_freeIt_69 (fu : Nat) : Nat → (Nat → Int64) → Int32 → Int64 → Int32 → Option (Int64 × (Nat → Int64) × Int32)
  | 0 => fun _ _ _ _ => none
  | n + 1 => fun mm mthr x3 x5 =>
    if 28 ≤ x5 then (some (x3, (vp_updL mm (Int32.toNatClampNeg 0) ((mm (Int32.toNatClampNeg 0)) - 1)), mthr))
    else (if x5 < 0 ∨ 28 ≤ Int32.toNatClampNeg x5 then none else
    zlet (x5 + 1) fun zv3 =>
    (F_X11_freeIt_69 fu n) (vp_updL mm (Int32.toNatClampNeg x5) 0) mthr x3 zv3)
def F_X11_freeIt_36 (fu : Nat) : Nat → (Nat → Int64) → Int32 → Int64 → Int32 → Option (Int64 × (Nat → Int64) × Int32)
  | 0 => fun _ _ _ _ => none
  | n + 1 => fun mm mthr x3 x5 =>
    if 24 ≤ x5 then (F_X11_freeIt_69 fu fu mm mthr x3 24)
    else (if (x5 + 4) < 0 ∨ 28 ≤ Int32.toNatClampNeg (x5 + 4) then none else
    if x5 < 0 ∨ 28 ≤ Int32.toNatClampNeg x5 then none else
    zlet (x5 + 1) fun zv7 =>
    (F_X11_freeIt_36 fu n) (vp_updL mm (Int32.toNatClampNeg x5) (mm (Int32.toNatClampNeg (x5 + 4)))) mthr x3 zv7)
def F_X11_freeIt (fu : Nat) (mm : Nat → Int64) (mthr : Int32) (p1 : Int32) : Option (Int64 × (Nat → Int64) × Int32) :=
    zbind (F_X11_find fu mm p1) fun zo8 =>
    if zo8 = (-1) then (zbind (F_X11_throwing mthr 1) fun zo14 =>
    some ((Int32.toInt64 zo14.1), mm, zo14.2))
    else (zbind (F_X11_at zo8) fun zo10 =>
    if (zo10 + 1) < 0 ∨ 28 ≤ Int32.toNatClampNeg (zo10 + 1) then none else
    zlet (mm (Int32.toNatClampNeg (zo10 + 1))) fun zv12 =>
    zbind (F_X11_at zo8) fun zo13 =>
    F_X11_freeIt_36 fu fu mm mthr zv12 zo13)
def F_X11_remove (fu : Nat) (mm : Nat → Int64) (masd : Nat → Int64) (mpst : Nat → Int64) (mchg : Int32) (mthr : Int32) (p1 : Int32) : Option (Int64 × (Nat → Int64) × (Nat → Int64) × (Nat → Int64) × Int32 × Int32) :=
    zbind (F_X11_starts fu mm masd mthr) fun zo1 =>
    zbind (F_X11_freeIt fu mm zo1.2 p1) fun zo2 =>
    zbind (F_X11_ends fu zo1.1 mpst mchg zo2.2.2) fun zo3 =>
    some (zo2.1, zo2.2.1, zo1.1, zo3.1, zo3.2, zo2.2.2)
def F_X11_feedIt (fu : Nat) (mm : Nat → Int64) (mthr : Int32) (p1 : Int32) (p2 : Int32) (p3 : Int32) : Option (Int64 × (Nat → Int64) × Int32) :=
    zbind (F_X11_find fu mm p1) fun zo1 =>
    if zo1 = (-1) then (zbind (F_X11_throwing mthr 1) fun zo12 =>
    some ((Int32.toInt64 zo12.1), mm, zo12.2))
    else (zbind (F_X11_isAmount p2 p3) fun zo3 =>
    if zo3 = 0 then (zbind (F_X11_throwing mthr 2) fun zo11 =>
    some ((Int32.toInt64 zo11.1), mm, zo11.2))
    else (zbind (F_X11_at zo1) fun zo5 =>
    if (zo5 + 1) < 0 ∨ 28 ≤ Int32.toNatClampNeg (zo5 + 1) then none else
    zbind (F_X11_units p2 p3) fun zo7 =>
    zbind (F_X11_becomes fu mm zo1 ((mm (Int32.toNatClampNeg (zo5 + 1))) + zo7)) fun zo8 =>
    zbind (F_X11_at zo1) fun zo9 =>
    if (zo9 + 1) < 0 ∨ 28 ≤ Int32.toNatClampNeg (zo9 + 1) then none else
    some ((zo8 (Int32.toNatClampNeg (zo9 + 1))), zo8, mthr)))
def F_X11_feed (fu : Nat) (mm : Nat → Int64) (masd : Nat → Int64) (mpst : Nat → Int64) (mchg : Int32) (mthr : Int32) (p1 : Int32) (p2 : Int32) (p3 : Int32) : Option (Int64 × (Nat → Int64) × (Nat → Int64) × (Nat → Int64) × Int32 × Int32) :=
    zbind (F_X11_starts fu mm masd mthr) fun zo1 =>
    zbind (F_X11_feedIt fu mm zo1.2 p1 p2 p3) fun zo2 =>
    zbind (F_X11_ends fu zo1.1 mpst mchg zo2.2.2) fun zo3 =>
    some (zo2.1, zo2.2.1, zo1.1, zo3.1, zo3.2, zo2.2.2)
def F_X11_tradeIt (fu : Nat) (mm : Nat → Int64) (mthr : Int32) (p1 : Int32) (p2 : Int32) (p3 : Int32) (p4 : Int32) : Option (Int64 × (Nat → Int64) × Int32) :=
    zbind (F_X11_find fu mm p1) fun zo1 =>
    zbind (F_X11_find fu mm p2) fun zo2 =>
    if zo1 = (-1) then (zbind (F_X11_throwing mthr 1) fun zo4 =>
    some ((Int32.toInt64 zo4.1), mm, zo4.2))
    else (if zo2 = (-1) then (zbind (F_X11_throwing mthr 1) fun zo30 =>
    some ((Int32.toInt64 zo30.1), mm, zo30.2))
    else (if zo1 = zo2 then (zbind (F_X11_throwing mthr 2) fun zo7 =>
    some ((Int32.toInt64 zo7.1), mm, zo7.2))
    else (zbind (F_X11_isAmount p3 p4) fun zo8 =>
    if zo8 = 0 then (zbind (F_X11_throwing mthr 2) fun zo29 =>
    some ((Int32.toInt64 zo29.1), mm, zo29.2))
    else (zbind (F_X11_units p3 p4) fun zo10 =>
    zbind (F_X11_at zo1) fun zo11 =>
    if (zo11 + 1) < 0 ∨ 28 ≤ Int32.toNatClampNeg (zo11 + 1) then none else
    if (mm (Int32.toNatClampNeg (zo11 + 1))) < zo10 then (zbind (F_X11_throwing mthr 3) fun zo28 =>
    some ((Int32.toInt64 zo28.1), mm, zo28.2))
    else (zbind (F_X11_at zo1) fun zo14 =>
    if (zo14 + 2) < 0 ∨ 28 ≤ Int32.toNatClampNeg (zo14 + 2) then none else
    zbind (F_X11_step fu (Int64.toInt32 (mm (Int32.toNatClampNeg (zo14 + 2))))) fun zo16 =>
    if zo16 = 0 then none else
    if 0 < (zo10 - zo10 / zo16 * zo16) then (zbind (F_X11_throwing mthr 4) fun zo27 =>
    some ((Int32.toInt64 zo27.1), mm, zo27.2))
    else (zbind (F_X11_at zo1) fun zo19 =>
    if (zo19 + 1) < 0 ∨ 28 ≤ Int32.toNatClampNeg (zo19 + 1) then none else
    if (zo19 + 1) < 0 ∨ 28 ≤ Int32.toNatClampNeg (zo19 + 1) then none else
    zbind (F_X11_at zo2) fun zo22 =>
    if (zo22 + 1) < 0 ∨ 28 ≤ Int32.toNatClampNeg (zo22 + 1) then none else
    zbind (F_X11_becomes fu (vp_updL mm (Int32.toNatClampNeg (zo19 + 1)) ((mm (Int32.toNatClampNeg (zo19 + 1))) - zo10)) zo2 (((vp_updL mm (Int32.toNatClampNeg (zo19 + 1)) ((mm (Int32.toNatClampNeg (zo19 + 1))) - zo10)) (Int32.toNatClampNeg (zo22 + 1))) + zo10)) fun zo24 =>
    zbind (F_X11_at zo2) fun zo25 =>
    if (zo25 + 1) < 0 ∨ 28 ≤ Int32.toNatClampNeg (zo25 + 1) then none else
    some ((zo24 (Int32.toNatClampNeg (zo25 + 1))), zo24, mthr)))))))
def F_X11_trade (fu : Nat) (mm : Nat → Int64) (masd : Nat → Int64) (mpst : Nat → Int64) (mchg : Int32) (mthr : Int32) (p1 : Int32) (p2 : Int32) (p3 : Int32) (p4 : Int32) : Option (Int64 × (Nat → Int64) × (Nat → Int64) × (Nat → Int64) × Int32 × Int32) :=
    zbind (F_X11_starts fu mm masd mthr) fun zo1 =>
    zbind (F_X11_tradeIt fu mm zo1.2 p1 p2 p3 p4) fun zo2 =>
    zbind (F_X11_ends fu zo1.1 mpst mchg zo2.2.2) fun zo3 =>
    some (zo2.1, zo2.2.1, zo1.1, zo3.1, zo3.2, zo2.2.2)
def F_X11_scaleIt (fu : Nat) (mm : Nat → Int64) (mthr : Int32) (p1 : Int32) (p2 : Int32) : Option (Int32 × (Nat → Int64) × Int32) :=
    zbind (F_X11_find fu mm p1) fun zo1 =>
    if zo1 = (-1) then (zbind (F_X11_throwing mthr 1) fun zo14 =>
    some (zo14.1, mm, zo14.2))
    else (zbind (F_X11_isScale p2) fun zo3 =>
    if zo3 = 0 then (zbind (F_X11_throwing mthr 2) fun zo13 =>
    some (zo13.1, mm, zo13.2))
    else (zbind (F_X11_at zo1) fun zo5 =>
    if (zo5 + 2) < 0 ∨ 28 ≤ Int32.toNatClampNeg (zo5 + 2) then none else
    zlet (Int64.toInt32 (mm (Int32.toNatClampNeg (zo5 + 2)))) fun zv7 =>
    zbind (F_X11_at zo1) fun zo8 =>
    if (zo8 + 2) < 0 ∨ 28 ≤ Int32.toNatClampNeg (zo8 + 2) then none else
    zbind (F_X11_at zo1) fun zo10 =>
    if (zo10 + 1) < 0 ∨ 28 ≤ Int32.toNatClampNeg (zo10 + 1) then none else
    zbind (F_X11_becomes fu (vp_updL mm (Int32.toNatClampNeg (zo8 + 2)) (Int32.toInt64 p2)) zo1 ((vp_updL mm (Int32.toNatClampNeg (zo8 + 2)) (Int32.toInt64 p2)) (Int32.toNatClampNeg (zo10 + 1)))) fun zo12 =>
    some (zv7, zo12, mthr)))
def F_X11_setScale (fu : Nat) (mm : Nat → Int64) (masd : Nat → Int64) (mpst : Nat → Int64) (mchg : Int32) (mthr : Int32) (p1 : Int32) (p2 : Int32) : Option (Int32 × (Nat → Int64) × (Nat → Int64) × (Nat → Int64) × Int32 × Int32) :=
    zbind (F_X11_starts fu mm masd mthr) fun zo1 =>
    zbind (F_X11_scaleIt fu mm zo1.2 p1 p2) fun zo2 =>
    zbind (F_X11_ends fu zo1.1 mpst mchg zo2.2.2) fun zo3 =>
    some (zo2.1, zo2.2.1, zo1.1, zo3.1, zo3.2, zo2.2.2)
def F_X11_modeIt (fu : Nat) (mm : Nat → Int64) (mthr : Int32) (p1 : Int32) (p2 : Int32) : Option (Int32 × (Nat → Int64) × Int32) :=
    zbind (F_X11_find fu mm p1) fun zo1 =>
    if zo1 = (-1) then (zbind (F_X11_throwing mthr 1) fun zo11 =>
    some (zo11.1, mm, zo11.2))
    else (zbind (F_X11_isMode p2) fun zo3 =>
    if zo3 = 0 then (zbind (F_X11_throwing mthr 2) fun zo10 =>
    some (zo10.1, mm, zo10.2))
    else (zbind (F_X11_at zo1) fun zo5 =>
    if (zo5 + 3) < 0 ∨ 28 ≤ Int32.toNatClampNeg (zo5 + 3) then none else
    zlet (Int64.toInt32 (mm (Int32.toNatClampNeg (zo5 + 3)))) fun zv7 =>
    zbind (F_X11_at zo1) fun zo8 =>
    if (zo8 + 3) < 0 ∨ 28 ≤ Int32.toNatClampNeg (zo8 + 3) then none else
    some (zv7, (vp_updL mm (Int32.toNatClampNeg (zo8 + 3)) (Int32.toInt64 p2)), mthr)))
def F_X11_setMode (fu : Nat) (mm : Nat → Int64) (masd : Nat → Int64) (mpst : Nat → Int64) (mchg : Int32) (mthr : Int32) (p1 : Int32) (p2 : Int32) : Option (Int32 × (Nat → Int64) × (Nat → Int64) × (Nat → Int64) × Int32 × Int32) :=
    zbind (F_X11_starts fu mm masd mthr) fun zo1 =>
    zbind (F_X11_modeIt fu mm zo1.2 p1 p2) fun zo2 =>
    zbind (F_X11_ends fu zo1.1 mpst mchg zo2.2.2) fun zo3 =>
    if ¬ (0 ≤ (zchar zo2.1) ∧ (zchar zo2.1) ≤ 65535) then none else
    some ((zchar zo2.1), zo2.2.1, zo1.1, zo3.1, zo3.2, zo2.2.2)
def F_X11_togetherIt_143 (k21 : (Nat → Int64) → Int32 → (Nat → Int32) → Int32 → Int32 → Int32 → Option (Int32 × (Nat → Int64) × Int32 × (Nat → Int32))) (fu : Nat) (mm : Nat → Int64) (mthr : Int32) (mUp : Nat → Int32) (p1 : Int32) (x2 : Int32) (x3 : Int32) (y1 : Int32) (y2 : Int64) : Option (Int32 × (Nat → Int64) × Int32 × (Nat → Int32)) :=
  if y1 < 0 ∨ 28 ≤ Int32.toNatClampNeg y1 then none else
    zbind (F_X11_at x3) fun zo2 =>
    zbind (F_X11_at x3) fun zo3 =>
    if (zo3 + 2) < 0 ∨ 28 ≤ Int32.toNatClampNeg (zo3 + 2) then none else
    zlet (if (Int32.toInt64 p1) < ((vp_updL mm (Int32.toNatClampNeg y1) y2) (Int32.toNatClampNeg (zo3 + 2))) then (Int32.toInt64 p1) else ((vp_updL mm (Int32.toNatClampNeg y1) y2) (Int32.toNatClampNeg (zo3 + 2)))) fun zv5 =>
    if (zo2 + 2) < 0 ∨ 28 ≤ Int32.toNatClampNeg (zo2 + 2) then none else
    zlet (x3 + 1) fun zv7 =>
    k21 (vp_updL (vp_updL mm (Int32.toNatClampNeg y1) y2) (Int32.toNatClampNeg (zo2 + 2)) zv5) mthr mUp p1 x2 zv7
def F_X11_togetherIt_111 (k21 : (Nat → Int64) → Int32 → (Nat → Int32) → Int32 → Int32 → Int32 → Option (Int32 × (Nat → Int64) × Int32 × (Nat → Int32))) (fu : Nat) (mm : Nat → Int64) (mthr : Int32) (mUp : Nat → Int32) (p1 : Int32) (x2 : Int32) (x3 : Int32) (x4 : Int64) (y1 : Int32) (y2 : Int64) (y3 : Int64) : Option (Int32 × (Nat → Int64) × Int32 × (Nat → Int32)) :=
  if y1 < 0 ∨ 28 ≤ Int32.toNatClampNeg y1 then none else
    zbind (F_X11_at x3) fun zo9 =>
    if x4 < 10000000000 then (F_X11_togetherIt_143 k21 fu (vp_updL mm (Int32.toNatClampNeg y1) (y2 + y3)) mthr mUp p1 x2 x3 (zo9 + 1) x4)
    else (F_X11_togetherIt_143 k21 fu (vp_updL mm (Int32.toNatClampNeg y1) (y2 + y3)) mthr mUp p1 x2 x3 (zo9 + 1) (x4 - 10000000000))
def F_X11_togetherIt_64 (k21 : (Nat → Int64) → Int32 → (Nat → Int32) → Int32 → Int32 → Int32 → Option (Int32 × (Nat → Int64) × Int32 × (Nat → Int32))) (fu : Nat) (mm : Nat → Int64) (mthr : Int32) (mUp : Nat → Int32) (p1 : Int32) (x2 : Int32) (x3 : Int32) (y0 : Int64) (y1 : Int64) : Option (Int32 × (Nat → Int64) × Int32 × (Nat → Int32)) :=
  zlet (y0 + y1) fun zv11 =>
    zbind (F_X11_at x3) fun zo12 =>
    if (zo12 + 1) < 0 ∨ 28 ≤ Int32.toNatClampNeg (zo12 + 1) then none else
    zlet ((mm (Int32.toNatClampNeg 3)) + (zv11 - (mm (Int32.toNatClampNeg (zo12 + 1))))) fun zv14 =>
    if zv11 < 10000000000 then (F_X11_togetherIt_111 k21 fu (vp_updL mm (Int32.toNatClampNeg 3) zv14) mthr mUp p1 x2 x3 zv11 2 ((vp_updL mm (Int32.toNatClampNeg 3) zv14) (Int32.toNatClampNeg 2)) 0)
    else (F_X11_togetherIt_111 k21 fu (vp_updL mm (Int32.toNatClampNeg 3) zv14) mthr mUp p1 x2 x3 zv11 2 ((vp_updL mm (Int32.toNatClampNeg 3) zv14) (Int32.toNatClampNeg 2)) 1)
def F_X11_togetherIt_21 (fu : Nat) : Nat → (Nat → Int64) → Int32 → (Nat → Int32) → Int32 → Int32 → Int32 → Option (Int32 × (Nat → Int64) × Int32 × (Nat → Int32))
  | 0 => fun _ _ _ _ _ _ => none
  | n + 1 => fun mm mthr mUp p1 x2 x3 =>
    zbind (F_X11_many mm) fun zo16 =>
    if zo16 ≤ x3 then (some (x2, mm, mthr, mUp))
    else (zbind (F_X11_at x3) fun zo18 =>
    if (zo18 + 1) < 0 ∨ 28 ≤ Int32.toNatClampNeg (zo18 + 1) then none else
    zbind (F_X11_rest fu mm x3 p1) fun zo20 =>
    if x3 < 0 ∨ 6 ≤ Int32.toNatClampNeg x3 then none else
    if (mUp (Int32.toNatClampNeg x3)) = 0 then (F_X11_togetherIt_64 (F_X11_togetherIt_21 fu n) fu mm mthr mUp p1 x2 x3 ((mm (Int32.toNatClampNeg (zo18 + 1))) - zo20) 0)
    else (zbind (F_X11_step fu p1) fun zo23 =>
    F_X11_togetherIt_64 (F_X11_togetherIt_21 fu n) fu mm mthr mUp p1 x2 x3 ((mm (Int32.toNatClampNeg (zo18 + 1))) - zo20) zo23))
def F_X11_togetherIt (fu : Nat) (mm : Nat → Int64) (mthr : Int32) (mUp : Nat → Int32) (p1 : Int32) : Option (Int32 × (Nat → Int64) × Int32 × (Nat → Int32)) :=
    zbind (F_X11_isScale p1) fun zo24 =>
    if zo24 = 0 then (zbind (F_X11_throwing mthr 1) fun zo27 =>
    some (zo27.1, mm, zo27.2, mUp))
    else (zbind (F_X11_chooses fu mm mUp p1) fun zo26 =>
    F_X11_togetherIt_21 fu fu mm mthr zo26.2 p1 zo26.1 0)
def F_X11_roundTogether (fu : Nat) (mm : Nat → Int64) (masd : Nat → Int64) (mpst : Nat → Int64) (mchg : Int32) (mthr : Int32) (mUp : Nat → Int32) (p1 : Int32) : Option (Int32 × (Nat → Int64) × (Nat → Int64) × (Nat → Int64) × Int32 × Int32 × (Nat → Int32)) :=
    zbind (F_X11_starts fu mm masd mthr) fun zo1 =>
    zbind (F_X11_togetherIt fu mm zo1.2 mUp p1) fun zo2 =>
    zbind (F_X11_ends fu zo1.1 mpst mchg zo2.2.2.1) fun zo3 =>
    some (zo2.1, zo2.2.1, zo1.1, zo3.1, zo3.2, zo2.2.2.1, zo2.2.2.2)
def F_X11_count (mm : Nat → Int64) (mthr : Int32) : Option (Int32 × Int32) :=
    zbind (F_X11_many mm) fun zo1 =>
    some (zo1, 0)
def F_X11_numberAt (mm : Nat → Int64) (mthr : Int32) (p1 : Int32) : Option (Int32 × Int32) :=
    zbind (F_X11_many mm) fun zo1 =>
    zbind (F_X11_in (Int32.toInt64 p1) 0 (Int32.toInt64 (zo1 - 1))) fun zo2 =>
    if zo2 = 0 then (zbind (F_X11_throwing 0 1) fun zo4 =>
    some (zo4.1, zo4.2))
    else (zbind (F_X11_at p1) fun zo5 =>
    if zo5 < 0 ∨ 28 ≤ Int32.toNatClampNeg zo5 then none else
    some ((Int64.toInt32 (mm (Int32.toNatClampNeg zo5))), 0))
