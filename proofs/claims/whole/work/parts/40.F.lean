def F_X10_requirePosition_2 (fu : Nat) : Nat → SS → Int32 → Int32 → Option (Except (Nat × (Unit)) (Int32))
  | 0 => fun _ _ _ => none
  | n + 1 => fun st p1 x2 =>
    if (s_cnt st) ≤ x2 then (some (.error (3, ())))
    else (if x2 < 0 ∨ 6 ≤ Int32.toNatClampNeg x2 then none else
    if ((s_ids st) (Int32.toNatClampNeg x2)) = p1 then (some (.ok x2))
    else (zlet (x2 + 1) fun zv4 =>
    (F_X10_requirePosition_2 fu n) st p1 zv4))
def F_X10_requirePosition (fu : Nat) (st : SS) (p1 : Int32) : Option (Except (Nat × (Unit)) (Int32)) :=
    F_X10_requirePosition_2 fu fu st p1 0
def F_X10_requireRoom (st : SS) : Option (Except (Nat × (Unit)) (Unit)) :=
    if (s_cnt st) < 6 then (some (.ok ()))
    else (some (.error (1, ())))
def F_X10_count (st : SS) : Option (Int32) :=
    some (s_cnt st)
def F_X10_numberAt (st : SS) (p1 : Int32) : Option (Except (Nat × (Unit)) (Int32)) :=
    if p1 < 0 then (some (.error (4, ())))
    else (if p1 < (s_cnt st) then (if p1 < 0 ∨ 6 ≤ Int32.toNatClampNeg p1 then none else
    some (.ok ((s_ids st) (Int32.toNatClampNeg p1))))
    else (some (.error (4, ()))))
def F_X10_value (fu : Nat) (st : SS) (p1 : Int32) : Option (Except (Nat × (Unit)) (Int64)) :=
    zbind (F_X10_requirePosition fu st p1) fun zo1 => zcase zo1 (fun za1 =>
    if za1 < 0 ∨ 6 ≤ Int32.toNatClampNeg za1 then none else
    some (.ok ((s_vals st) (Int32.toNatClampNeg za1))))
    (fun zw1 => some (.error (zw1.1, ())))
def F_X10_scale (fu : Nat) (st : SS) (p1 : Int32) : Option (Except (Nat × (Unit)) (Int32)) :=
    zbind (F_X10_requirePosition fu st p1) fun zo1 => zcase zo1 (fun za1 =>
    if za1 < 0 ∨ 6 ≤ Int32.toNatClampNeg za1 then none else
    some (.ok ((s_scs st) (Int32.toNatClampNeg za1))))
    (fun zw1 => some (.error (zw1.1, ())))
def F_X10_mode (fu : Nat) (st : SS) (p1 : Int32) : Option (Except (Nat × (Unit)) (Int32)) :=
    zbind (F_X10_requirePosition fu st p1) fun zo1 => zcase zo1 (fun za1 =>
    if za1 < 0 ∨ 6 ≤ Int32.toNatClampNeg za1 then none else
    if ¬ (0 ≤ ((s_mds st) (Int32.toNatClampNeg za1)) ∧ ((s_mds st) (Int32.toNatClampNeg za1)) ≤ 65535) then none else
    some (.ok ((s_mds st) (Int32.toNatClampNeg za1))))
    (fun zw1 => some (.error (zw1.1, ())))
def F_X10_digit (fu : Nat) (st : SS) (p1 : Int32) (p2 : Int32) : Option (Except (Nat × (Unit)) (Int32)) :=
    zbind (F_X10_requirePosition fu st p1) fun zo1 => zcase zo1 (fun za1 =>
    if p2 < (-4) then (some (.error (4, ())))
    else (if p2 < 6 then (if za1 < 0 ∨ 6 ≤ Int32.toNatClampNeg za1 then none else
    zbind (F_X10_digitAt fu ((s_vals st) (Int32.toNatClampNeg za1)) (p2 + 4)) fun zo5 =>
    some (.ok zo5))
    else (some (.error (4, ())))))
    (fun zw1 => some (.error (zw1.1, ())))
def F_X10_digitSum (fu : Nat) (st : SS) (p1 : Int32) : Option (Except (Nat × (Unit)) (Int32)) :=
    zbind (F_X10_requirePosition fu st p1) fun zo1 => zcase zo1 (fun za1 =>
    if za1 < 0 ∨ 6 ≤ Int32.toNatClampNeg za1 then none else
    zbind (F_X10_sumOfDigits fu ((s_vals st) (Int32.toNatClampNeg za1))) fun zo3 =>
    some (.ok zo3))
    (fun zw1 => some (.error (zw1.1, ())))
def F_X10_numberAtRank_2 (fu : Nat) : Nat → SS → Int32 → Int32 → Option (Except (Nat × (Unit)) (Int32))
  | 0 => fun _ _ _ => none
  | n + 1 => fun st p1 x2 =>
    if (s_cnt st) ≤ x2 then (some (.error (4, ())))
    else (zbind (F_X8_rankOf fu st x2) fun zo2 =>
    if zo2 = p1 then (if x2 < 0 ∨ 6 ≤ Int32.toNatClampNeg x2 then none else
    some (.ok ((s_ids st) (Int32.toNatClampNeg x2))))
    else (zlet (x2 + 1) fun zv4 =>
    (F_X10_numberAtRank_2 fu n) st p1 zv4))
def F_X10_numberAtRank (fu : Nat) (st : SS) (p1 : Int32) : Option (Except (Nat × (Unit)) (Int32)) :=
    F_X10_numberAtRank_2 fu fu st p1 0
def F_X10_rounded (fu : Nat) (st : SS) (p1 : Int32) (p2 : Int32) (p3 : Int32) : Option (Except (Nat × (Unit)) (Int64)) :=
    zbind (F_X10_requirePosition fu st p1) fun zo1 => zcase zo1 (fun za1 =>
    zbind (F_X10_requireScale p2) fun zo2 => zcase zo2 (fun za2 =>
    zbind (F_X10_requireMode fu p3) fun zo3 => zcase zo3 (fun za3 =>
    if za1 < 0 ∨ 6 ≤ Int32.toNatClampNeg za1 then none else
    zbind (F_X7_ofSum ((s_vals st) (Int32.toNatClampNeg za1)) p2 p3) fun zo5 =>
    some (.ok zo5))
    (fun zw3 => some (.error (zw3.1, ()))))
    (fun zw2 => some (.error (zw2.1, ()))))
    (fun zw1 => some (.error (zw1.1, ())))
def F_X10_part (fu : Nat) (st : SS) (p1 : Int32) (p2 : Int32) (p3 : Int32) : Option (Except (Nat × (Unit)) (Int64)) :=
    zbind (F_X10_requirePosition fu st p1) fun zo1 => zcase zo1 (fun za1 =>
    if p2 < 1 then (some (.error (0, ())))
    else (if p2 ≤ 9 then (if p3 < 0 then (some (.error (4, ())))
    else (if p3 < p2 then (if za1 < 0 ∨ 6 ≤ Int32.toNatClampNeg za1 then none else
    zbind (F_X7_stepOf ((s_scs st) (Int32.toNatClampNeg za1))) fun zo7 =>
    if za1 < 0 ∨ 6 ≤ Int32.toNatClampNeg za1 then none else
    if zo7 = 0 then none else
    zlet (((s_vals st) (Int32.toNatClampNeg za1)) / zo7) fun zv10 =>
    if (Int32.toInt64 p2) = 0 then none else
    zlet (zv10 - zv10 / (Int32.toInt64 p2) * (Int32.toInt64 p2)) fun zv12 =>
    if (Int32.toInt64 p2) = 0 then none else
    if (Int32.toInt64 p3) < zv12 then (some (.ok (((zv10 / (Int32.toInt64 p2)) + (Int32.toInt64 1)) * zo7)))
    else (some (.ok (((zv10 / (Int32.toInt64 p2)) + (Int32.toInt64 0)) * zo7))))
    else (some (.error (4, ())))))
    else (some (.error (0, ())))))
    (fun zw1 => some (.error (zw1.1, ())))
def F_X10_carries (fu : Nat) (st : SS) (p1 : Int32) (p2 : Int32) (p3 : Int32) : Option (Except (Nat × (Unit)) (Int32)) :=
    zbind (F_X10_requirePosition fu st p1) fun zo1 => zcase zo1 (fun za1 =>
    zbind (F_X10_requireAmount p2 p3) fun zo2 => zcase zo2 (fun za2 =>
    if za1 < 0 ∨ 6 ≤ Int32.toNatClampNeg za1 then none else
    zbind (F_X10_unitsOf p2 p3) fun zo4 =>
    zbind (F_X10_carryingPlaces fu ((s_vals st) (Int32.toNatClampNeg za1)) zo4) fun zo5 =>
    zbind (F_J6_bitCount_0f7a4 zo5) fun zo6 =>
    some (.ok zo6))
    (fun zw2 => some (.error (zw2.1, ()))))
    (fun zw1 => some (.error (zw1.1, ())))
def F_X10_carriesBySums (fu : Nat) (st : SS) (p1 : Int32) (p2 : Int32) (p3 : Int32) : Option (Except (Nat × (Unit)) (Int32)) :=
    zbind (F_X10_requirePosition fu st p1) fun zo1 => zcase zo1 (fun za1 =>
    zbind (F_X10_requireAmount p2 p3) fun zo2 => zcase zo2 (fun za2 =>
    if za1 < 0 ∨ 6 ≤ Int32.toNatClampNeg za1 then none else
    zbind (F_X10_unitsOf p2 p3) fun zo4 =>
    zbind (F_X10_carriesByDigitSums fu ((s_vals st) (Int32.toNatClampNeg za1)) zo4) fun zo5 =>
    some (.ok zo5))
    (fun zw2 => some (.error (zw2.1, ()))))
    (fun zw1 => some (.error (zw1.1, ())))
def F_X10_longestCarry_41 (fu : Nat) : Nat → SS → Int32 → Int32 → Int32 → Int32 → Option (Except (Nat × (Unit)) (Int32))
  | 0 => fun _ _ _ _ _ => none
  | n + 1 => fun st x5 x6 x7 x8 =>
    if 10 ≤ x8 then (some (.ok x6))
    else (if ((x5 >>> (x8 &&& 31)) &&& 1) = 1 then (zlet (x7 + 1) fun zv5 =>
    zlet (if x6 < zv5 then zv5 else x6) fun zv6 =>
    zlet (x8 + 1) fun zv7 =>
    (F_X10_longestCarry_41 fu n) st x5 zv6 zv5 zv7)
    else (zlet (if x6 < 0 then 0 else x6) fun zv3 =>
    zlet (x8 + 1) fun zv4 =>
    (F_X10_longestCarry_41 fu n) st x5 zv3 0 zv4))
def F_X10_longestCarry (fu : Nat) (st : SS) (p1 : Int32) (p2 : Int32) (p3 : Int32) : Option (Except (Nat × (Unit)) (Int32)) :=
    zbind (F_X10_requirePosition fu st p1) fun zo8 => zcase zo8 (fun za8 =>
    zbind (F_X10_requireAmount p2 p3) fun zo9 => zcase zo9 (fun za9 =>
    if za8 < 0 ∨ 6 ≤ Int32.toNatClampNeg za8 then none else
    zbind (F_X10_unitsOf p2 p3) fun zo11 =>
    zbind (F_X10_carryingPlaces fu ((s_vals st) (Int32.toNatClampNeg za8)) zo11) fun zo12 =>
    F_X10_longestCarry_41 fu fu st zo12 0 0 0)
    (fun zw9 => some (.error (zw9.1, ()))))
    (fun zw8 => some (.error (zw8.1, ())))
def F_X10_togetherError (fu : Nat) (st : SS) (p1 : Int32) : Option (Except (Nat × (Unit)) (Int64)) :=
    zbind (F_X10_requireScale p1) fun zo1 => zcase zo1 (fun za1 =>
    zbind (F_X9_bestChoice fu st p1) fun zo2 =>
    zbind (F_X9_errorOf fu st p1 zo2) fun zo3 =>
    some (.ok zo3))
    (fun zw1 => some (.error (zw1.1, ())))
def F_X10_togetherErrorBySets (fu : Nat) (st : SS) (p1 : Int32) : Option (Except (Nat × (Unit)) (Int64)) :=
    zbind (F_X10_requireScale p1) fun zo1 => zcase zo1 (fun za1 =>
    zbind (F_X9_leastErrorOfSets fu st p1) fun zo2 =>
    some (.ok zo2))
    (fun zw1 => some (.error (zw1.1, ())))
def F_X10_goesUp (fu : Nat) (st : SS) (p1 : Int32) (p2 : Int32) : Option (Except (Nat × (Unit)) (Int32)) :=
    zbind (F_X10_requirePosition fu st p1) fun zo1 => zcase zo1 (fun za1 =>
    zbind (F_X10_requireScale p2) fun zo2 => zcase zo2 (fun za2 =>
    zbind (F_X9_bestChoice fu st p2) fun zo3 =>
    zbind (F_X9_isUp zo3 za1) fun zo4 =>
    if ¬ (zo4 = 0 ∨ zo4 = 1) then none else
    some (.ok zo4))
    (fun zw2 => some (.error (zw2.1, ()))))
    (fun zw1 => some (.error (zw1.1, ())))
def F_X10_quotientDigit_35 (fu : Nat) : Nat → Int32 → Int32 → Int32 → Int32 → Option (Except (Nat × (Unit)) (Int32))
  | 0 => fun _ _ _ _ => none
  | n + 1 => fun p2 p3 x4 x5 =>
    if p3 ≤ x5 then (if p2 = 0 then none else
    some (.ok ((x4 * 10) / p2)))
    else (if p2 = 0 then none else
    zlet ((x4 * 10) - (x4 * 10) / p2 * p2) fun zv4 =>
    zlet (x5 + 1) fun zv5 =>
    (F_X10_quotientDigit_35 fu n) p2 p3 zv4 zv5)
def F_X10_quotientDigit (fu : Nat) (p1 : Int32) (p2 : Int32) (p3 : Int32) : Option (Except (Nat × (Unit)) (Int32)) :=
    zbind (F_X10_requireQuotient p1 p2) fun zo6 => zcase zo6 (fun za6 =>
    if p3 < 1 then (some (.error (4, ())))
    else (if p3 ≤ 9999 then (if p2 = 0 then none else
    zlet (p1 - p1 / p2 * p2) fun zv10 =>
    F_X10_quotientDigit_35 fu fu p2 p3 zv10 1)
    else (some (.error (4, ())))))
    (fun zw6 => some (.error (zw6.1, ())))
def F_X10_preperiod (fu : Nat) (seen : Nat → Int32) (dbef : Int32) (drec : Int32) (p1 : Int32) (p2 : Int32) : Option (Except (Nat × ((Nat → Int32) × Int32 × Int32)) (Int32 × (Nat → Int32) × Int32 × Int32)) :=
    zbind (F_X10_requireQuotient p1 p2) fun zo1 => zcase zo1 (fun za1 =>
    zbind (F_X5_divide fu seen dbef drec p1 p2) fun zo2 =>
    some (.ok (zo2.2.1, zo2.1, zo2.2.1, zo2.2.2)))
    (fun zw1 => some (.error (zw1.1, (seen, dbef, drec))))
def F_X10_period (fu : Nat) (seen : Nat → Int32) (dbef : Int32) (drec : Int32) (p1 : Int32) (p2 : Int32) : Option (Except (Nat × ((Nat → Int32) × Int32 × Int32)) (Int32 × (Nat → Int32) × Int32 × Int32)) :=
    zbind (F_X10_requireQuotient p1 p2) fun zo1 => zcase zo1 (fun za1 =>
    zbind (F_X5_divide fu seen dbef drec p1 p2) fun zo2 =>
    some (.ok (zo2.2.2, zo2.1, zo2.2.1, zo2.2.2)))
    (fun zw1 => some (.error (zw1.1, (seen, dbef, drec))))
def F_X10_periodByPowers (fu : Nat) (p1 : Int32) (p2 : Int32) : Option (Except (Nat × (Unit)) (Int32)) :=
    zbind (F_X10_requireQuotient p1 p2) fun zo1 => zcase zo1 (fun za1 =>
    zbind (F_X5_recurringFactor fu p1 p2) fun zo2 =>
    zbind (F_X5_orderOfTen fu zo2) fun zo3 =>
    some (.ok zo3))
    (fun zw1 => some (.error (zw1.1, ())))
def F_X10_total (fu : Nat) (st : SS) : Option (Int64) :=
    zbind (F_X8_sumOfValues fu st) fun zo1 =>
    some zo1
def F_X10_totalByAccounts (st : SS) : Option (Int64) :=
    zbind (F_X8_sumByAccounts st) fun zo1 =>
    some zo1
def F_X10_escapes (st : SS) : Option (Int32) :=
    some (s_esc st)
def F_X10_crumbs (st : SS) : Option (Int64) :=
    some (s_fal st)
def F_X10_errorsAgree_2 (fu : Nat) : Nat → SS → Int32 → Option (Int32)
  | 0 => fun _ _ => none
  | n + 1 => fun st x1 =>
    if 4 < x1 then (some 1)
    else (zbind (F_X9_bestChoice fu st x1) fun zo2 =>
    zbind (F_X9_errorOf fu st x1 zo2) fun zo3 =>
    zbind (F_X9_leastErrorOfSets fu st x1) fun zo4 =>
    if zo3 = zo4 then (zlet (x1 + 1) fun zv6 =>
    (F_X10_errorsAgree_2 fu n) st zv6)
    else (some 0))
def F_X10_errorsAgree (fu : Nat) (st : SS) : Option (Int32) :=
    F_X10_errorsAgree_2 fu fu st 0
def F_X10_carriesAgree_10 (fu : Nat) : Nat → SS → Int64 → Int32 → Option (Int32)
  | 0 => fun _ _ _ => none
  | n + 1 => fun st x1 x3 =>
    if (s_cnt st) ≤ x3 then (some 1)
    else (if x3 < 0 ∨ 6 ≤ Int32.toNatClampNeg x3 then none else
    zlet ((s_vals st) (Int32.toNatClampNeg x3)) fun zv3 =>
    zbind (F_X10_carryingPlaces fu zv3 x1) fun zo4 =>
    zbind (F_J6_bitCount_0f7a4 zo4) fun zo5 =>
    zbind (F_X10_carriesByDigitSums fu zv3 x1) fun zo6 =>
    if zo5 = zo6 then (zlet (x3 + 1) fun zv8 =>
    (F_X10_carriesAgree_10 fu n) st x1 zv8)
    else (some 0))
def F_X10_carriesAgree (fu : Nat) (st : SS) : Option (Int32) :=
    zbind (F_X10_unitsOf 1 9999) fun zo9 =>
    F_X10_carriesAgree_10 fu fu st zo9 0
def F_X10_isConsistent (fu : Nat) (st : SS) : Option (Int32) :=
    zbind (F_X8_sumOfValues fu st) fun zo1 =>
    zbind (F_X8_sumByAccounts st) fun zo2 =>
    if zo1 = zo2 then (zbind (F_X8_fitsSteps fu st) fun zo4 =>
    if zo4 = 0 then (some 0)
    else (zbind (F_X10_errorsAgree fu st) fun zo6 =>
    if zo6 = 0 then (some 0)
    else (zbind (F_X10_carriesAgree fu st) fun zo8 =>
    if zo8 = 0 then (some 0)
    else (some 1))))
    else (some 0)
def F_X10_append (ptx : Nat → Int32) (plen : Int32) (p1 : Int32) : Option (Except (Nat × ((Nat → Int32) × Int32)) (Int32 × (Nat → Int32) × Int32)) :=
    zbind (F_X6_isFull plen) fun zo1 =>
    if zo1 = 0 then (zbind (F_X6_put ptx plen p1) fun zo3 =>
    some (.ok (zo3.2, zo3.1, zo3.2)))
    else (some (.error (1, (ptx, plen))))
def F_X10_errorPosition (stE : Int32) : Option (Except (Nat × (Unit)) (Int32)) :=
    if stE = (-1) then (some (.error (3, ())))
    else (some (.ok stE))
def F_X10_failedCommand (stF : Int32) : Option (Except (Nat × (Unit)) (Int32)) :=
    if stF = (-1) then (some (.error (3, ())))
    else (some (.ok stF))
def F_X10_outputAt (lch : Nat → Int32) (llen : Int32) (p1 : Int32) : Option (Except (Nat × (Unit)) (Int32)) :=
    if p1 < 0 then (some (.error (4, ())))
    else (if p1 < llen then (if p1 < 0 ∨ 64 ≤ Int32.toNatClampNeg p1 then none else
    if ¬ (0 ≤ (lch (Int32.toNatClampNeg p1)) ∧ (lch (Int32.toNatClampNeg p1)) ≤ 65535) then none else
    some (.ok (lch (Int32.toNatClampNeg p1))))
    else (some (.error (4, ()))))
def F_X10_save (st : SS) (sv : SS) (isS : Int32) : Option (SS × Int32) :=
    zbind (F_X8_copyFrom sv st) fun zo1 =>
    some (zo1, 1)
def F_X10_writeNumber_78 (fu : Nat) : Nat → SS → (Nat → Int32) → Int32 → Int32 → Int64 → Int32 → Option (Except (Nat × ((Nat → Int32) × Int32)) (Int32 × (Nat → Int32) × Int32))
  | 0 => fun _ _ _ _ _ _ => none
  | n + 1 => fun st lch llen x2 x3 x5 =>
    if x2 < 0 ∨ 6 ≤ Int32.toNatClampNeg x2 then none else
    if ((s_scs st) (Int32.toNatClampNeg x2)) < x5 then (if x2 < 0 ∨ 6 ≤ Int32.toNatClampNeg x2 then none else
    zbind (F_X4_put lch llen ((s_mds st) (Int32.toNatClampNeg x2))) fun zo4 =>
    some (.ok (zo4.2, zo4.1, zo4.2)))
    else (zbind (F_X10_digitAt fu x3 (4 - x5)) fun zo5 =>
    zbind (F_X4_putDigit lch llen zo5) fun zo6 =>
    zlet (x5 + 1) fun zv7 =>
    (F_X10_writeNumber_78 fu n) st zo6.1 zo6.2 x2 x3 zv7)
def F_X10_writeNumber (fu : Nat) (st : SS) (lch : Nat → Int32) (llen : Int32) (p1 : Int32) : Option (Except (Nat × ((Nat → Int32) × Int32)) (Int32 × (Nat → Int32) × Int32)) :=
    zbind (F_X10_requirePosition fu st p1) fun zo8 => zcase zo8 (fun za8 =>
    if za8 < 0 ∨ 6 ≤ Int32.toNatClampNeg za8 then none else
    zlet ((s_vals st) (Int32.toNatClampNeg za8)) fun zv10 =>
    zbind (F_X4_putWhole fu lch 0 (Int32.toInt64 p1)) fun zo11 =>
    zbind (F_X4_put zo11.1 zo11.2 58) fun zo12 =>
    zbind (F_X4_putWhole fu zo12.1 zo12.2 (zv10 / 10000)) fun zo13 =>
    if za8 < 0 ∨ 6 ≤ Int32.toNatClampNeg za8 then none else
    if ((s_scs st) (Int32.toNatClampNeg za8)) ≤ 0 then (F_X10_writeNumber_78 fu fu st zo13.1 zo13.2 za8 zv10 1)
    else (zbind (F_X4_put zo13.1 zo13.2 46) fun zo16 =>
    F_X10_writeNumber_78 fu fu st zo16.1 zo16.2 za8 zv10 1))
    (fun zw8 => some (.error (zw8.1, (lch, llen))))
def F_X10_writeQuotient (fu : Nat) (seen : Nat → Int32) (dbef : Int32) (drec : Int32) (lch : Nat → Int32) (llen : Int32) (p1 : Int32) (p2 : Int32) : Option (Except (Nat × ((Nat → Int32) × Int32 × Int32 × (Nat → Int32) × Int32)) (Int32 × (Nat → Int32) × Int32 × Int32 × (Nat → Int32) × Int32)) :=
    zbind (F_X10_requireQuotient p1 p2) fun zo1 => zcase zo1 (fun za1 =>
    zbind (F_X5_divide fu seen dbef drec p1 p2) fun zo2 =>
    if p2 = 0 then none else
    zbind (F_X4_putWhole fu lch 0 (Int32.toInt64 (p1 / p2))) fun zo4 =>
    zbind (F_X4_put zo4.1 zo4.2 46) fun zo5 =>
    if p2 = 0 then none else
    zbind (F_X4_putQuotientDigits fu zo5.1 zo5.2 (p1 - p1 / p2 * p2) p2 zo2.2.1) fun zo7 =>
    zbind (F_X4_put zo7.2.1 zo7.2.2 40) fun zo8 =>
    zbind (F_X4_putQuotientDigits fu zo8.1 zo8.2 zo7.1 p2 (if 20 < zo2.2.2 then 20 else zo2.2.2)) fun zo9 =>
    zbind (F_X4_put zo9.2.1 zo9.2.2 41) fun zo10 =>
    some (.ok (zo10.2, zo2.1, zo2.2.1, zo2.2.2, zo10.1, zo10.2)))
    (fun zw1 => some (.error (zw1.1, (seen, dbef, drec, lch, llen))))
def F_X10_enterNumber (fu : Nat) (st : SS) (p1 : Int32) (p2 : Int32) (p3 : Int32) (p4 : Int32) : Option (Except (Nat × (SS)) (Int32 × SS)) :=
    zbind (F_X10_requireAmount p1 p2) fun zo1 => zcase zo1 (fun za1 =>
    zbind (F_X10_requireScale p3) fun zo2 => zcase zo2 (fun za2 =>
    zbind (F_X10_requireMode fu p4) fun zo3 => zcase zo3 (fun za3 =>
    zbind (F_X10_requireRoom st) fun zo4 => zcase zo4 (fun za4 =>
    zbind (F_X10_unitsOf p1 p2) fun zo5 =>
    zbind (F_X7_stepOf p3) fun zo6 =>
    if zo6 = 0 then none else
    if (zo5 - zo5 / zo6 * zo6) = 0 then (zbind (F_X8_enter st zo5 p3 p4) fun zo9 =>
    some (.ok (zo9.1, zo9.2)))
    else (some (.error (2, st))))
    (fun zw4 => some (.error (zw4.1, st))))
    (fun zw3 => some (.error (zw3.1, st))))
    (fun zw2 => some (.error (zw2.1, st))))
    (fun zw1 => some (.error (zw1.1, st)))
def F_X10_enterQuotient (fu : Nat) (st : SS) (p1 : Int32) (p2 : Int32) (p3 : Int32) (p4 : Int32) : Option (Except (Nat × (SS)) (Int32 × SS)) :=
    zbind (F_X10_requireQuotient p1 p2) fun zo1 => zcase zo1 (fun za1 =>
    zbind (F_X10_requireScale p3) fun zo2 => zcase zo2 (fun za2 =>
    zbind (F_X10_requireMode fu p4) fun zo3 => zcase zo3 (fun za3 =>
    zbind (F_X10_requireRoom st) fun zo4 => zcase zo4 (fun za4 =>
    zbind (F_X7_ofQuotient p1 p2 p3 p4) fun zo5 =>
    zbind (F_X8_enter st zo5 p3 p4) fun zo6 =>
    some (.ok (zo6.1, zo6.2)))
    (fun zw4 => some (.error (zw4.1, st))))
    (fun zw3 => some (.error (zw3.1, st))))
    (fun zw2 => some (.error (zw2.1, st))))
    (fun zw1 => some (.error (zw1.1, st)))
def F_X10_releaseNumber (fu : Nat) (st : SS) (p1 : Int32) : Option (Except (Nat × (SS)) (Int64 × SS)) :=
    zbind (F_X10_requirePosition fu st p1) fun zo1 => zcase zo1 (fun za1 =>
    zbind (F_X8_takeOut fu st za1) fun zo2 =>
    some (.ok (zo2.1, zo2.2)))
    (fun zw1 => some (.error (zw1.1, st)))
def F_X10_feedNumber (fu : Nat) (st : SS) (p1 : Int32) (p2 : Int32) (p3 : Int32) : Option (Except (Nat × (SS)) (Int64 × SS)) :=
    zbind (F_X10_requirePosition fu st p1) fun zo1 => zcase zo1 (fun za1 =>
    zbind (F_X10_requireAmount p2 p3) fun zo2 => zcase zo2 (fun za2 =>
    zbind (F_X10_unitsOf p2 p3) fun zo3 =>
    if za1 < 0 ∨ 6 ≤ Int32.toNatClampNeg za1 then none else
    zbind (F_X8_becomeRounded ((s_ids st), (s_vals st), (s_scs st), (s_mds st), (s_cnt st), (s_nxt st), (s_esc st), (s_fal st), (s_add st), ((s_fed st) + zo3), (s_rem st)) za1 (((s_vals st) (Int32.toNatClampNeg za1)) + zo3)) fun zo5 =>
    some (.ok (zo5.1, zo5.2)))
    (fun zw2 => some (.error (zw2.1, st))))
    (fun zw1 => some (.error (zw1.1, st)))
def F_X10_tradeAmount (fu : Nat) (st : SS) (p1 : Int32) (p2 : Int32) (p3 : Int32) (p4 : Int32) : Option (Except (Nat × (SS)) (Int64 × SS)) :=
    zbind (F_X10_requirePosition fu st p1) fun zo1 => zcase zo1 (fun za1 =>
    zbind (F_X10_requirePosition fu st p2) fun zo2 => zcase zo2 (fun za2 =>
    if za1 = za2 then (some (.error (0, st)))
    else (zbind (F_X10_requireAmount p3 p4) fun zo4 => zcase zo4 (fun za4 =>
    zbind (F_X10_unitsOf p3 p4) fun zo5 =>
    if za1 < 0 ∨ 6 ≤ Int32.toNatClampNeg za1 then none else
    if ((s_vals st) (Int32.toNatClampNeg za1)) < zo5 then (some (.error (1, st)))
    else (if za1 < 0 ∨ 6 ≤ Int32.toNatClampNeg za1 then none else
    zbind (F_X7_stepOf ((s_scs st) (Int32.toNatClampNeg za1))) fun zo9 =>
    if zo9 = 0 then none else
    if (zo5 - zo5 / zo9 * zo9) = 0 then (if za1 < 0 ∨ 6 ≤ Int32.toNatClampNeg za1 then none else
    if za1 < 0 ∨ 6 ≤ Int32.toNatClampNeg za1 then none else
    if za2 < 0 ∨ 6 ≤ Int32.toNatClampNeg za2 then none else
    zbind (F_X8_becomeRounded ((s_ids st), (vp_updL (s_vals st) (Int32.toNatClampNeg za1) (((s_vals st) (Int32.toNatClampNeg za1)) - zo5)), (s_scs st), (s_mds st), (s_cnt st), (s_nxt st), (s_esc st), (s_fal st), (s_add st), (s_fed st), (s_rem st)) za2 (((vp_updL (s_vals st) (Int32.toNatClampNeg za1) (((s_vals st) (Int32.toNatClampNeg za1)) - zo5)) (Int32.toNatClampNeg za2)) + zo5)) fun zo15 =>
    some (.ok (zo15.1, zo15.2)))
    else (some (.error (2, st)))))
    (fun zw4 => some (.error (zw4.1, st)))))
    (fun zw2 => some (.error (zw2.1, st))))
    (fun zw1 => some (.error (zw1.1, st)))
def F_X10_changeScale (fu : Nat) (st : SS) (p1 : Int32) (p2 : Int32) : Option (Except (Nat × (SS)) (Int32 × SS)) :=
    zbind (F_X10_requirePosition fu st p1) fun zo1 => zcase zo1 (fun za1 =>
    zbind (F_X10_requireScale p2) fun zo2 => zcase zo2 (fun za2 =>
    if za1 < 0 ∨ 6 ≤ Int32.toNatClampNeg za1 then none else
    zlet ((s_scs st) (Int32.toNatClampNeg za1)) fun zv4 =>
    if za1 < 0 ∨ 6 ≤ Int32.toNatClampNeg za1 then none else
    if za1 < 0 ∨ 6 ≤ Int32.toNatClampNeg za1 then none else
    zbind (F_X8_becomeRounded ((s_ids st), (s_vals st), (upd (s_scs st) (Int32.toNatClampNeg za1) p2), (s_mds st), (s_cnt st), (s_nxt st), (s_esc st), (s_fal st), (s_add st), (s_fed st), (s_rem st)) za1 ((s_vals st) (Int32.toNatClampNeg za1))) fun zo7 =>
    some (.ok (zv4, zo7.2)))
    (fun zw2 => some (.error (zw2.1, st))))
    (fun zw1 => some (.error (zw1.1, st)))
def F_X10_changeMode (fu : Nat) (st : SS) (p1 : Int32) (p2 : Int32) : Option (Except (Nat × (SS)) (Int32 × SS)) :=
    zbind (F_X10_requirePosition fu st p1) fun zo1 => zcase zo1 (fun za1 =>
    zbind (F_X10_requireMode fu p2) fun zo2 => zcase zo2 (fun za2 =>
    if za1 < 0 ∨ 6 ≤ Int32.toNatClampNeg za1 then none else
    zlet ((s_mds st) (Int32.toNatClampNeg za1)) fun zv4 =>
    if za1 < 0 ∨ 6 ≤ Int32.toNatClampNeg za1 then none else
    if ¬ (0 ≤ zv4 ∧ zv4 ≤ 65535) then none else
    some (.ok (zv4, ((s_ids st), (s_vals st), (s_scs st), (upd (s_mds st) (Int32.toNatClampNeg za1) (vp_nar .char p2)), (s_cnt st), (s_nxt st), (s_esc st), (s_fal st), (s_add st), (s_fed st), (s_rem st)))))
    (fun zw2 => some (.error (zw2.1, st))))
    (fun zw1 => some (.error (zw1.1, st)))
def F_X10_roundAll_15 (fu : Nat) : Nat → SS → Int32 → Int32 → Int32 → Option (Except (Nat × (SS)) (Int32 × SS))
  | 0 => fun _ _ _ _ => none
  | n + 1 => fun st p1 x2 x3 =>
    if (s_cnt st) ≤ x3 then (zbind (F_J6_bitCount_0f7a4 x2) fun zo2 =>
    some (.ok (zo2, st)))
    else (if x3 < 0 ∨ 6 ≤ Int32.toNatClampNeg x3 then none else
    zlet ((s_vals st) (Int32.toNatClampNeg x3)) fun zv4 =>
    zbind (F_X9_roundedBy x2 x3 zv4 p1) fun zo5 =>
    zbind (F_X8_become st x3 zv4 zo5) fun zo6 =>
    if x3 < 0 ∨ 6 ≤ Int32.toNatClampNeg x3 then none else
    zlet (if p1 < ((s_scs zo6) (Int32.toNatClampNeg x3)) then p1 else ((s_scs zo6) (Int32.toNatClampNeg x3))) fun zv8 =>
    if x3 < 0 ∨ 6 ≤ Int32.toNatClampNeg x3 then none else
    zlet (x3 + 1) fun zv10 =>
    (F_X10_roundAll_15 fu n) ((s_ids zo6), (s_vals zo6), (upd (s_scs zo6) (Int32.toNatClampNeg x3) zv8), (s_mds zo6), (s_cnt zo6), (s_nxt zo6), (s_esc zo6), (s_fal zo6), (s_add zo6), (s_fed zo6), (s_rem zo6)) p1 x2 zv10)
def F_X10_roundAll (fu : Nat) (st : SS) (p1 : Int32) : Option (Except (Nat × (SS)) (Int32 × SS)) :=
    zbind (F_X10_requireScale p1) fun zo11 => zcase zo11 (fun za11 =>
    zbind (F_X9_bestChoice fu st p1) fun zo12 =>
    F_X10_roundAll_15 fu fu st p1 zo12 0)
    (fun zw11 => some (.error (zw11.1, st)))
