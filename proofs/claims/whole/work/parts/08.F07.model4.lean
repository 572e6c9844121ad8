def F_X11_fractionHere_80 (fu : Nat) : Nat → (Nat → Int32) → Int32 → Int32 → Int32 → Int32 → Int32 → Option (Int32 × Int32 × Int32)
  | 0 => fun _ _ _ _ _ _ => none
  | n + 1 => fun minp mpl msz mwr x1 x2 =>
    if 4 ≤ x2 then (some (x1, mpl, mwr))
    else (zlet (x1 * 10) fun zv2 =>
    zlet (x2 + 1) fun zv3 =>
    (F_X11_fractionHere_80 fu n) minp mpl msz mwr zv2 zv3)
def F_X11_fractionHere_35 (fu : Nat) : Nat → (Nat → Int32) → Int32 → Int32 → Int32 → Int32 → Int32 → Option (Int32 × Int32 × Int32)
  | 0 => fun _ _ _ _ _ _ => none
  | n + 1 => fun minp mpl msz mwr x1 x2 =>
    if 4 ≤ x2 then (F_X11_fractionHere_80 fu fu minp mpl msz mwr x1 x2)
    else (if mwr = 0 then (zbind (F_X11_here minp mpl msz) fun zo6 =>
    zbind (F_X11_in (Int32.toInt64 zo6) 48 57) fun zo7 =>
    if zo7 = 0 then (F_X11_fractionHere_80 fu fu minp mpl msz mwr x1 x2)
    else (zbind (F_X11_digitHere minp mpl msz mwr) fun zo9 =>
    zlet ((10 * x1) + zo9.1) fun zv10 =>
    zlet (x2 + 1) fun zv11 =>
    (F_X11_fractionHere_35 fu n) minp zo9.2.1 msz zo9.2.2 zv10 zv11))
    else (F_X11_fractionHere_80 fu fu minp mpl msz mwr x1 x2))
def F_X11_fractionHere (fu : Nat) (minp : Nat → Int32) (mpl : Int32) (msz : Int32) (mwr : Int32) : Option (Int32 × Int32 × Int32) :=
    if mwr = 0 then (zbind (F_X11_here minp mpl msz) fun zo13 =>
    if zo13 = 46 then (zbind (F_X11_digitHere minp (mpl + 1) msz mwr) fun zo15 =>
    F_X11_fractionHere_35 fu fu minp zo15.2.1 msz zo15.2.2 zo15.1 1)
    else (some (0, mpl, mwr)))
    else (some (0, mpl, mwr))
def F_X11_likeness_18 (fu : Nat) : Nat → (Nat → Int32) → (Nat → Int32) → (Nat → Int32) → Int32 → Int32 → Int32 → Int32 → Int32 → Option (Int32)
  | 0 => fun _ _ _ _ _ _ _ _ => none
  | n + 1 => fun minp mltr mbeg mpl msz p1 x2 x3 =>
    if x3 ≤ x2 then (some x2)
    else (if msz ≤ (mpl + x2) then (some x2)
    else (if (mpl + x2) < 0 ∨ 60 ≤ Int32.toNatClampNeg (mpl + x2) then none else
    if p1 < 0 ∨ 9 ≤ Int32.toNatClampNeg p1 then none else
    if ((mbeg (Int32.toNatClampNeg p1)) + x2) < 0 ∨ 45 ≤ Int32.toNatClampNeg ((mbeg (Int32.toNatClampNeg p1)) + x2) then none else
    if (minp (Int32.toNatClampNeg (mpl + x2))) = (mltr (Int32.toNatClampNeg ((mbeg (Int32.toNatClampNeg p1)) + x2))) then (zlet (x2 + 1) fun zv7 =>
    (F_X11_likeness_18 fu n) minp mltr mbeg mpl msz p1 zv7 x3)
    else (some x2)))
def F_X11_likeness (fu : Nat) (minp : Nat → Int32) (mltr : Nat → Int32) (mbeg : Nat → Int32) (mpl : Int32) (msz : Int32) (p1 : Int32) : Option (Int32) :=
    if (p1 + 1) < 0 ∨ 9 ≤ Int32.toNatClampNeg (p1 + 1) then none else
    if p1 < 0 ∨ 9 ≤ Int32.toNatClampNeg p1 then none else
    zlet ((mbeg (Int32.toNatClampNeg (p1 + 1))) - (mbeg (Int32.toNatClampNeg p1))) fun zv10 =>
    F_X11_likeness_18 fu fu minp mltr mbeg mpl msz p1 0 zv10
def F_X11_readArguments_22 (fu : Nat) (minp : Nat → Int32) (mcmd : Nat → Int32) (mpl : Int32) (msz : Int32) (mwr : Int32) (p1 : Int32) (p2 : Int32) (y1 : Int32) (y2 : Int32) : Option ((Nat → Int32) × Int32 × Int32) :=
  if y1 < 0 ∨ 305 ≤ Int32.toNatClampNeg y1 then none else
    if p1 = 0 then (zbind (F_X11_fractionHere fu minp mpl msz mwr) fun zo3 =>
    if (p2 + 1) < 0 ∨ 305 ≤ Int32.toNatClampNeg (p2 + 1) then none else
    zbind (F_X11_digitBehind minp zo3.2.1 msz zo3.2.2) fun zo5 =>
    if (p2 + 2) < 0 ∨ 305 ≤ Int32.toNatClampNeg (p2 + 2) then none else
    zbind (F_X11_modeBehind minp zo5.2.1 msz zo5.2.2) fun zo7 =>
    if (p2 + 3) < 0 ∨ 305 ≤ Int32.toNatClampNeg (p2 + 3) then none else
    some ((upd (upd (upd (upd mcmd (Int32.toNatClampNeg y1) y2) (Int32.toNatClampNeg (p2 + 1)) zo3.1) (Int32.toNatClampNeg (p2 + 2)) zo5.1) (Int32.toNatClampNeg (p2 + 3)) zo7.1), zo7.2.1, zo7.2.2))
    else if p1 = 1 then (zbind (F_X11_numberBehind fu minp mpl msz mwr 47) fun zo10 =>
    if (p2 + 1) < 0 ∨ 305 ≤ Int32.toNatClampNeg (p2 + 1) then none else
    zbind (F_X11_digitBehind minp zo10.2.1 msz zo10.2.2) fun zo12 =>
    if (p2 + 2) < 0 ∨ 305 ≤ Int32.toNatClampNeg (p2 + 2) then none else
    zbind (F_X11_modeBehind minp zo12.2.1 msz zo12.2.2) fun zo14 =>
    if (p2 + 3) < 0 ∨ 305 ≤ Int32.toNatClampNeg (p2 + 3) then none else
    some ((upd (upd (upd (upd mcmd (Int32.toNatClampNeg y1) y2) (Int32.toNatClampNeg (p2 + 1)) zo10.1) (Int32.toNatClampNeg (p2 + 2)) zo12.1) (Int32.toNatClampNeg (p2 + 3)) zo14.1), zo14.2.1, zo14.2.2))
    else if p1 = 2 then (some ((upd mcmd (Int32.toNatClampNeg y1) y2), mpl, mwr))
    else if p1 = 3 then (zbind (F_X11_numberBehind fu minp mpl msz mwr 32) fun zo18 =>
    if (p2 + 1) < 0 ∨ 305 ≤ Int32.toNatClampNeg (p2 + 1) then none else
    zbind (F_X11_fractionHere fu minp zo18.2.1 msz zo18.2.2) fun zo20 =>
    if (p2 + 2) < 0 ∨ 305 ≤ Int32.toNatClampNeg (p2 + 2) then none else
    some ((upd (upd (upd mcmd (Int32.toNatClampNeg y1) y2) (Int32.toNatClampNeg (p2 + 1)) zo18.1) (Int32.toNatClampNeg (p2 + 2)) zo20.1), zo20.2.1, zo20.2.2))
    else if p1 = 4 then (zbind (F_X11_numberBehind fu minp mpl msz mwr 45) fun zo23 =>
    if (p2 + 1) < 0 ∨ 305 ≤ Int32.toNatClampNeg (p2 + 1) then none else
    zbind (F_X11_numberBehind fu minp zo23.2.1 msz zo23.2.2 32) fun zo25 =>
    if (p2 + 2) < 0 ∨ 305 ≤ Int32.toNatClampNeg (p2 + 2) then none else
    zbind (F_X11_fractionHere fu minp zo25.2.1 msz zo25.2.2) fun zo27 =>
    if (p2 + 3) < 0 ∨ 305 ≤ Int32.toNatClampNeg (p2 + 3) then none else
    some ((upd (upd (upd (upd mcmd (Int32.toNatClampNeg y1) y2) (Int32.toNatClampNeg (p2 + 1)) zo23.1) (Int32.toNatClampNeg (p2 + 2)) zo25.1) (Int32.toNatClampNeg (p2 + 3)) zo27.1), zo27.2.1, zo27.2.2))
    else if p1 = 5 then (zbind (F_X11_digitBehind minp mpl msz mwr) fun zo30 =>
    if (p2 + 1) < 0 ∨ 305 ≤ Int32.toNatClampNeg (p2 + 1) then none else
    some ((upd (upd mcmd (Int32.toNatClampNeg y1) y2) (Int32.toNatClampNeg (p2 + 1)) zo30.1), zo30.2.1, zo30.2.2))
    else if p1 = 6 then (zbind (F_X11_modeBehind minp mpl msz mwr) fun zo33 =>
    if (p2 + 1) < 0 ∨ 305 ≤ Int32.toNatClampNeg (p2 + 1) then none else
    some ((upd (upd mcmd (Int32.toNatClampNeg y1) y2) (Int32.toNatClampNeg (p2 + 1)) zo33.1), zo33.2.1, zo33.2.2))
    else (some ((upd mcmd (Int32.toNatClampNeg y1) y2), mpl, mwr))
def F_X11_readArguments (fu : Nat) (minp : Nat → Int32) (mcmd : Nat → Int32) (mpl : Int32) (msz : Int32) (mwr : Int32) (p1 : Int32) (p2 : Int32) : Option ((Nat → Int32) × Int32 × Int32) :=
    if p1 = 7 then (zbind (F_X11_digitHere minp mpl msz mwr) fun zo37 =>
    F_X11_readArguments_22 fu minp mcmd zo37.2.1 msz zo37.2.2 p1 p2 p2 zo37.1)
    else (zbind (F_X11_number fu minp mpl msz mwr) fun zo36 =>
    F_X11_readArguments_22 fu minp mcmd zo36.2.1 msz zo36.2.2 p1 p2 p2 zo36.1)
def F_X11_readCommand_83 (fu : Nat) (minp : Nat → Int32) (mltr : Nat → Int32) (mbeg : Nat → Int32) (mcmd : Nat → Int32) (mcmM : Int32) (mpl : Int32) (msz : Int32) (mwr : Int32) (x1 : Int32) (x2 : Int32) (y1 : Int32) : Option ((Nat → Int32) × Int32 × Int32 × Int32) :=
  if ¬ (y1 = 0 ∨ y1 = 1) then none else
    if y1 = 0 then (if x1 < 0 ∨ 305 ≤ Int32.toNatClampNeg x1 then none else
    zbind (F_X11_readArguments fu minp (upd mcmd (Int32.toNatClampNeg x1) x2) mpl msz y1 x2 (x1 + 1)) fun zo4 =>
    some (zo4.1, (mcmM + 1), zo4.2.1, zo4.2.2))
    else (some (mcmd, mcmM, mpl, y1))
def F_X11_readCommand_11 (fu : Nat) : Nat → (Nat → Int32) → (Nat → Int32) → (Nat → Int32) → (Nat → Int32) → Int32 → Int32 → Int32 → Int32 → Int32 → Int32 → Int32 → Option ((Nat → Int32) × Int32 × Int32 × Int32)
  | 0 => fun _ _ _ _ _ _ _ _ _ _ _ => none
  | n + 1 => fun minp mltr mbeg mcmd mcmM mpl msz mwr x1 x2 x3 =>
    if 8 ≤ x3 then (zbind (F_X11_likeness fu minp mltr mbeg mpl msz x2) fun zo6 =>
    if (x2 + 1) < 0 ∨ 9 ≤ Int32.toNatClampNeg (x2 + 1) then none else
    if x2 < 0 ∨ 9 ≤ Int32.toNatClampNeg x2 then none else
    if ((mbeg (Int32.toNatClampNeg (x2 + 1))) - (mbeg (Int32.toNatClampNeg x2))) ≤ zo6 then (F_X11_readCommand_83 fu minp mltr mbeg mcmd mcmM (mpl + zo6) msz mwr x1 x2 0)
    else (F_X11_readCommand_83 fu minp mltr mbeg mcmd mcmM (mpl + zo6) msz mwr x1 x2 1))
    else (zbind (F_X11_likeness fu minp mltr mbeg mpl msz x3) fun zo10 =>
    zbind (F_X11_likeness fu minp mltr mbeg mpl msz x2) fun zo11 =>
    if zo10 ≤ zo11 then (zlet (x3 + 1) fun zv13 =>
    (F_X11_readCommand_11 fu n) minp mltr mbeg mcmd mcmM mpl msz mwr x1 x2 zv13)
    else (zlet (x3 + 1) fun zv14 =>
    (F_X11_readCommand_11 fu n) minp mltr mbeg mcmd mcmM mpl msz mwr x1 x3 zv14))
def F_X11_readCommand (fu : Nat) (minp : Nat → Int32) (mltr : Nat → Int32) (mbeg : Nat → Int32) (mcmd : Nat → Int32) (mcmM : Int32) (mpl : Int32) (msz : Int32) (mwr : Int32) : Option ((Nat → Int32) × Int32 × Int32 × Int32) :=
    zlet (5 * mcmM) fun zv15 =>
    F_X11_readCommand_11 fu fu minp mltr mbeg mcmd mcmM mpl msz mwr zv15 0 1
def F_X11_does (fu : Nat) (mm : Nat → Int64) (mthr : Int32) (mUp : Nat → Int32) (mcmd : Nat → Int32) (p1 : Int32) : Option ((Nat → Int64) × Int32 × (Nat → Int32)) :=
    if (p1 + 1) < 0 ∨ 305 ≤ Int32.toNatClampNeg (p1 + 1) then none else
    zlet (mcmd (Int32.toNatClampNeg (p1 + 1))) fun zv2 =>
    if (p1 + 2) < 0 ∨ 305 ≤ Int32.toNatClampNeg (p1 + 2) then none else
    zlet (mcmd (Int32.toNatClampNeg (p1 + 2))) fun zv4 =>
    if (p1 + 3) < 0 ∨ 305 ≤ Int32.toNatClampNeg (p1 + 3) then none else
    zlet (mcmd (Int32.toNatClampNeg (p1 + 3))) fun zv6 =>
    if (p1 + 4) < 0 ∨ 305 ≤ Int32.toNatClampNeg (p1 + 4) then none else
    zlet (mcmd (Int32.toNatClampNeg (p1 + 4))) fun zv8 =>
    if p1 < 0 ∨ 305 ≤ Int32.toNatClampNeg p1 then none else
    if (mcmd (Int32.toNatClampNeg p1)) = 0 then (zbind (F_X11_addIt fu mm mthr zv2 zv4 zv6 zv8) fun zo11 =>
    some (zo11.2.1, zo11.2.2, mUp))
    else if (mcmd (Int32.toNatClampNeg p1)) = 1 then (zbind (F_X11_overIt fu mm mthr zv2 zv4 zv6 zv8) fun zo13 =>
    some (zo13.2.1, zo13.2.2, mUp))
    else if (mcmd (Int32.toNatClampNeg p1)) = 2 then (zbind (F_X11_freeIt fu mm mthr zv2) fun zo15 =>
    some (zo15.2.1, zo15.2.2, mUp))
    else if (mcmd (Int32.toNatClampNeg p1)) = 3 then (zbind (F_X11_feedIt fu mm mthr zv2 zv4 zv6) fun zo17 =>
    some (zo17.2.1, zo17.2.2, mUp))
    else if (mcmd (Int32.toNatClampNeg p1)) = 4 then (zbind (F_X11_tradeIt fu mm mthr zv2 zv4 zv6 zv8) fun zo19 =>
    some (zo19.2.1, zo19.2.2, mUp))
    else if (mcmd (Int32.toNatClampNeg p1)) = 5 then (zbind (F_X11_scaleIt fu mm mthr zv2 zv4) fun zo21 =>
    some (zo21.2.1, zo21.2.2, mUp))
    else if (mcmd (Int32.toNatClampNeg p1)) = 6 then (zbind (F_X11_modeIt fu mm mthr zv2 zv4) fun zo23 =>
    some (zo23.2.1, zo23.2.2, mUp))
    else (zbind (F_X11_togetherIt fu mm mthr mUp zv2) fun zo24 =>
    some (zo24.2.1, zo24.2.2.1, zo24.2.2.2))
def F_X11_run_139 (fu : Nat) : Nat → (Nat → Int64) → (Nat → Int64) → (Nat → Int64) → Int32 → Int32 → Int32 → Int32 → (Nat → Int32) → Int32 → (Nat → Int32) → (Nat → Int32) → (Nat → Int32) → (Nat → Int32) → Int32 → Int32 → Int32 → Int32 → Int32 → Int32 → Option (Int32 × (Nat → Int64) × (Nat → Int64) × (Nat → Int64) × Int32 × Int32 × Int32 × Int32 × Int32 × (Nat → Int32) × (Nat → Int32) × Int32 × Int32 × Int32 × Int32)
  | 0 => fun _ _ _ _ _ _ _ _ _ _ _ _ _ _ _ _ _ _ _ => none
  | n + 1 => fun mm masd mpst mchg merr mfai mthr minp minM mUp mltr mbeg mcmd mcmM mpl msz mwr x2 x3 =>
    if 28 ≤ x3 then (zbind (F_X11_throwing mthr 2) fun zo2 =>
    some (zo2.1, mm, masd, mpst, mchg, merr, x2, zo2.2, minM, mUp, mcmd, mcmM, mpl, msz, mwr))
    else (if x3 < 0 ∨ 28 ≤ Int32.toNatClampNeg x3 then none else
    if x3 < 0 ∨ 28 ≤ Int32.toNatClampNeg x3 then none else
    zlet (x3 + 1) fun zv5 =>
    (F_X11_run_139 fu n) (vp_updL mm (Int32.toNatClampNeg x3) (masd (Int32.toNatClampNeg x3))) masd mpst mchg merr mfai mthr minp minM mUp mltr mbeg mcmd mcmM mpl msz mwr x2 zv5)
def F_X11_run_115 (fu : Nat) : Nat → (Nat → Int64) → (Nat → Int64) → (Nat → Int64) → Int32 → Int32 → Int32 → Int32 → (Nat → Int32) → Int32 → (Nat → Int32) → (Nat → Int32) → (Nat → Int32) → (Nat → Int32) → Int32 → Int32 → Int32 → Int32 → Int32 → Option (Int32 × (Nat → Int64) × (Nat → Int64) × (Nat → Int64) × Int32 × Int32 × Int32 × Int32 × Int32 × (Nat → Int32) × (Nat → Int32) × Int32 × Int32 × Int32 × Int32)
  | 0 => fun _ _ _ _ _ _ _ _ _ _ _ _ _ _ _ _ _ _ => none
  | n + 1 => fun mm masd mpst mchg merr mfai mthr minp minM mUp mltr mbeg mcmd mcmM mpl msz mwr x2 =>
    if mcmM ≤ x2 then (zbind (F_X11_ends fu masd mpst mchg mthr) fun zo7 =>
    some (mcmM, mm, masd, zo7.1, zo7.2, merr, mfai, mthr, minM, mUp, mcmd, mcmM, mpl, msz, mwr))
    else (zbind (F_X11_does fu mm mthr mUp mcmd (5 * x2)) fun zo8 =>
    if zo8.2.1 ≤ 0 then (zlet (x2 + 1) fun zv10 =>
    (F_X11_run_115 fu n) zo8.1 masd mpst mchg merr mfai zo8.2.1 minp minM zo8.2.2 mltr mbeg mcmd mcmM mpl msz mwr zv10)
    else (F_X11_run_139 fu fu zo8.1 masd mpst mchg merr mfai zo8.2.1 minp minM zo8.2.2 mltr mbeg mcmd mcmM mpl msz mwr x2 0))
def F_X11_run_65 (k34 : (Nat → Int64) → (Nat → Int64) → (Nat → Int64) → Int32 → Int32 → Int32 → Int32 → (Nat → Int32) → Int32 → (Nat → Int32) → (Nat → Int32) → (Nat → Int32) → (Nat → Int32) → Int32 → Int32 → Int32 → Int32 → Int32 → Option (Int32 × (Nat → Int64) × (Nat → Int64) × (Nat → Int64) × Int32 × Int32 × Int32 × Int32 × Int32 × (Nat → Int32) × (Nat → Int32) × Int32 × Int32 × Int32 × Int32)) (fu : Nat) (mm : Nat → Int64) (masd : Nat → Int64) (mpst : Nat → Int64) (mchg : Int32) (merr : Int32) (mfai : Int32) (mthr : Int32) (minp : Nat → Int32) (minM : Int32) (mUp : Nat → Int32) (mltr : Nat → Int32) (mbeg : Nat → Int32) (mcmd : Nat → Int32) (mcmM : Int32) (mpl : Int32) (msz : Int32) (mwr : Int32) (y0 : Int32) : Option (Int32 × (Nat → Int64) × (Nat → Int64) × (Nat → Int64) × Int32 × Int32 × Int32 × Int32 × Int32 × (Nat → Int32) × (Nat → Int32) × Int32 × Int32 × Int32 × Int32) :=
  if y0 = 0 then (k34 mm masd mpst mchg merr mfai mthr minp minM mUp mltr mbeg mcmd mcmM mpl msz mwr y0)
    else (zbind (F_X11_expects minp mpl msz mwr 59) fun zo12 =>
    if zo12.2 = 0 then (k34 mm masd mpst mchg merr mfai mthr minp minM mUp mltr mbeg mcmd mcmM zo12.1 msz zo12.2 1)
    else (k34 mm masd mpst mchg merr mfai mthr minp minM mUp mltr mbeg mcmd mcmM zo12.1 msz zo12.2 0))
def F_X11_run_34 (fu : Nat) : Nat → (Nat → Int64) → (Nat → Int64) → (Nat → Int64) → Int32 → Int32 → Int32 → Int32 → (Nat → Int32) → Int32 → (Nat → Int32) → (Nat → Int32) → (Nat → Int32) → (Nat → Int32) → Int32 → Int32 → Int32 → Int32 → Int32 → Option (Int32 × (Nat → Int64) × (Nat → Int64) × (Nat → Int64) × Int32 × Int32 × Int32 × Int32 × Int32 × (Nat → Int32) × (Nat → Int32) × Int32 × Int32 × Int32 × Int32)
  | 0 => fun _ _ _ _ _ _ _ _ _ _ _ _ _ _ _ _ _ _ => none
  | n + 1 => fun mm masd mpst mchg merr mfai mthr minp minM mUp mltr mbeg mcmd mcmM mpl msz mwr x1 =>
    if x1 = 0 then (if mwr = 0 then (F_X11_run_115 fu fu mm masd mpst mchg merr mfai mthr minp minM mUp mltr mbeg mcmd mcmM mpl msz mwr 0)
    else (zbind (F_X11_throwing mthr 1) fun zo16 =>
    some (zo16.1, mm, masd, mpst, mchg, mpl, mfai, zo16.2, minM, mUp, mcmd, mcmM, mpl, msz, mwr)))
    else (zbind (F_X11_readCommand fu minp mltr mbeg mcmd mcmM mpl msz mwr) fun zo17 =>
    if zo17.2.2.2 = 0 then (if msz ≤ zo17.2.2.1 then (F_X11_run_65 (F_X11_run_34 fu n) fu mm masd mpst mchg merr mfai mthr minp minM mUp mltr mbeg zo17.1 zo17.2.1 zo17.2.2.1 msz zo17.2.2.2 0)
    else (F_X11_run_65 (F_X11_run_34 fu n) fu mm masd mpst mchg merr mfai mthr minp minM mUp mltr mbeg zo17.1 zo17.2.1 zo17.2.2.1 msz zo17.2.2.2 1))
    else (F_X11_run_65 (F_X11_run_34 fu n) fu mm masd mpst mchg merr mfai mthr minp minM mUp mltr mbeg zo17.1 zo17.2.1 zo17.2.2.1 msz zo17.2.2.2 0))
def F_X11_run (fu : Nat) (mm : Nat → Int64) (masd : Nat → Int64) (mpst : Nat → Int64) (mchg : Int32) (merr : Int32) (mfai : Int32) (mthr : Int32) (minp : Nat → Int32) (minM : Int32) (mUp : Nat → Int32) (mltr : Nat → Int32) (mbeg : Nat → Int32) (mcmd : Nat → Int32) (mcmM : Int32) (mpl : Int32) (msz : Int32) (mwr : Int32) : Option (Int32 × (Nat → Int64) × (Nat → Int64) × (Nat → Int64) × Int32 × Int32 × Int32 × Int32 × Int32 × (Nat → Int32) × (Nat → Int32) × Int32 × Int32 × Int32 × Int32) :=
    zbind (F_X11_starts fu mm masd mthr) fun zo20 =>
    F_X11_run_34 fu fu mm zo20.1 mpst mchg merr mfai zo20.2 minp 0 mUp mltr mbeg mcmd 0 0 minM 0 1
def F_X11_errorPosition (merr : Int32) (mthr : Int32) : Option (Int32 × Int32) :=
    if merr = (-1) then (zbind (F_X11_throwing 0 1) fun zo2 =>
    some (zo2.1, zo2.2))
    else (some (merr, 0))
def F_X11_failedCommand (mfai : Int32) (mthr : Int32) : Option (Int32 × Int32) :=
    if mfai = (-1) then (zbind (F_X11_throwing 0 1) fun zo2 =>
    some (zo2.1, zo2.2))
    else (some (mfai, 0))
def F_X11_sign (mlin : Nat → Int32) (mliM : Int32) (p1 : Int32) : Option ((Nat → Int32) × Int32) :=
    if mliM < 0 ∨ 80 ≤ Int32.toNatClampNeg mliM then none else
    some ((upd mlin (Int32.toNatClampNeg mliM) p1), (mliM + 1))
def F_X11_writesWhole_18 (fu : Nat) : Nat → (Nat → Int32) → Int32 → Int32 → Int32 → Option ((Nat → Int32) × Int32)
  | 0 => fun _ _ _ _ => none
  | n + 1 => fun mlin mliM p1 x2 =>
    if x2 ≤ 0 then (some (mlin, mliM))
    else (if x2 = 0 then none else
    zbind (F_X11_sign mlin mliM (48 + ((p1 / x2) - (p1 / x2) / 10 * 10))) fun zo3 =>
    zlet (x2 / 10) fun zv4 =>
    (F_X11_writesWhole_18 fu n) zo3.1 zo3.2 p1 zv4)
def F_X11_writesWhole_2 (fu : Nat) : Nat → (Nat → Int32) → Int32 → Int32 → Int32 → Option ((Nat → Int32) × Int32)
  | 0 => fun _ _ _ _ => none
  | n + 1 => fun mlin mliM p1 x2 =>
    if x2 = 0 then none else
    if (p1 / x2) ≤ 9 then (F_X11_writesWhole_18 fu fu mlin mliM p1 x2)
    else (zlet (x2 * 10) fun zv7 =>
    (F_X11_writesWhole_2 fu n) mlin mliM p1 zv7)
def F_X11_writesWhole (fu : Nat) (mlin : Nat → Int32) (mliM : Int32) (p1 : Int32) : Option ((Nat → Int32) × Int32) :=
    F_X11_writesWhole_2 fu fu mlin mliM p1 1
def F_X11_writeNumber_75 (fu : Nat) : Nat → (Nat → Int64) → Int32 → (Nat → Int32) → Int32 → Int64 → Int32 → Int32 → Option (Int32 × Int32 × (Nat → Int32) × Int32)
  | 0 => fun _ _ _ _ _ _ _ => none
  | n + 1 => fun mm mthr mlin mliM x2 x4 x5 =>
    if (x4 + 2) < 0 ∨ 28 ≤ Int32.toNatClampNeg (x4 + 2) then none else
    if (Int32.toInt64 x5) < (mm (Int32.toNatClampNeg (x4 + 2))) then (zbind (F_X11_digitAt fu x2 ((-1) - x5)) fun zo5 =>
    zbind (F_X11_sign mlin mliM (48 + zo5)) fun zo6 =>
    zlet (x5 + 1) fun zv7 =>
    (F_X11_writeNumber_75 fu n) mm mthr zo6.1 zo6.2 x2 x4 zv7)
    else (if (x4 + 3) < 0 ∨ 28 ≤ Int32.toNatClampNeg (x4 + 3) then none else
    zbind (F_X11_sign mlin mliM (Int64.toInt32 (mm (Int32.toNatClampNeg (x4 + 3))))) fun zo4 =>
    some (zo4.2, mthr, zo4.1, zo4.2))
def F_X11_writeNumber (fu : Nat) (mm : Nat → Int64) (mthr : Int32) (mlin : Nat → Int32) (mliM : Int32) (p1 : Int32) : Option (Int32 × Int32 × (Nat → Int32) × Int32) :=
    zbind (F_X11_ofNumber fu mm mthr p1 1) fun zo8 =>
    if zo8.2 ≤ 0 then (zbind (F_X11_find fu mm p1) fun zo10 =>
    zbind (F_X11_at zo10) fun zo11 =>
    zbind (F_X11_writesWhole fu mlin 0 p1) fun zo12 =>
    zbind (F_X11_sign zo12.1 zo12.2 58) fun zo13 =>
    zbind (F_X11_writesWhole fu zo13.1 zo13.2 (Int64.toInt32 (zo8.1 / 10000))) fun zo14 =>
    if (zo11 + 2) < 0 ∨ 28 ≤ Int32.toNatClampNeg (zo11 + 2) then none else
    if 0 < (mm (Int32.toNatClampNeg (zo11 + 2))) then (zbind (F_X11_sign zo14.1 zo14.2 46) fun zo17 =>
    F_X11_writeNumber_75 fu fu mm zo8.2 zo17.1 zo17.2 zo8.1 zo11 0)
    else (F_X11_writeNumber_75 fu fu mm zo8.2 zo14.1 zo14.2 zo8.1 zo11 0))
    else (some ((-1), zo8.2, mlin, mliM))
def F_X11_writeQuotient_45 (fu : Nat) : Nat → Int32 → (Nat → Int32) → Int32 → Int32 → (Nat → Int32) → Int32 → Int32 → Int32 → Int32 → Option (Int32 × Int32 × (Nat → Int32) × Int32 × Int32 × (Nat → Int32) × Int32)
  | 0 => fun _ _ _ _ _ _ _ _ _ => none
  | n + 1 => fun mthr mcam mahd magn mlin mliM p1 p2 x3 =>
    if (mahd + (if magn < 20 then magn else 20)) < x3 then (zbind (F_X11_sign mlin mliM 41) fun zo2 =>
    some (zo2.2, mthr, mcam, mahd, magn, zo2.1, zo2.2))
    else (if x3 = (mahd + 1) then (zbind (F_X11_sign mlin mliM 40) fun zo7 =>
    zbind (F_X11_digitOf fu p1 p2 x3) fun zo8 =>
    zbind (F_X11_sign zo7.1 zo7.2 (48 + zo8)) fun zo9 =>
    zlet (x3 + 1) fun zv10 =>
    (F_X11_writeQuotient_45 fu n) mthr mcam mahd magn zo9.1 zo9.2 p1 p2 zv10)
    else (zbind (F_X11_digitOf fu p1 p2 x3) fun zo4 =>
    zbind (F_X11_sign mlin mliM (48 + zo4)) fun zo5 =>
    zlet (x3 + 1) fun zv6 =>
    (F_X11_writeQuotient_45 fu n) mthr mcam mahd magn zo5.1 zo5.2 p1 p2 zv6))
def F_X11_writeQuotient (fu : Nat) (mthr : Int32) (mcam : Nat → Int32) (mahd : Int32) (magn : Int32) (mlin : Nat → Int32) (mliM : Int32) (p1 : Int32) (p2 : Int32) : Option (Int32 × Int32 × (Nat → Int32) × Int32 × Int32 × (Nat → Int32) × Int32) :=
    zbind (F_X11_isQuotient p1 p2) fun zo11 =>
    if zo11 = 0 then (zbind (F_X11_throwing 0 1) fun zo17 =>
    some (zo17.1, zo17.2, mcam, mahd, magn, mlin, mliM))
    else (zbind (F_X11_divides fu mcam mahd magn p1 p2) fun zo13 =>
    if p2 = 0 then none else
    zbind (F_X11_writesWhole fu mlin 0 (p1 / p2)) fun zo15 =>
    zbind (F_X11_sign zo15.1 zo15.2 46) fun zo16 =>
    F_X11_writeQuotient_45 fu fu 0 zo13.1 zo13.2.1 zo13.2.2 zo16.1 zo16.2 p1 p2 1)
def F_X11_outputAt (mthr : Int32) (mlin : Nat → Int32) (mliM : Int32) (p1 : Int32) : Option (Int32 × Int32) :=
    zbind (F_X11_in (Int32.toInt64 p1) 0 (Int32.toInt64 (mliM - 1))) fun zo1 =>
    if zo1 = 0 then (zbind (F_X11_throwing 0 1) fun zo3 =>
    if ¬ (0 ≤ (zchar zo3.1) ∧ (zchar zo3.1) ≤ 65535) then none else
    some ((zchar zo3.1), zo3.2))
    else (if p1 < 0 ∨ 80 ≤ Int32.toNatClampNeg p1 then none else
    if ¬ (0 ≤ (zchar (mlin (Int32.toNatClampNeg p1))) ∧ (zchar (mlin (Int32.toNatClampNeg p1))) ≤ 65535) then none else
    some ((zchar (mlin (Int32.toNatClampNeg p1))), 0))
def F_X11_undo_30 (fu : Nat) : Nat → (Nat → Int64) → (Nat → Int64) → Int32 → Int32 → Int32 → Option (Int32 × (Nat → Int64) × Int32 × Int32)
  | 0 => fun _ _ _ _ _ => none
  | n + 1 => fun mm mpst mchg mthr x1 =>
    if 28 ≤ x1 then (some (mchg, mm, mchg, mthr))
    else (if ((28 * mchg) + x1) < 0 ∨ 224 ≤ Int32.toNatClampNeg ((28 * mchg) + x1) then none else
    if x1 < 0 ∨ 28 ≤ Int32.toNatClampNeg x1 then none else
    zlet (x1 + 1) fun zv4 =>
    (F_X11_undo_30 fu n) (vp_updL mm (Int32.toNatClampNeg x1) (mpst (Int32.toNatClampNeg ((28 * mchg) + x1)))) mpst mchg mthr zv4)
def F_X11_undo (fu : Nat) (mm : Nat → Int64) (mpst : Nat → Int64) (mchg : Int32) (mthr : Int32) : Option (Int32 × (Nat → Int64) × Int32 × Int32) :=
    if mchg = 0 then (zbind (F_X11_throwing 0 1) fun zo6 =>
    some (zo6.1, mm, mchg, zo6.2))
    else (F_X11_undo_30 fu fu mm mpst (mchg - 1) 0 0)
def F_X11_save_7 (fu : Nat) : Nat → (Nat → Int64) → (Nat → Int64) → Int32 → Int32 → Int32 → Option ((Nat → Int64) × Int32 × Int32)
  | 0 => fun _ _ _ _ _ => none
  | n + 1 => fun mm msav misS mthr x1 =>
    if 28 ≤ x1 then (some (msav, 1, mthr))
    else (if x1 < 0 ∨ 28 ≤ Int32.toNatClampNeg x1 then none else
    if x1 < 0 ∨ 28 ≤ Int32.toNatClampNeg x1 then none else
    zlet (x1 + 1) fun zv4 =>
    (F_X11_save_7 fu n) mm (vp_updL msav (Int32.toNatClampNeg x1) (mm (Int32.toNatClampNeg x1))) misS mthr zv4)
def F_X11_save (fu : Nat) (mm : Nat → Int64) (msav : Nat → Int64) (misS : Int32) (mthr : Int32) : Option ((Nat → Int64) × Int32 × Int32) :=
    F_X11_save_7 fu fu mm msav misS 0 0
def F_X11_restore_21 (fu : Nat) : Nat → (Nat → Int64) → (Nat → Int64) → Int32 → Int32 → Int32 → Int32 → Option ((Nat → Int64) × Int32 × Int32)
  | 0 => fun _ _ _ _ _ _ => none
  | n + 1 => fun mm msav misS mchg mthr x1 =>
    if 28 ≤ x1 then (some (mm, 0, mthr))
    else (if x1 < 0 ∨ 28 ≤ Int32.toNatClampNeg x1 then none else
    if x1 < 0 ∨ 28 ≤ Int32.toNatClampNeg x1 then none else
    zlet (x1 + 1) fun zv4 =>
    (F_X11_restore_21 fu n) (vp_updL mm (Int32.toNatClampNeg x1) (msav (Int32.toNatClampNeg x1))) msav misS mchg mthr zv4)
def F_X11_restore (fu : Nat) (mm : Nat → Int64) (msav : Nat → Int64) (misS : Int32) (mchg : Int32) (mthr : Int32) : Option ((Nat → Int64) × Int32 × Int32) :=
    if misS = 0 then (zbind (F_X11_throwing 0 1) fun zo6 =>
    some (mm, mchg, zo6.2))
    else (F_X11_restore_21 fu fu mm msav misS mchg 0 0)
