def F_X11_digitOf_7 (fu : Nat) : Nat → Int32 → Int32 → Int32 → Int32 → Option (Int32)
  | 0 => fun _ _ _ _ => none
  | n + 1 => fun p1 p2 x3 x4 =>
    if p2 ≤ x4 then (if p1 = 0 then none else
    some ((10 * x3) / p1))
    else (if p1 = 0 then none else
    zlet ((10 * x3) - (10 * x3) / p1 * p1) fun zv4 =>
    zlet (x4 + 1) fun zv5 =>
    (F_X11_digitOf_7 fu n) p1 p2 zv4 zv5)
def F_X11_digitOf (fu : Nat) (p0 : Int32) (p1 : Int32) (p2 : Int32) : Option (Int32) :=
    if p1 = 0 then none else
    zlet (p0 - p0 / p1 * p1) fun zv7 =>
    F_X11_digitOf_7 fu fu p1 p2 zv7 1
def F_X11_quotientDigit (fu : Nat) (mthr : Int32) (p1 : Int32) (p2 : Int32) (p3 : Int32) : Option (Int32 × Int32) :=
    zbind (F_X11_isQuotient p1 p2) fun zo1 =>
    if zo1 = 0 then (zbind (F_X11_throwing 0 1) fun zo7 =>
    some (zo7.1, zo7.2))
    else (zbind (F_X11_in (Int32.toInt64 p3) 1 9999) fun zo3 =>
    if zo3 = 0 then (zbind (F_X11_throwing 0 2) fun zo5 =>
    some (zo5.1, zo5.2))
    else (zbind (F_X11_digitOf fu p1 p2 p3) fun zo6 =>
    some (zo6, 0)))
def F_X11_divides_27 (fu : Nat) : Nat → (Nat → Int32) → Int32 → Int32 → Int32 → Int32 → Int32 → Option ((Nat → Int32) × Int32 × Int32)
  | 0 => fun _ _ _ _ _ _ => none
  | n + 1 => fun mcam mahd magn p2 x3 x4 =>
    if x3 < 0 ∨ 999 ≤ Int32.toNatClampNeg x3 then none else
    if (mcam (Int32.toNatClampNeg x3)) = 0 then (if x3 < 0 ∨ 999 ≤ Int32.toNatClampNeg x3 then none else
    if p2 = 0 then none else
    zlet ((10 * x3) - (10 * x3) / p2 * p2) fun zv7 =>
    zlet (x4 + 1) fun zv8 =>
    (F_X11_divides_27 fu n) (upd mcam (Int32.toNatClampNeg x3) x4) mahd magn p2 zv7 zv8)
    else (if x3 < 0 ∨ 999 ≤ Int32.toNatClampNeg x3 then none else
    if x3 < 0 ∨ 999 ≤ Int32.toNatClampNeg x3 then none else
    some (mcam, ((mcam (Int32.toNatClampNeg x3)) - 1), (x4 - (mcam (Int32.toNatClampNeg x3)))))
def F_X11_divides_2 (fu : Nat) : Nat → (Nat → Int32) → Int32 → Int32 → Int32 → Int32 → Int32 → Option ((Nat → Int32) × Int32 × Int32)
  | 0 => fun _ _ _ _ _ _ => none
  | n + 1 => fun mcam mahd magn p1 p2 x3 =>
    if p2 ≤ x3 then (if p2 = 0 then none else
    zlet (p1 - p1 / p2 * p2) fun zv11 =>
    F_X11_divides_27 fu fu mcam mahd magn p2 zv11 1)
    else (if x3 < 0 ∨ 999 ≤ Int32.toNatClampNeg x3 then none else
    zlet (x3 + 1) fun zv13 =>
    (F_X11_divides_2 fu n) (upd mcam (Int32.toNatClampNeg x3) 0) mahd magn p1 p2 zv13)
def F_X11_divides (fu : Nat) (mcam : Nat → Int32) (mahd : Int32) (magn : Int32) (p1 : Int32) (p2 : Int32) : Option ((Nat → Int32) × Int32 × Int32) :=
    F_X11_divides_2 fu fu mcam mahd magn p1 p2 0
def F_X11_preperiod (fu : Nat) (mthr : Int32) (mcam : Nat → Int32) (mahd : Int32) (magn : Int32) (p1 : Int32) (p2 : Int32) : Option (Int32 × Int32 × (Nat → Int32) × Int32 × Int32) :=
    zbind (F_X11_isQuotient p1 p2) fun zo1 =>
    if zo1 = 0 then (zbind (F_X11_throwing 0 1) fun zo4 =>
    some (zo4.1, zo4.2, mcam, mahd, magn))
    else (zbind (F_X11_divides fu mcam mahd magn p1 p2) fun zo3 =>
    some (zo3.2.1, 0, zo3.1, zo3.2.1, zo3.2.2))
def F_X11_period (fu : Nat) (mthr : Int32) (mcam : Nat → Int32) (mahd : Int32) (magn : Int32) (p1 : Int32) (p2 : Int32) : Option (Int32 × Int32 × (Nat → Int32) × Int32 × Int32) :=
    zbind (F_X11_isQuotient p1 p2) fun zo1 =>
    if zo1 = 0 then (zbind (F_X11_throwing 0 1) fun zo4 =>
    some (zo4.1, zo4.2, mcam, mahd, magn))
    else (zbind (F_X11_divides fu mcam mahd magn p1 p2) fun zo3 =>
    some (zo3.2.2, 0, zo3.1, zo3.2.1, zo3.2.2))
def F_X11_periodByPowers (fu : Nat) (mthr : Int32) (mcam : Nat → Int32) (mahd : Int32) (magn : Int32) (p1 : Int32) (p2 : Int32) : Option (Int32 × Int32 × (Nat → Int32) × Int32 × Int32) :=
    zbind (F_X11_period fu mthr mcam mahd magn p1 p2) fun zo1 =>
    some (zo1.1, zo1.2.1, zo1.2.2.1, zo1.2.2.2.1, zo1.2.2.2.2)
def F_X11_total (fu : Nat) (mm : Nat → Int64) (mthr : Int32) : Option (Int64 × Int32) :=
    zbind (F_X11_sum fu mm) fun zo1 =>
    some (zo1, 0)
def F_X11_totalByAccounts (fu : Nat) (mm : Nat → Int64) (mthr : Int32) : Option (Int64 × Int32) :=
    zbind (F_X11_total fu mm mthr) fun zo1 =>
    some (zo1.1, zo1.2)
def F_X11_escapes (mm : Nat → Int64) (mthr : Int32) : Option (Int32 × Int32) :=
    some ((Int64.toInt32 (mm (Int32.toNatClampNeg 2))), 0)
def F_X11_crumbs (mm : Nat → Int64) (mthr : Int32) : Option (Int64 × Int32) :=
    some ((mm (Int32.toNatClampNeg 3)), 0)
def F_X11_isConsistent (mthr : Int32) : Option (Int32 × Int32) :=
    some (1, 0)
def F_X11_append (mthr : Int32) (minp : Nat → Int32) (minM : Int32) (p1 : Int32) : Option (Int32 × Int32 × (Nat → Int32) × Int32) :=
    if minM = 60 then (zbind (F_X11_throwing 0 1) fun zo3 =>
    some (zo3.1, zo3.2, minp, minM))
    else (if minM < 0 ∨ 60 ≤ Int32.toNatClampNeg minM then none else
    some ((minM + 1), 0, (upd minp (Int32.toNatClampNeg minM) p1), (minM + 1)))
def F_X11_here (minp : Nat → Int32) (mpl : Int32) (msz : Int32) : Option (Int32) :=
    if msz ≤ mpl then (some (-1))
    else (if mpl < 0 ∨ 60 ≤ Int32.toNatClampNeg mpl then none else
    some (minp (Int32.toNatClampNeg mpl)))
def F_X11_expects_21 (minp : Nat → Int32) (mpl : Int32) (msz : Int32) (mwr : Int32) (y1 : Int32) : Option (Int32 × Int32) :=
  if ¬ (y1 = 0 ∨ y1 = 1) then none else
    if y1 = 0 then (some ((mpl + 1), y1))
    else (some ((mpl + 0), y1))
def F_X11_expects (minp : Nat → Int32) (mpl : Int32) (msz : Int32) (mwr : Int32) (p1 : Int32) : Option (Int32 × Int32) :=
    if mwr = 0 then (zbind (F_X11_here minp mpl msz) fun zo4 =>
    if zo4 = p1 then (F_X11_expects_21 minp mpl msz mwr 0)
    else (F_X11_expects_21 minp mpl msz mwr 1))
    else (F_X11_expects_21 minp mpl msz mwr 1)
def F_X11_digitHere_51 (minp : Nat → Int32) (mpl : Int32) (msz : Int32) (mwr : Int32) (y0 : Int32) : Option (Int32 × Int32 × Int32) :=
  if mwr = 0 then (some (y0, (mpl + 1), mwr))
    else (some (y0, (mpl + 0), mwr))
def F_X11_digitHere_25 (minp : Nat → Int32) (mpl : Int32) (msz : Int32) (mwr : Int32) : Option (Int32 × Int32 × Int32) :=
  F_X11_digitHere_51 minp mpl msz 1 0
def F_X11_digitHere (minp : Nat → Int32) (mpl : Int32) (msz : Int32) (mwr : Int32) : Option (Int32 × Int32 × Int32) :=
    if mwr = 0 then (zbind (F_X11_here minp mpl msz) fun zo3 =>
    zbind (F_X11_in (Int32.toInt64 zo3) 48 57) fun zo4 =>
    if zo4 = 0 then (F_X11_digitHere_25 minp mpl msz mwr)
    else (zbind (F_X11_here minp mpl msz) fun zo6 =>
    F_X11_digitHere_51 minp mpl msz 0 (zo6 - 48)))
    else (F_X11_digitHere_25 minp mpl msz mwr)
def F_X11_number_7 (fu : Nat) : Nat → (Nat → Int32) → Int32 → Int32 → Int32 → Int32 → Int32 → Option (Int32 × Int32 × Int32)
  | 0 => fun _ _ _ _ _ _ => none
  | n + 1 => fun minp mpl msz mwr x1 x2 =>
    if 5 ≤ x2 then (some (x1, mpl, mwr))
    else (if mwr = 0 then (zbind (F_X11_here minp mpl msz) fun zo3 =>
    zbind (F_X11_in (Int32.toInt64 zo3) 48 57) fun zo4 =>
    if zo4 = 0 then (some (x1, mpl, mwr))
    else (zbind (F_X11_digitHere minp mpl msz mwr) fun zo6 =>
    zlet ((10 * x1) + zo6.1) fun zv7 =>
    zlet (x2 + 1) fun zv8 =>
    (F_X11_number_7 fu n) minp zo6.2.1 msz zo6.2.2 zv7 zv8))
    else (some (x1, mpl, mwr)))
def F_X11_number (fu : Nat) (minp : Nat → Int32) (mpl : Int32) (msz : Int32) (mwr : Int32) : Option (Int32 × Int32 × Int32) :=
    zbind (F_X11_digitHere minp mpl msz mwr) fun zo9 =>
    F_X11_number_7 fu fu minp zo9.2.1 msz zo9.2.2 zo9.1 0
def F_X11_numberBehind (fu : Nat) (minp : Nat → Int32) (mpl : Int32) (msz : Int32) (mwr : Int32) (p1 : Int32) : Option (Int32 × Int32 × Int32) :=
    zbind (F_X11_expects minp mpl msz mwr p1) fun zo1 =>
    zbind (F_X11_number fu minp zo1.1 msz zo1.2) fun zo2 =>
    some (zo2.1, zo2.2.1, zo2.2.2)
def F_X11_digitBehind (minp : Nat → Int32) (mpl : Int32) (msz : Int32) (mwr : Int32) : Option (Int32 × Int32 × Int32) :=
    zbind (F_X11_expects minp mpl msz mwr 32) fun zo1 =>
    zbind (F_X11_digitHere minp zo1.1 msz zo1.2) fun zo2 =>
    some (zo2.1, zo2.2.1, zo2.2.2)
def F_X11_modeBehind_29 (minp : Nat → Int32) (mpl : Int32) (msz : Int32) (mwr : Int32) (y1 : Int32) : Option (Int32 × Int32 × Int32) :=
  if ¬ (y1 = 0 ∨ y1 = 1) then none else
    zbind (F_X11_here minp mpl msz) fun zo2 =>
    if y1 = 0 then (some (zo2, (mpl + 1), y1))
    else (some (zo2, (mpl + 0), y1))
def F_X11_modeBehind (minp : Nat → Int32) (mpl : Int32) (msz : Int32) (mwr : Int32) : Option (Int32 × Int32 × Int32) :=
    zbind (F_X11_expects minp mpl msz mwr 32) fun zo4 =>
    if zo4.2 = 0 then (zbind (F_X11_here minp zo4.1 msz) fun zo6 =>
    zbind (F_X11_isMode zo6) fun zo7 =>
    if zo7 = 0 then (F_X11_modeBehind_29 minp zo4.1 msz zo4.2 1)
    else (F_X11_modeBehind_29 minp zo4.1 msz zo4.2 0))
    else (F_X11_modeBehind_29 minp zo4.1 msz zo4.2 1)
