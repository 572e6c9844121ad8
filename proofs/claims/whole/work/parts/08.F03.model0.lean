def F_X11_thrown (mthr : Int32) : Option (Int32) :=
    some mthr
def F_X11_throwing (mthr : Int32) (p1 : Int32) : Option (Int32 × Int32) :=
    some ((-1), p1)
def F_X11_in (p0 : Int64) (p2 : Int64) (p4 : Int64) : Option (Int32) :=
    if p0 < p2 then (some 0)
    else (if p4 < p0 then (some 0)
    else (some 1))
def F_X11_starts_7 (fu : Nat) : Nat → (Nat → Int64) → (Nat → Int64) → Int32 → Int32 → Option ((Nat → Int64) × Int32)
  | 0 => fun _ _ _ _ => none
  | n + 1 => fun mm masd mthr x1 =>
    if 28 ≤ x1 then (some (masd, mthr))
    else (if x1 < 0 ∨ 28 ≤ Int32.toNatClampNeg x1 then none else
    if x1 < 0 ∨ 28 ≤ Int32.toNatClampNeg x1 then none else
    zlet (x1 + 1) fun zv4 =>
    (F_X11_starts_7 fu n) mm (vp_updL masd (Int32.toNatClampNeg x1) (mm (Int32.toNatClampNeg x1))) mthr zv4)
def F_X11_starts (fu : Nat) (mm : Nat → Int64) (masd : Nat → Int64) (mthr : Int32) : Option ((Nat → Int64) × Int32) :=
    F_X11_starts_7 fu fu mm masd 0 0
def F_X11_ends_59 (fu : Nat) : Nat → (Nat → Int64) → (Nat → Int64) → Int32 → Int32 → Int32 → Option ((Nat → Int64) × Int32)
  | 0 => fun _ _ _ _ _ => none
  | n + 1 => fun masd mpst mchg mthr x1 =>
    if 28 ≤ x1 then (some (mpst, (mchg + 1)))
    else (if x1 < 0 ∨ 28 ≤ Int32.toNatClampNeg x1 then none else
    if ((28 * mchg) + x1) < 0 ∨ 224 ≤ Int32.toNatClampNeg ((28 * mchg) + x1) then none else
    zlet (x1 + 1) fun zv4 =>
    (F_X11_ends_59 fu n) masd (vp_updL mpst (Int32.toNatClampNeg ((28 * mchg) + x1)) (masd (Int32.toNatClampNeg x1))) mchg mthr zv4)
def F_X11_ends_19 (fu : Nat) : Nat → (Nat → Int64) → (Nat → Int64) → Int32 → Int32 → Int32 → Option ((Nat → Int64) × Int32)
  | 0 => fun _ _ _ _ _ => none
  | n + 1 => fun masd mpst mchg mthr x1 =>
    if 196 ≤ x1 then (F_X11_ends_59 fu fu masd mpst (mchg - 1) mthr 0)
    else (if (x1 + 28) < 0 ∨ 224 ≤ Int32.toNatClampNeg (x1 + 28) then none else
    if x1 < 0 ∨ 224 ≤ Int32.toNatClampNeg x1 then none else
    zlet (x1 + 1) fun zv8 =>
    (F_X11_ends_19 fu n) masd (vp_updL mpst (Int32.toNatClampNeg x1) (mpst (Int32.toNatClampNeg (x1 + 28)))) mchg mthr zv8)
def F_X11_ends (fu : Nat) (masd : Nat → Int64) (mpst : Nat → Int64) (mchg : Int32) (mthr : Int32) : Option ((Nat → Int64) × Int32) :=
    if mthr ≤ 0 then (if mchg = 8 then (F_X11_ends_19 fu fu masd mpst mchg mthr 0)
    else (F_X11_ends_59 fu fu masd mpst mchg mthr 0))
    else (some (mpst, mchg))
def F_X11_at (p0 : Int32) : Option (Int32) :=
    some (4 + (4 * p0))
def F_X11_many (mm : Nat → Int64) : Option (Int32) :=
    some (Int64.toInt32 (mm (Int32.toNatClampNeg 0)))
def F_X11_find_2 (fu : Nat) : Nat → (Nat → Int64) → Int32 → Int32 → Option (Int32)
  | 0 => fun _ _ _ => none
  | n + 1 => fun mm p1 x2 =>
    zbind (F_X11_many mm) fun zo1 =>
    if zo1 ≤ x2 then (some (-1))
    else (zbind (F_X11_at x2) fun zo3 =>
    if zo3 < 0 ∨ 28 ≤ Int32.toNatClampNeg zo3 then none else
    if (mm (Int32.toNatClampNeg zo3)) = (Int32.toInt64 p1) then (some x2)
    else (zlet (x2 + 1) fun zv6 =>
    (F_X11_find_2 fu n) mm p1 zv6))
def F_X11_find (fu : Nat) (mm : Nat → Int64) (p1 : Int32) : Option (Int32) :=
    F_X11_find_2 fu fu mm p1 0
def F_X11_isMode (p0 : Int32) : Option (Int32) :=
    if p0 = 100 then (some 1)
    else (if p0 = 117 then (some 1)
    else (if p0 = 104 then (some 1)
    else (if p0 = 108 then (some 1)
    else (if p0 = 101 then (some 1)
    else (some 0)))))
def F_X11_isScale (p0 : Int32) : Option (Int32) :=
    zbind (F_X11_in (Int32.toInt64 p0) 0 4) fun zo1 =>
    if ¬ (zo1 = 0 ∨ zo1 = 1) then none else
    some zo1
def F_X11_isAmount (p0 : Int32) (p1 : Int32) : Option (Int32) :=
    zbind (F_X11_in (Int32.toInt64 p0) 0 999999) fun zo1 =>
    if zo1 = 0 then (some 0)
    else (zbind (F_X11_in (Int32.toInt64 p1) 0 9999) fun zo3 =>
    if zo3 = 0 then (some 0)
    else (some 1))
def F_X11_units (p0 : Int32) (p1 : Int32) : Option (Int64) :=
    some ((10000 * (Int32.toInt64 p0)) + (Int32.toInt64 p1))
def F_X11_step_6 (fu : Nat) : Nat → Int32 → Int64 → Int32 → Option (Int64)
  | 0 => fun _ _ _ => none
  | n + 1 => fun p0 x1 x3 =>
    if p0 ≤ x3 then (some x1)
    else (zlet (x1 / 10) fun zv2 =>
    zlet (x3 + 1) fun zv3 =>
    (F_X11_step_6 fu n) p0 zv2 zv3)
def F_X11_step (fu : Nat) (p0 : Int32) : Option (Int64) :=
    F_X11_step_6 fu fu p0 10000 0
def F_X11_times_110 (x5 : Int64) (x7 : Int64) (y0 : Int32) : Option (Int64) :=
  if 0 < x7 then (if y0 = 0 then (some x5)
    else (some (x5 + 1)))
    else (some x5)
def F_X11_times_58 (p2 : Int64) (p4 : Int32) (x5 : Int64) (x7 : Int64) (y0 : Int32) : Option (Int64) :=
  if y0 = 0 then (if p4 = 101 then (if p2 < (2 * x7) then (F_X11_times_110 x5 x7 1)
    else (if (2 * x7) = p2 then (if (x5 - x5 / 2 * 2) = 1 then (F_X11_times_110 x5 x7 1)
    else (F_X11_times_110 x5 x7 0))
    else (F_X11_times_110 x5 x7 0)))
    else (F_X11_times_110 x5 x7 0))
    else (F_X11_times_110 x5 x7 1)
def F_X11_times_35 (p2 : Int64) (p4 : Int32) (x5 : Int64) (x7 : Int64) : Option (Int64) :=
  if p4 = 108 then (if p2 < (2 * x7) then (F_X11_times_58 p2 p4 x5 x7 1)
    else (F_X11_times_58 p2 p4 x5 x7 0))
    else (F_X11_times_58 p2 p4 x5 x7 0)
def F_X11_times (p0 : Int64) (p2 : Int64) (p4 : Int32) : Option (Int64) :=
    if p2 = 0 then none else
    zlet (p0 / p2) fun zv11 =>
    if p2 = 0 then none else
    zlet (p0 - p0 / p2 * p2) fun zv13 =>
    if p4 = 117 then (F_X11_times_58 p2 p4 zv11 zv13 1)
    else (if p4 = 104 then (if (2 * zv13) < p2 then (F_X11_times_35 p2 p4 zv11 zv13)
    else (F_X11_times_58 p2 p4 zv11 zv13 1))
    else (F_X11_times_35 p2 p4 zv11 zv13))
def F_X11_round (fu : Nat) (p0 : Int64) (p2 : Int32) (p3 : Int32) : Option (Int64) :=
    zbind (F_X11_step fu p2) fun zo1 =>
    zbind (F_X11_step fu p2) fun zo2 =>
    zbind (F_X11_times p0 zo2 p3) fun zo3 =>
    some (zo1 * zo3)
def F_X11_becomes_64 (fu : Nat) (mm : Nat → Int64) (p1 : Int32) (x4 : Int64) (y1 : Int32) (y2 : Int64) (y3 : Int64) : Option ((Nat → Int64)) :=
  if y1 < 0 ∨ 28 ≤ Int32.toNatClampNeg y1 then none else
    zbind (F_X11_at p1) fun zo2 =>
    if x4 < 10000000000 then (if (zo2 + 1) < 0 ∨ 28 ≤ Int32.toNatClampNeg (zo2 + 1) then none else
    some (vp_updL (vp_updL mm (Int32.toNatClampNeg y1) (y2 + y3)) (Int32.toNatClampNeg (zo2 + 1)) x4))
    else (if (zo2 + 1) < 0 ∨ 28 ≤ Int32.toNatClampNeg (zo2 + 1) then none else
    some (vp_updL (vp_updL mm (Int32.toNatClampNeg y1) (y2 + y3)) (Int32.toNatClampNeg (zo2 + 1)) (x4 - 10000000000)))
def F_X11_becomes (fu : Nat) (mm : Nat → Int64) (p1 : Int32) (p2 : Int64) : Option ((Nat → Int64)) :=
    zbind (F_X11_at p1) fun zo6 =>
    if (zo6 + 2) < 0 ∨ 28 ≤ Int32.toNatClampNeg (zo6 + 2) then none else
    zbind (F_X11_at p1) fun zo8 =>
    if (zo8 + 3) < 0 ∨ 28 ≤ Int32.toNatClampNeg (zo8 + 3) then none else
    zbind (F_X11_round fu p2 (Int64.toInt32 (mm (Int32.toNatClampNeg (zo6 + 2)))) (Int64.toInt32 (mm (Int32.toNatClampNeg (zo8 + 3))))) fun zo10 =>
    if zo10 < 10000000000 then (F_X11_becomes_64 fu (vp_updL mm (Int32.toNatClampNeg 3) ((mm (Int32.toNatClampNeg 3)) + (zo10 - p2))) p1 zo10 2 ((vp_updL mm (Int32.toNatClampNeg 3) ((mm (Int32.toNatClampNeg 3)) + (zo10 - p2))) (Int32.toNatClampNeg 2)) 0)
    else (F_X11_becomes_64 fu (vp_updL mm (Int32.toNatClampNeg 3) ((mm (Int32.toNatClampNeg 3)) + (zo10 - p2))) p1 zo10 2 ((vp_updL mm (Int32.toNatClampNeg 3) ((mm (Int32.toNatClampNeg 3)) + (zo10 - p2))) (Int32.toNatClampNeg 2)) 1)
def F_X11_sum_4 (fu : Nat) : Nat → (Nat → Int64) → Int64 → Int32 → Option (Int64)
  | 0 => fun _ _ _ => none
  | n + 1 => fun mm x1 x3 =>
    zbind (F_X11_many mm) fun zo1 =>
    if zo1 ≤ x3 then (some x1)
    else (zbind (F_X11_at x3) fun zo3 =>
    if (zo3 + 1) < 0 ∨ 28 ≤ Int32.toNatClampNeg (zo3 + 1) then none else
    zlet (x1 + (mm (Int32.toNatClampNeg (zo3 + 1)))) fun zv5 =>
    zlet (x3 + 1) fun zv6 =>
    (F_X11_sum_4 fu n) mm zv5 zv6)
def F_X11_sum (fu : Nat) (mm : Nat → Int64) : Option (Int64) :=
    F_X11_sum_4 fu fu mm 0 0
def F_X11_rest (fu : Nat) (mm : Nat → Int64) (p1 : Int32) (p2 : Int32) : Option (Int64) :=
    zbind (F_X11_at p1) fun zo1 =>
    if (zo1 + 1) < 0 ∨ 28 ≤ Int32.toNatClampNeg (zo1 + 1) then none else
    zbind (F_X11_step fu p2) fun zo3 =>
    if zo3 = 0 then none else
    some ((mm (Int32.toNatClampNeg (zo1 + 1))) - (mm (Int32.toNatClampNeg (zo1 + 1))) / zo3 * zo3)
def F_X11_chooses_87 (k74 : (Nat → Int64) → (Nat → Int32) → Int32 → Int32 → Int32 → Option (Int32 × (Nat → Int32))) (fu : Nat) : Nat → (Nat → Int64) → (Nat → Int32) → Int32 → Int32 → Int32 → Int32 → Int32 → Option (Int32 × (Nat → Int32))
  | 0 => fun _ _ _ _ _ _ _ => none
  | n + 1 => fun mm mUp p1 x4 x5 x6 x7 =>
    zbind (F_X11_many mm) fun zo1 =>
    if zo1 ≤ x7 then (if x6 < 0 ∨ 6 ≤ Int32.toNatClampNeg x6 then none else
    zlet (x5 + 1) fun zv4 =>
    k74 mm (upd mUp (Int32.toNatClampNeg x6) (vp_nar .boolean 1)) p1 x4 zv4)
    else (if x7 < 0 ∨ 6 ≤ Int32.toNatClampNeg x7 then none else
    if (mUp (Int32.toNatClampNeg x7)) = 0 then (if x6 = (-1) then (zlet (x7 + 1) fun zv9 =>
    (F_X11_chooses_87 k74 fu n) mm mUp p1 x4 x5 x7 zv9)
    else (zbind (F_X11_rest fu mm x7 p1) fun zo10 =>
    zbind (F_X11_rest fu mm x6 p1) fun zo11 =>
    if zo11 < zo10 then (zlet (x7 + 1) fun zv14 =>
    (F_X11_chooses_87 k74 fu n) mm mUp p1 x4 x5 x7 zv14)
    else (zlet (x7 + 1) fun zv13 =>
    (F_X11_chooses_87 k74 fu n) mm mUp p1 x4 x5 x6 zv13)))
    else (zlet (x7 + 1) fun zv7 =>
    (F_X11_chooses_87 k74 fu n) mm mUp p1 x4 x5 x6 zv7))
def F_X11_chooses_74 (fu : Nat) : Nat → (Nat → Int64) → (Nat → Int32) → Int32 → Int32 → Int32 → Option (Int32 × (Nat → Int32))
  | 0 => fun _ _ _ _ _ => none
  | n + 1 => fun mm mUp p1 x4 x5 =>
    if x4 ≤ x5 then (some (x4, mUp))
    else (F_X11_chooses_87 (F_X11_chooses_74 fu n) fu fu mm mUp p1 x4 x5 (-1) 0)
def F_X11_chooses_5 (fu : Nat) : Nat → (Nat → Int64) → (Nat → Int32) → Int32 → Int64 → Int32 → Option (Int32 × (Nat → Int32))
  | 0 => fun _ _ _ _ _ => none
  | n + 1 => fun mm mUp p1 x2 x4 =>
    zbind (F_X11_many mm) fun zo16 =>
    if zo16 ≤ x4 then (zbind (F_X11_sum fu mm) fun zo18 =>
    zbind (F_X11_round fu zo18 p1 104) fun zo19 =>
    zbind (F_X11_step fu p1) fun zo20 =>
    if zo20 = 0 then none else
    zlet (Int64.toInt32 ((zo19 - x2) / zo20)) fun zv22 =>
    F_X11_chooses_74 fu fu mm mUp p1 zv22 0)
    else (if x4 < 0 ∨ 6 ≤ Int32.toNatClampNeg x4 then none else
    zbind (F_X11_at x4) fun zo24 =>
    if (zo24 + 1) < 0 ∨ 28 ≤ Int32.toNatClampNeg (zo24 + 1) then none else
    zbind (F_X11_rest fu mm x4 p1) fun zo26 =>
    zlet (x2 + ((mm (Int32.toNatClampNeg (zo24 + 1))) - zo26)) fun zv27 =>
    zlet (x4 + 1) fun zv28 =>
    (F_X11_chooses_5 fu n) mm (upd mUp (Int32.toNatClampNeg x4) (vp_nar .boolean 0)) p1 zv27 zv28)
def F_X11_chooses (fu : Nat) (mm : Nat → Int64) (mUp : Nat → Int32) (p1 : Int32) : Option (Int32 × (Nat → Int32)) :=
    F_X11_chooses_5 fu fu mm mUp p1 0 0
