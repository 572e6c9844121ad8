def F_L_addNumber (fu : Nat) (st : SS) (hst : Nat → SS) (spare : Int32) (undo : Int32) (jo : Nat → Int64) (p1 : Int32) (p2 : Int32) (p3 : Int32) (p4 : Int32) : Option (Int32 × SS × (Nat → SS) × Int32 × Int32 × (Nat → Int64)) :=
    zbind (F_X10_addNumber fu st hst spare undo p1 p2 p3 p4) fun zo1 => zcase zo1 (fun za1 =>
    some (0, za1.2.1, za1.2.2.1, za1.2.2.2.1, za1.2.2.2.2, (vp_updL jo (Int32.toNatClampNeg 0) (Int32.toInt64 za1.1))))
    (fun zw1 => if zw1.1 = 0 then (some (1, zw1.2.1, zw1.2.2.1, zw1.2.2.2.1, zw1.2.2.2.2, jo))
    else if zw1.1 = 1 then (some (2, zw1.2.1, zw1.2.2.1, zw1.2.2.2.1, zw1.2.2.2.2, jo))
    else if zw1.1 = 2 then (some (3, zw1.2.1, zw1.2.2.1, zw1.2.2.2.1, zw1.2.2.2.2, jo))
    else none)
def F_L_addQuotient (fu : Nat) (st : SS) (hst : Nat → SS) (spare : Int32) (undo : Int32) (jo : Nat → Int64) (p1 : Int32) (p2 : Int32) (p3 : Int32) (p4 : Int32) : Option (Int32 × SS × (Nat → SS) × Int32 × Int32 × (Nat → Int64)) :=
    zbind (F_X10_addQuotient fu st hst spare undo p1 p2 p3 p4) fun zo1 => zcase zo1 (fun za1 =>
    some (0, za1.2.1, za1.2.2.1, za1.2.2.2.1, za1.2.2.2.2, (vp_updL jo (Int32.toNatClampNeg 0) (Int32.toInt64 za1.1))))
    (fun zw1 => if zw1.1 = 0 then (some (1, zw1.2.1, zw1.2.2.1, zw1.2.2.2.1, zw1.2.2.2.2, jo))
    else if zw1.1 = 1 then (some (2, zw1.2.1, zw1.2.2.1, zw1.2.2.2.1, zw1.2.2.2.2, jo))
    else none)
def F_L_remove (fu : Nat) (st : SS) (hst : Nat → SS) (spare : Int32) (undo : Int32) (jo : Nat → Int64) (p1 : Int32) : Option (Int32 × SS × (Nat → SS) × Int32 × Int32 × (Nat → Int64)) :=
    zbind (F_X10_remove fu st hst spare undo p1) fun zo1 => zcase zo1 (fun za1 =>
    some (0, za1.2.1, za1.2.2.1, za1.2.2.2.1, za1.2.2.2.2, (vp_updL jo (Int32.toNatClampNeg 0) za1.1)))
    (fun zw1 => if zw1.1 = 3 then (some (1, zw1.2.1, zw1.2.2.1, zw1.2.2.2.1, zw1.2.2.2.2, jo))
    else none)
def F_L_feed (fu : Nat) (st : SS) (hst : Nat → SS) (spare : Int32) (undo : Int32) (jo : Nat → Int64) (p1 : Int32) (p2 : Int32) (p3 : Int32) : Option (Int32 × SS × (Nat → SS) × Int32 × Int32 × (Nat → Int64)) :=
    zbind (F_X10_feed fu st hst spare undo p1 p2 p3) fun zo1 => zcase zo1 (fun za1 =>
    some (0, za1.2.1, za1.2.2.1, za1.2.2.2.1, za1.2.2.2.2, (vp_updL jo (Int32.toNatClampNeg 0) za1.1)))
    (fun zw1 => if zw1.1 = 0 then (some (2, zw1.2.1, zw1.2.2.1, zw1.2.2.2.1, zw1.2.2.2.2, jo))
    else if zw1.1 = 3 then (some (1, zw1.2.1, zw1.2.2.1, zw1.2.2.2.1, zw1.2.2.2.2, jo))
    else none)
def F_L_trade (fu : Nat) (st : SS) (hst : Nat → SS) (spare : Int32) (undo : Int32) (jo : Nat → Int64) (p1 : Int32) (p2 : Int32) (p3 : Int32) (p4 : Int32) : Option (Int32 × SS × (Nat → SS) × Int32 × Int32 × (Nat → Int64)) :=
    zbind (F_X10_trade fu st hst spare undo p1 p2 p3 p4) fun zo1 => zcase zo1 (fun za1 =>
    some (0, za1.2.1, za1.2.2.1, za1.2.2.2.1, za1.2.2.2.2, (vp_updL jo (Int32.toNatClampNeg 0) za1.1)))
    (fun zw1 => if zw1.1 = 0 then (some (2, zw1.2.1, zw1.2.2.1, zw1.2.2.2.1, zw1.2.2.2.2, jo))
    else if zw1.1 = 1 then (some (3, zw1.2.1, zw1.2.2.1, zw1.2.2.2.1, zw1.2.2.2.2, jo))
    else if zw1.1 = 2 then (some (4, zw1.2.1, zw1.2.2.1, zw1.2.2.2.1, zw1.2.2.2.2, jo))
    else if zw1.1 = 3 then (some (1, zw1.2.1, zw1.2.2.1, zw1.2.2.2.1, zw1.2.2.2.2, jo))
    else none)
def F_L_setScale (fu : Nat) (st : SS) (hst : Nat → SS) (spare : Int32) (undo : Int32) (jo : Nat → Int64) (p1 : Int32) (p2 : Int32) : Option (Int32 × SS × (Nat → SS) × Int32 × Int32 × (Nat → Int64)) :=
    zbind (F_X10_setScale fu st hst spare undo p1 p2) fun zo1 => zcase zo1 (fun za1 =>
    some (0, za1.2.1, za1.2.2.1, za1.2.2.2.1, za1.2.2.2.2, (vp_updL jo (Int32.toNatClampNeg 0) (Int32.toInt64 za1.1))))
    (fun zw1 => if zw1.1 = 0 then (some (2, zw1.2.1, zw1.2.2.1, zw1.2.2.2.1, zw1.2.2.2.2, jo))
    else if zw1.1 = 3 then (some (1, zw1.2.1, zw1.2.2.1, zw1.2.2.2.1, zw1.2.2.2.2, jo))
    else none)
def F_L_setMode (fu : Nat) (st : SS) (hst : Nat → SS) (spare : Int32) (undo : Int32) (jo : Nat → Int64) (p1 : Int32) (p2 : Int32) : Option (Int32 × SS × (Nat → SS) × Int32 × Int32 × (Nat → Int64)) :=
    zbind (F_X10_setMode fu st hst spare undo p1 p2) fun zo1 => zcase zo1 (fun za1 =>
    some (0, za1.2.1, za1.2.2.1, za1.2.2.2.1, za1.2.2.2.2, (vp_updL jo (Int32.toNatClampNeg 0) (Int32.toInt64 za1.1))))
    (fun zw1 => if zw1.1 = 0 then (some (2, zw1.2.1, zw1.2.2.1, zw1.2.2.2.1, zw1.2.2.2.2, jo))
    else if zw1.1 = 3 then (some (1, zw1.2.1, zw1.2.2.1, zw1.2.2.2.1, zw1.2.2.2.2, jo))
    else none)
def F_L_roundTogether (fu : Nat) (st : SS) (hst : Nat → SS) (spare : Int32) (undo : Int32) (jo : Nat → Int64) (p1 : Int32) : Option (Int32 × SS × (Nat → SS) × Int32 × Int32 × (Nat → Int64)) :=
    zbind (F_X10_roundTogether fu st hst spare undo p1) fun zo1 => zcase zo1 (fun za1 =>
    some (0, za1.2.1, za1.2.2.1, za1.2.2.2.1, za1.2.2.2.2, (vp_updL jo (Int32.toNatClampNeg 0) (Int32.toInt64 za1.1))))
    (fun zw1 => if zw1.1 = 0 then (some (1, zw1.2.1, zw1.2.2.1, zw1.2.2.2.1, zw1.2.2.2.2, jo))
    else none)
def F_L_numberAt (st : SS) (jo : Nat → Int64) (p1 : Int32) : Option (Int32 × (Nat → Int64)) :=
    zbind (F_X10_numberAt st p1) fun zo1 => zcase zo1 (fun za1 =>
    some (0, (vp_updL jo (Int32.toNatClampNeg 0) (Int32.toInt64 za1))))
    (fun zw1 => if zw1.1 = 4 then (some (1, jo))
    else none)
def F_L_value (fu : Nat) (st : SS) (jo : Nat → Int64) (p1 : Int32) : Option (Int32 × (Nat → Int64)) :=
    zbind (F_X10_value fu st p1) fun zo1 => zcase zo1 (fun za1 =>
    some (0, (vp_updL jo (Int32.toNatClampNeg 0) za1)))
    (fun zw1 => if zw1.1 = 3 then (some (1, jo))
    else none)
def F_L_scale (fu : Nat) (st : SS) (jo : Nat → Int64) (p1 : Int32) : Option (Int32 × (Nat → Int64)) :=
    zbind (F_X10_scale fu st p1) fun zo1 => zcase zo1 (fun za1 =>
    some (0, (vp_updL jo (Int32.toNatClampNeg 0) (Int32.toInt64 za1))))
    (fun zw1 => if zw1.1 = 3 then (some (1, jo))
    else none)
def F_L_mode (fu : Nat) (st : SS) (jo : Nat → Int64) (p1 : Int32) : Option (Int32 × (Nat → Int64)) :=
    zbind (F_X10_mode fu st p1) fun zo1 => zcase zo1 (fun za1 =>
    some (0, (vp_updL jo (Int32.toNatClampNeg 0) (Int32.toInt64 za1))))
    (fun zw1 => if zw1.1 = 3 then (some (1, jo))
    else none)
def F_L_digit (fu : Nat) (st : SS) (jo : Nat → Int64) (p1 : Int32) (p2 : Int32) : Option (Int32 × (Nat → Int64)) :=
    zbind (F_X10_digit fu st p1 p2) fun zo1 => zcase zo1 (fun za1 =>
    some (0, (vp_updL jo (Int32.toNatClampNeg 0) (Int32.toInt64 za1))))
    (fun zw1 => if zw1.1 = 3 then (some (1, jo))
    else if zw1.1 = 4 then (some (2, jo))
    else none)
def F_L_digitSum (fu : Nat) (st : SS) (jo : Nat → Int64) (p1 : Int32) : Option (Int32 × (Nat → Int64)) :=
    zbind (F_X10_digitSum fu st p1) fun zo1 => zcase zo1 (fun za1 =>
    some (0, (vp_updL jo (Int32.toNatClampNeg 0) (Int32.toInt64 za1))))
    (fun zw1 => if zw1.1 = 3 then (some (1, jo))
    else none)
def F_L_numberAtRank (fu : Nat) (st : SS) (jo : Nat → Int64) (p1 : Int32) : Option (Int32 × (Nat → Int64)) :=
    zbind (F_X10_numberAtRank fu st p1) fun zo1 => zcase zo1 (fun za1 =>
    some (0, (vp_updL jo (Int32.toNatClampNeg 0) (Int32.toInt64 za1))))
    (fun zw1 => if zw1.1 = 4 then (some (1, jo))
    else none)
def F_L_rounded (fu : Nat) (st : SS) (jo : Nat → Int64) (p1 : Int32) (p2 : Int32) (p3 : Int32) : Option (Int32 × (Nat → Int64)) :=
    zbind (F_X10_rounded fu st p1 p2 p3) fun zo1 => zcase zo1 (fun za1 =>
    some (0, (vp_updL jo (Int32.toNatClampNeg 0) za1)))
    (fun zw1 => if zw1.1 = 0 then (some (2, jo))
    else if zw1.1 = 3 then (some (1, jo))
    else none)
def F_L_part (fu : Nat) (st : SS) (jo : Nat → Int64) (p1 : Int32) (p2 : Int32) (p3 : Int32) : Option (Int32 × (Nat → Int64)) :=
    zbind (F_X10_part fu st p1 p2 p3) fun zo1 => zcase zo1 (fun za1 =>
    some (0, (vp_updL jo (Int32.toNatClampNeg 0) za1)))
    (fun zw1 => if zw1.1 = 0 then (some (2, jo))
    else if zw1.1 = 3 then (some (1, jo))
    else if zw1.1 = 4 then (some (3, jo))
    else none)
def F_L_carries (fu : Nat) (st : SS) (jo : Nat → Int64) (p1 : Int32) (p2 : Int32) (p3 : Int32) : Option (Int32 × (Nat → Int64)) :=
    zbind (F_X10_carries fu st p1 p2 p3) fun zo1 => zcase zo1 (fun za1 =>
    some (0, (vp_updL jo (Int32.toNatClampNeg 0) (Int32.toInt64 za1))))
    (fun zw1 => if zw1.1 = 0 then (some (2, jo))
    else if zw1.1 = 3 then (some (1, jo))
    else none)
def F_L_carriesBySums (fu : Nat) (st : SS) (jo : Nat → Int64) (p1 : Int32) (p2 : Int32) (p3 : Int32) : Option (Int32 × (Nat → Int64)) :=
    zbind (F_X10_carriesBySums fu st p1 p2 p3) fun zo1 => zcase zo1 (fun za1 =>
    some (0, (vp_updL jo (Int32.toNatClampNeg 0) (Int32.toInt64 za1))))
    (fun zw1 => if zw1.1 = 0 then (some (2, jo))
    else if zw1.1 = 3 then (some (1, jo))
    else none)
def F_L_longestCarry (fu : Nat) (st : SS) (jo : Nat → Int64) (p1 : Int32) (p2 : Int32) (p3 : Int32) : Option (Int32 × (Nat → Int64)) :=
    zbind (F_X10_longestCarry fu st p1 p2 p3) fun zo1 => zcase zo1 (fun za1 =>
    some (0, (vp_updL jo (Int32.toNatClampNeg 0) (Int32.toInt64 za1))))
    (fun zw1 => if zw1.1 = 0 then (some (2, jo))
    else if zw1.1 = 3 then (some (1, jo))
    else none)
def F_L_togetherError (fu : Nat) (st : SS) (jo : Nat → Int64) (p1 : Int32) : Option (Int32 × (Nat → Int64)) :=
    zbind (F_X10_togetherError fu st p1) fun zo1 => zcase zo1 (fun za1 =>
    some (0, (vp_updL jo (Int32.toNatClampNeg 0) za1)))
    (fun zw1 => if zw1.1 = 0 then (some (1, jo))
    else none)
def F_L_togetherErrorBySets (fu : Nat) (st : SS) (jo : Nat → Int64) (p1 : Int32) : Option (Int32 × (Nat → Int64)) :=
    zbind (F_X10_togetherErrorBySets fu st p1) fun zo1 => zcase zo1 (fun za1 =>
    some (0, (vp_updL jo (Int32.toNatClampNeg 0) za1)))
    (fun zw1 => if zw1.1 = 0 then (some (1, jo))
    else none)
def F_L_goesUp (fu : Nat) (st : SS) (jo : Nat → Int64) (p1 : Int32) (p2 : Int32) : Option (Int32 × (Nat → Int64)) :=
    zbind (F_X10_goesUp fu st p1 p2) fun zo1 => zcase zo1 (fun za1 =>
    if za1 = 0 then (some (0, (vp_updL jo (Int32.toNatClampNeg 0) 0)))
    else (some (0, (vp_updL jo (Int32.toNatClampNeg 0) 1))))
    (fun zw1 => if zw1.1 = 0 then (some (2, jo))
    else if zw1.1 = 3 then (some (1, jo))
    else none)
def F_L_quotientDigit (fu : Nat) (jo : Nat → Int64) (p1 : Int32) (p2 : Int32) (p3 : Int32) : Option (Int32 × (Nat → Int64)) :=
    zbind (F_X10_quotientDigit fu p1 p2 p3) fun zo1 => zcase zo1 (fun za1 =>
    some (0, (vp_updL jo (Int32.toNatClampNeg 0) (Int32.toInt64 za1))))
    (fun zw1 => if zw1.1 = 0 then (some (1, jo))
    else if zw1.1 = 4 then (some (2, jo))
    else none)
def F_L_preperiod (fu : Nat) (seen : Nat → Int32) (dbef : Int32) (drec : Int32) (jo : Nat → Int64) (p1 : Int32) (p2 : Int32) : Option (Int32 × (Nat → Int32) × Int32 × Int32 × (Nat → Int64)) :=
    zbind (F_X10_preperiod fu seen dbef drec p1 p2) fun zo1 => zcase zo1 (fun za1 =>
    some (0, za1.2.1, za1.2.2.1, za1.2.2.2, (vp_updL jo (Int32.toNatClampNeg 0) (Int32.toInt64 za1.1))))
    (fun zw1 => if zw1.1 = 0 then (some (1, zw1.2.1, zw1.2.2.1, zw1.2.2.2, jo))
    else none)
def F_L_period (fu : Nat) (seen : Nat → Int32) (dbef : Int32) (drec : Int32) (jo : Nat → Int64) (p1 : Int32) (p2 : Int32) : Option (Int32 × (Nat → Int32) × Int32 × Int32 × (Nat → Int64)) :=
    zbind (F_X10_period fu seen dbef drec p1 p2) fun zo1 => zcase zo1 (fun za1 =>
    some (0, za1.2.1, za1.2.2.1, za1.2.2.2, (vp_updL jo (Int32.toNatClampNeg 0) (Int32.toInt64 za1.1))))
    (fun zw1 => if zw1.1 = 0 then (some (1, zw1.2.1, zw1.2.2.1, zw1.2.2.2, jo))
    else none)
def F_L_periodByPowers (fu : Nat) (jo : Nat → Int64) (p1 : Int32) (p2 : Int32) : Option (Int32 × (Nat → Int64)) :=
    zbind (F_X10_periodByPowers fu p1 p2) fun zo1 => zcase zo1 (fun za1 =>
    some (0, (vp_updL jo (Int32.toNatClampNeg 0) (Int32.toInt64 za1))))
    (fun zw1 => if zw1.1 = 0 then (some (1, jo))
    else none)
def F_L_append (ptx : Nat → Int32) (plen : Int32) (jo : Nat → Int64) (p1 : Int32) : Option (Int32 × (Nat → Int32) × Int32 × (Nat → Int64)) :=
    zbind (F_X10_append ptx plen p1) fun zo1 => zcase zo1 (fun za1 =>
    some (0, za1.2.1, za1.2.2, (vp_updL jo (Int32.toNatClampNeg 0) (Int32.toInt64 za1.1))))
    (fun zw1 => if zw1.1 = 1 then (some (1, zw1.2.1, zw1.2.2, jo))
    else none)
def F_L_run (fu : Nat) (st : SS) (hst : Nat → SS) (spare : Int32) (undo : Int32) (ptx : Nat → Int32) (plen : Int32) (ppos : Int32) (pcnt : Int32) (cmds : Nat → CC) (stE : Int32) (stF : Int32) (jo : Nat → Int64) : Option (Int32 × SS × (Nat → SS) × Int32 × Int32 × Int32 × Int32 × Int32 × (Nat → CC) × Int32 × Int32 × (Nat → Int64)) :=
    zbind (F_X10_run fu st hst spare undo ptx plen ppos pcnt cmds stE stF) fun zo1 => zcase zo1 (fun za1 =>
    some (0, za1.2.1, za1.2.2.1, za1.2.2.2.1, za1.2.2.2.2.1, za1.2.2.2.2.2.1, za1.2.2.2.2.2.2.1, za1.2.2.2.2.2.2.2.1, za1.2.2.2.2.2.2.2.2.1, za1.2.2.2.2.2.2.2.2.2.1, za1.2.2.2.2.2.2.2.2.2.2, (vp_updL jo (Int32.toNatClampNeg 0) (Int32.toInt64 za1.1))))
    (fun zw1 => if zw1.1 = 0 then (some (1, zw1.2.1, zw1.2.2.1, zw1.2.2.2.1, zw1.2.2.2.2.1, zw1.2.2.2.2.2.1, zw1.2.2.2.2.2.2.1, zw1.2.2.2.2.2.2.2.1, zw1.2.2.2.2.2.2.2.2.1, zw1.2.2.2.2.2.2.2.2.2.1, zw1.2.2.2.2.2.2.2.2.2.2, jo))
    else if zw1.1 = 2 then (some (2, zw1.2.1, zw1.2.2.1, zw1.2.2.2.1, zw1.2.2.2.2.1, zw1.2.2.2.2.2.1, zw1.2.2.2.2.2.2.1, zw1.2.2.2.2.2.2.2.1, zw1.2.2.2.2.2.2.2.2.1, zw1.2.2.2.2.2.2.2.2.2.1, zw1.2.2.2.2.2.2.2.2.2.2, jo))
    else none)
def F_L_errorPosition (stE : Int32) (jo : Nat → Int64) : Option (Int32 × (Nat → Int64)) :=
    zbind (F_X10_errorPosition stE) fun zo1 => zcase zo1 (fun za1 =>
    some (0, (vp_updL jo (Int32.toNatClampNeg 0) (Int32.toInt64 za1))))
    (fun zw1 => if zw1.1 = 3 then (some (1, jo))
    else none)
def F_L_failedCommand (stF : Int32) (jo : Nat → Int64) : Option (Int32 × (Nat → Int64)) :=
    zbind (F_X10_failedCommand stF) fun zo1 => zcase zo1 (fun za1 =>
    some (0, (vp_updL jo (Int32.toNatClampNeg 0) (Int32.toInt64 za1))))
    (fun zw1 => if zw1.1 = 3 then (some (1, jo))
    else none)
def F_L_writeNumber (fu : Nat) (st : SS) (lch : Nat → Int32) (llen : Int32) (jo : Nat → Int64) (p1 : Int32) : Option (Int32 × (Nat → Int32) × Int32 × (Nat → Int64)) :=
    zbind (F_X10_writeNumber fu st lch llen p1) fun zo1 => zcase zo1 (fun za1 =>
    some (0, za1.2.1, za1.2.2, (vp_updL jo (Int32.toNatClampNeg 0) (Int32.toInt64 za1.1))))
    (fun zw1 => if zw1.1 = 3 then (some (1, zw1.2.1, zw1.2.2, jo))
    else none)
def F_L_writeQuotient (fu : Nat) (seen : Nat → Int32) (dbef : Int32) (drec : Int32) (lch : Nat → Int32) (llen : Int32) (jo : Nat → Int64) (p1 : Int32) (p2 : Int32) : Option (Int32 × (Nat → Int32) × Int32 × Int32 × (Nat → Int32) × Int32 × (Nat → Int64)) :=
    zbind (F_X10_writeQuotient fu seen dbef drec lch llen p1 p2) fun zo1 => zcase zo1 (fun za1 =>
    some (0, za1.2.1, za1.2.2.1, za1.2.2.2.1, za1.2.2.2.2.1, za1.2.2.2.2.2, (vp_updL jo (Int32.toNatClampNeg 0) (Int32.toInt64 za1.1))))
    (fun zw1 => if zw1.1 = 0 then (some (1, zw1.2.1, zw1.2.2.1, zw1.2.2.2.1, zw1.2.2.2.2.1, zw1.2.2.2.2.2, jo))
    else none)
def F_L_outputAt (lch : Nat → Int32) (llen : Int32) (jo : Nat → Int64) (p1 : Int32) : Option (Int32 × (Nat → Int64)) :=
    zbind (F_X10_outputAt lch llen p1) fun zo1 => zcase zo1 (fun za1 =>
    some (0, (vp_updL jo (Int32.toNatClampNeg 0) (Int32.toInt64 za1))))
    (fun zw1 => if zw1.1 = 4 then (some (1, jo))
    else none)
def F_L_undo (st : SS) (hst : Nat → SS) (spare : Int32) (undo : Int32) (jo : Nat → Int64) : Option (Int32 × SS × Int32 × Int32 × (Nat → Int64)) :=
    zbind (F_X10_undo st hst spare undo) fun zo1 => zcase zo1 (fun za1 =>
    some (0, za1.2.1, za1.2.2.1, za1.2.2.2, (vp_updL jo (Int32.toNatClampNeg 0) (Int32.toInt64 za1.1))))
    (fun zw1 => if zw1.1 = 1 then (some (1, zw1.2.1, zw1.2.2.1, zw1.2.2.2, jo))
    else none)
def F_L_restore (st : SS) (sv : SS) (isS : Int32) (undo : Int32) : Option (Int32 × SS × Int32) :=
    zbind (F_X10_restore st sv isS undo) fun zo1 => zcase zo1 (fun za1 =>
    some (0, za1.1, za1.2))
    (fun zw1 => if zw1.1 = 1 then (some (1, zw1.2.1, zw1.2.2))
    else none)
