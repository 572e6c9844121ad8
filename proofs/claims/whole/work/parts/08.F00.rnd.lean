def F_X7_stepOf (p0 : Int32) : Option (Int64) :=
    if p0 = 0 then (some 10000)
    else if p0 = 1 then (some 1000)
    else if p0 = 2 then (some 100)
    else if p0 = 3 then (some 10)
    else (some 1)
def F_X7_goesAbove (p0 : Int64) (p2 : Int64) (p4 : Int64) (p6 : Int32) : Option (Int32) :=
    if p2 = 0 then (some 0)
    else (if p6 = 100 then (some 0)
    else (if p6 = 117 then (some 1)
    else (zlet ((2 * p2) - p4) fun zv4 =>
    if zv4 = 0 then (if p6 = 104 then (some 1)
    else (if p6 = 101 then (if (p0 - p0 / 2 * 2) = 0 then (some 0)
    else (some 1))
    else (some 0)))
    else (if 0 < zv4 then (some 1)
    else (some 0)))))
def F_X7_ofSum (p0 : Int64) (p2 : Int32) (p3 : Int32) : Option (Int64) :=
    zbind (F_X7_stepOf p2) fun zo1 =>
    if zo1 = 0 then none else
    zlet (p0 / zo1) fun zv3 =>
    if zo1 = 0 then none else
    zbind (F_X7_goesAbove zv3 (p0 - p0 / zo1 * zo1) zo1 p3) fun zo5 =>
    if zo5 = 0 then (some (zv3 * zo1))
    else (some ((zv3 + 1) * zo1))
def F_X7_ofQuotient (p0 : Int32) (p1 : Int32) (p2 : Int32) (p3 : Int32) : Option (Int64) :=
    zbind (F_X7_stepOf p2) fun zo1 =>
    zlet ((Int32.toInt64 p0) * 10000) fun zv2 =>
    zlet ((Int32.toInt64 p1) * zo1) fun zv3 =>
    if zv3 < 1 then (some 0)
    else (if zv3 = 0 then none else
    zlet (zv2 / zv3) fun zv6 =>
    if zv3 = 0 then none else
    zbind (F_X7_goesAbove zv6 (zv2 - zv2 / zv3 * zv3) zv3 p3) fun zo8 =>
    if zo8 = 0 then (some (zv6 * zo1))
    else (some ((zv6 + 1) * zo1)))
