def F_Jx29ce0_ordinal_8abf5 (k0 : Nat) : Option (Int32) :=
    some (zord k0)
def F_X6_readKind_4 (fu : Nat) : Nat → (Nat → Int32) → Int32 → Int32 → Int32 → Int32 → Option (Option Nat × Int32)
  | 0 => fun _ _ _ _ _ => none
  | n + 1 => fun ptx plen ppos x1 x2 =>
    if 8 ≤ x2 then (some (none, (ppos + x1)))
    else (if x2 < 0 ∨ 8 ≤ Int32.toNatClampNeg x2 then none else
    zbind (F_X6_fittingCharacters fu ptx plen ppos ((Int32.toNatClampNeg x2) + 1)) fun zo3 =>
    if x2 < 0 ∨ 8 ≤ Int32.toNatClampNeg x2 then none else
    zbind (F_J0_length_8abf5 ((Int32.toNatClampNeg x2) + 1)) fun zo5 =>
    if zo3 = zo5 then (if x2 < 0 ∨ 8 ≤ Int32.toNatClampNeg x2 then none else
    some ((some (Int32.toNatClampNeg x2)), (ppos + zo3)))
    else (zlet (if x1 < zo3 then zo3 else x1) fun zv7 =>
    zlet (x2 + 1) fun zv8 =>
    (F_X6_readKind_4 fu n) ptx plen ppos zv7 zv8))
def F_X6_readKind (fu : Nat) (ptx : Nat → Int32) (plen : Int32) (ppos : Int32) : Option (Option Nat × Int32) :=
    F_X6_readKind_4 fu fu ptx plen ppos 0 0
def F_X6_readCommand (fu : Nat) (ptx : Nat → Int32) (plen : Int32) (ppos : Int32) (cc : CC) : Option (Int32 × Int32 × CC) :=
    zbind (F_X6_readKind fu ptx plen ppos) fun zo1 => zopt zo1.1 (some (0, zo1.2, cc)) (fun zk2 =>
    if ¬ (zk2 < 8) then none else
    zbind (F_Jx29ce0_ordinal_8abf5 zk2) fun zo4 =>
    if zo4 < 0 ∨ 8 ≤ Int32.toNatClampNeg zo4 then none else
    if (zsw (Int32.toNatClampNeg zo4)) = 1 then (zbind (F_X6_readDecimal fu ptx plen zo1.2 (zk2, (k_first cc), (k_second cc), (k_whole cc), (k_frac cc), (k_scale cc), (k_mode cc))) fun zo7 =>
    if zo7.1 = 0 then (some (0, zo7.2.1, zo7.2.2))
    else (zbind (F_X6_readCharacter ptx plen zo7.2.1 32) fun zo9 =>
    if zo9.1 = 0 then (some (0, zo9.2, zo7.2.2))
    else (zbind (F_X6_readScaleAndMode fu ptx plen zo9.2 zo7.2.2) fun zo11 =>
    if zo11.1 = 0 then (some (0, zo11.2.1, zo11.2.2))
    else (some (1, zo11.2.1, zo11.2.2)))))
    else if (zsw (Int32.toNatClampNeg zo4)) = 2 then (zbind (F_X6_readFirst fu ptx plen zo1.2 (zk2, (k_first cc), (k_second cc), (k_whole cc), (k_frac cc), (k_scale cc), (k_mode cc))) fun zo14 =>
    if zo14.1 = 0 then (some (0, zo14.2.1, zo14.2.2))
    else (zbind (F_X6_readCharacter ptx plen zo14.2.1 47) fun zo16 =>
    if zo16.1 = 0 then (some (0, zo16.2, zo14.2.2))
    else (zbind (F_X6_readSecond fu ptx plen zo16.2 zo14.2.2) fun zo18 =>
    if zo18.1 = 0 then (some (0, zo18.2.1, zo18.2.2))
    else (zbind (F_X6_readCharacter ptx plen zo18.2.1 32) fun zo20 =>
    if zo20.1 = 0 then (some (0, zo20.2, zo18.2.2))
    else (zbind (F_X6_readScaleAndMode fu ptx plen zo20.2 zo18.2.2) fun zo22 =>
    if zo22.1 = 0 then (some (0, zo22.2.1, zo22.2.2))
    else (some (1, zo22.2.1, zo22.2.2)))))))
    else if (zsw (Int32.toNatClampNeg zo4)) = 3 then (zbind (F_X6_readFirst fu ptx plen zo1.2 (zk2, (k_first cc), (k_second cc), (k_whole cc), (k_frac cc), (k_scale cc), (k_mode cc))) fun zo25 =>
    if ¬ (zo25.1 = 0 ∨ zo25.1 = 1) then none else
    some (zo25.1, zo25.2.1, zo25.2.2))
    else if (zsw (Int32.toNatClampNeg zo4)) = 4 then (zbind (F_X6_readFirst fu ptx plen zo1.2 (zk2, (k_first cc), (k_second cc), (k_whole cc), (k_frac cc), (k_scale cc), (k_mode cc))) fun zo28 =>
    if zo28.1 = 0 then (some (0, zo28.2.1, zo28.2.2))
    else (zbind (F_X6_readCharacter ptx plen zo28.2.1 32) fun zo30 =>
    if zo30.1 = 0 then (some (0, zo30.2, zo28.2.2))
    else (zbind (F_X6_readDecimal fu ptx plen zo30.2 zo28.2.2) fun zo32 =>
    if zo32.1 = 0 then (some (0, zo32.2.1, zo32.2.2))
    else (some (1, zo32.2.1, zo32.2.2)))))
    else if (zsw (Int32.toNatClampNeg zo4)) = 5 then (zbind (F_X6_readFirst fu ptx plen zo1.2 (zk2, (k_first cc), (k_second cc), (k_whole cc), (k_frac cc), (k_scale cc), (k_mode cc))) fun zo35 =>
    if zo35.1 = 0 then (some (0, zo35.2.1, zo35.2.2))
    else (zbind (F_X6_readCharacter ptx plen zo35.2.1 45) fun zo37 =>
    if zo37.1 = 0 then (some (0, zo37.2, zo35.2.2))
    else (zbind (F_X6_readSecond fu ptx plen zo37.2 zo35.2.2) fun zo39 =>
    if zo39.1 = 0 then (some (0, zo39.2.1, zo39.2.2))
    else (zbind (F_X6_readCharacter ptx plen zo39.2.1 32) fun zo41 =>
    if zo41.1 = 0 then (some (0, zo41.2, zo39.2.2))
    else (zbind (F_X6_readDecimal fu ptx plen zo41.2 zo39.2.2) fun zo43 =>
    if zo43.1 = 0 then (some (0, zo43.2.1, zo43.2.2))
    else (some (1, zo43.2.1, zo43.2.2)))))))
    else if (zsw (Int32.toNatClampNeg zo4)) = 6 then (zbind (F_X6_readFirst fu ptx plen zo1.2 (zk2, (k_first cc), (k_second cc), (k_whole cc), (k_frac cc), (k_scale cc), (k_mode cc))) fun zo46 =>
    if zo46.1 = 0 then (some (0, zo46.2.1, zo46.2.2))
    else (zbind (F_X6_readCharacter ptx plen zo46.2.1 32) fun zo48 =>
    if zo48.1 = 0 then (some (0, zo48.2, zo46.2.2))
    else (zbind (F_X6_readScale ptx plen zo48.2 zo46.2.2) fun zo50 =>
    if zo50.1 = 0 then (some (0, zo50.2.1, zo50.2.2))
    else (some (1, zo50.2.1, zo50.2.2)))))
    else if (zsw (Int32.toNatClampNeg zo4)) = 7 then (zbind (F_X6_readFirst fu ptx plen zo1.2 (zk2, (k_first cc), (k_second cc), (k_whole cc), (k_frac cc), (k_scale cc), (k_mode cc))) fun zo53 =>
    if zo53.1 = 0 then (some (0, zo53.2.1, zo53.2.2))
    else (zbind (F_X6_readCharacter ptx plen zo53.2.1 32) fun zo55 =>
    if zo55.1 = 0 then (some (0, zo55.2, zo53.2.2))
    else (zbind (F_X6_readMode fu ptx plen zo55.2 zo53.2.2) fun zo57 =>
    if zo57.1 = 0 then (some (0, zo57.2.1, zo57.2.2))
    else (some (1, zo57.2.1, zo57.2.2)))))
    else (zbind (F_X6_readScale ptx plen zo1.2 (zk2, (k_first cc), (k_second cc), (k_whole cc), (k_frac cc), (k_scale cc), (k_mode cc))) fun zo59 =>
    if ¬ (zo59.1 = 0 ∨ zo59.1 = 1) then none else
    some (zo59.1, zo59.2.1, zo59.2.2)))
def F_X6_read_10 (fu : Nat) : Nat → (Nat → Int32) → Int32 → Int32 → Int32 → (Nat → CC) → Option (Int32 × Int32 × Int32 × (Nat → CC))
  | 0 => fun _ _ _ _ _ => none
  | n + 1 => fun ptx plen ppos pcnt cmds =>
    if 9 ≤ pcnt then (some (0, ppos, pcnt, cmds))
    else (if pcnt < 0 ∨ 9 ≤ Int32.toNatClampNeg pcnt then none else
    zbind (F_X6_readCommand fu ptx plen ppos (cmds (Int32.toNatClampNeg pcnt))) fun zo3 =>
    if zo3.1 = 0 then (some (0, zo3.2.1, pcnt, (fun i => if i = (Int32.toNatClampNeg pcnt) then zo3.2.2 else cmds i)))
    else (if zo3.2.1 = plen then (some (1, zo3.2.1, (pcnt + 1), (fun i => if i = (Int32.toNatClampNeg pcnt) then zo3.2.2 else cmds i)))
    else (zbind (F_X6_readCharacter ptx plen zo3.2.1 59) fun zo6 =>
    if zo6.1 = 0 then (some (0, zo6.2, (pcnt + 1), (fun i => if i = (Int32.toNatClampNeg pcnt) then zo3.2.2 else cmds i)))
    else ((F_X6_read_10 fu n) ptx plen zo6.2 (pcnt + 1) (fun i => if i = (Int32.toNatClampNeg pcnt) then zo3.2.2 else cmds i)))))
def F_X6_read (fu : Nat) (ptx : Nat → Int32) (plen : Int32) (ppos : Int32) (pcnt : Int32) (cmds : Nat → CC) : Option (Int32 × Int32 × Int32 × (Nat → CC)) :=
    F_X6_read_10 fu fu ptx plen 0 0 cmds
def F_X2_remember (st : SS) (hst : Nat → SS) (spare : Int32) : Option ((Nat → SS)) :=
    if spare < 0 ∨ 9 ≤ Int32.toNatClampNeg spare then none else
    zbind (F_X8_copyFrom (hst (Int32.toNatClampNeg spare)) st) fun zo2 =>
    some (fun i => if i = (Int32.toNatClampNeg spare) then zo2 else hst i)
def F_X2_takeBack (st : SS) (hst : Nat → SS) (spare : Int32) : Option (SS) :=
    if spare < 0 ∨ 9 ≤ Int32.toNatClampNeg spare then none else
    zbind (F_X8_copyFrom st (hst (Int32.toNatClampNeg spare))) fun zo2 =>
    some zo2
def F_X2_keep (spare : Int32) (undo : Int32) : Option (Int32 × Int32) :=
    if spare = 8 then (some (0, (if 8 < (undo + 1) then 8 else (undo + 1))))
    else (some ((spare + 1), (if 8 < (undo + 1) then 8 else (undo + 1))))
def F_X2_goBack_19 (st : SS) (hst : Nat → SS) (spare : Int32) (undo : Int32) (y1 : Int32) : Option (SS × Int32 × Int32) :=
  zbind (F_X2_takeBack st hst y1) fun zo1 =>
    some (zo1, y1, (undo - 1))
def F_X2_goBack (st : SS) (hst : Nat → SS) (spare : Int32) (undo : Int32) : Option (SS × Int32 × Int32) :=
    if spare = 0 then (F_X2_goBack_19 st hst spare undo 8)
    else (F_X2_goBack_19 st hst spare undo (spare - 1))
