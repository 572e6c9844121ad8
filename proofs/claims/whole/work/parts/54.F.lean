def F_X10_addNumber (fu : Nat) (st : SS) (hst : Nat → SS) (spare : Int32) (undo : Int32) (p1 : Int32) (p2 : Int32) (p3 : Int32) (p4 : Int32) : Option (Except (Nat × (SS × (Nat → SS) × Int32 × Int32)) (Int32 × SS × (Nat → SS) × Int32 × Int32)) :=
    zbind (F_X2_remember st hst spare) fun zo1 =>
    zbind (F_X10_enterNumber fu st p1 p2 p3 p4) fun zo2 => zcase zo2 (fun za2 =>
    zbind (F_X2_keep spare undo) fun zo3 =>
    some (.ok (za2.1, za2.2, zo1, zo3.1, zo3.2)))
    (fun zw2 => some (.error (zw2.1, (zw2.2, zo1, spare, undo))))
def F_X10_addQuotient (fu : Nat) (st : SS) (hst : Nat → SS) (spare : Int32) (undo : Int32) (p1 : Int32) (p2 : Int32) (p3 : Int32) (p4 : Int32) : Option (Except (Nat × (SS × (Nat → SS) × Int32 × Int32)) (Int32 × SS × (Nat → SS) × Int32 × Int32)) :=
    zbind (F_X2_remember st hst spare) fun zo1 =>
    zbind (F_X10_enterQuotient fu st p1 p2 p3 p4) fun zo2 => zcase zo2 (fun za2 =>
    zbind (F_X2_keep spare undo) fun zo3 =>
    some (.ok (za2.1, za2.2, zo1, zo3.1, zo3.2)))
    (fun zw2 => some (.error (zw2.1, (zw2.2, zo1, spare, undo))))
def F_X10_remove (fu : Nat) (st : SS) (hst : Nat → SS) (spare : Int32) (undo : Int32) (p1 : Int32) : Option (Except (Nat × (SS × (Nat → SS) × Int32 × Int32)) (Int64 × SS × (Nat → SS) × Int32 × Int32)) :=
    zbind (F_X2_remember st hst spare) fun zo1 =>
    zbind (F_X10_releaseNumber fu st p1) fun zo2 => zcase zo2 (fun za2 =>
    zbind (F_X2_keep spare undo) fun zo3 =>
    some (.ok (za2.1, za2.2, zo1, zo3.1, zo3.2)))
    (fun zw2 => some (.error (zw2.1, (zw2.2, zo1, spare, undo))))
def F_X10_feed (fu : Nat) (st : SS) (hst : Nat → SS) (spare : Int32) (undo : Int32) (p1 : Int32) (p2 : Int32) (p3 : Int32) : Option (Except (Nat × (SS × (Nat → SS) × Int32 × Int32)) (Int64 × SS × (Nat → SS) × Int32 × Int32)) :=
    zbind (F_X2_remember st hst spare) fun zo1 =>
    zbind (F_X10_feedNumber fu st p1 p2 p3) fun zo2 => zcase zo2 (fun za2 =>
    zbind (F_X2_keep spare undo) fun zo3 =>
    some (.ok (za2.1, za2.2, zo1, zo3.1, zo3.2)))
    (fun zw2 => some (.error (zw2.1, (zw2.2, zo1, spare, undo))))
def F_X10_trade (fu : Nat) (st : SS) (hst : Nat → SS) (spare : Int32) (undo : Int32) (p1 : Int32) (p2 : Int32) (p3 : Int32) (p4 : Int32) : Option (Except (Nat × (SS × (Nat → SS) × Int32 × Int32)) (Int64 × SS × (Nat → SS) × Int32 × Int32)) :=
    zbind (F_X2_remember st hst spare) fun zo1 =>
    zbind (F_X10_tradeAmount fu st p1 p2 p3 p4) fun zo2 => zcase zo2 (fun za2 =>
    zbind (F_X2_keep spare undo) fun zo3 =>
    some (.ok (za2.1, za2.2, zo1, zo3.1, zo3.2)))
    (fun zw2 => some (.error (zw2.1, (zw2.2, zo1, spare, undo))))
def F_X10_setScale (fu : Nat) (st : SS) (hst : Nat → SS) (spare : Int32) (undo : Int32) (p1 : Int32) (p2 : Int32) : Option (Except (Nat × (SS × (Nat → SS) × Int32 × Int32)) (Int32 × SS × (Nat → SS) × Int32 × Int32)) :=
    zbind (F_X2_remember st hst spare) fun zo1 =>
    zbind (F_X10_changeScale fu st p1 p2) fun zo2 => zcase zo2 (fun za2 =>
    zbind (F_X2_keep spare undo) fun zo3 =>
    some (.ok (za2.1, za2.2, zo1, zo3.1, zo3.2)))
    (fun zw2 => some (.error (zw2.1, (zw2.2, zo1, spare, undo))))
def F_X10_setMode (fu : Nat) (st : SS) (hst : Nat → SS) (spare : Int32) (undo : Int32) (p1 : Int32) (p2 : Int32) : Option (Except (Nat × (SS × (Nat → SS) × Int32 × Int32)) (Int32 × SS × (Nat → SS) × Int32 × Int32)) :=
    zbind (F_X2_remember st hst spare) fun zo1 =>
    zbind (F_X10_changeMode fu st p1 p2) fun zo2 => zcase zo2 (fun za2 =>
    zbind (F_X2_keep spare undo) fun zo3 =>
    if ¬ (0 ≤ za2.1 ∧ za2.1 ≤ 65535) then none else
    some (.ok (za2.1, za2.2, zo1, zo3.1, zo3.2)))
    (fun zw2 => some (.error (zw2.1, (zw2.2, zo1, spare, undo))))
def F_X10_roundTogether (fu : Nat) (st : SS) (hst : Nat → SS) (spare : Int32) (undo : Int32) (p1 : Int32) : Option (Except (Nat × (SS × (Nat → SS) × Int32 × Int32)) (Int32 × SS × (Nat → SS) × Int32 × Int32)) :=
    zbind (F_X2_remember st hst spare) fun zo1 =>
    zbind (F_X10_roundAll fu st p1) fun zo2 => zcase zo2 (fun za2 =>
    zbind (F_X2_keep spare undo) fun zo3 =>
    some (.ok (za2.1, za2.2, zo1, zo3.1, zo3.2)))
    (fun zw2 => some (.error (zw2.1, (zw2.2, zo1, spare, undo))))
def F_X10_undo (st : SS) (hst : Nat → SS) (spare : Int32) (undo : Int32) : Option (Except (Nat × (SS × Int32 × Int32)) (Int32 × SS × Int32 × Int32)) :=
    if undo = 0 then (some (.error (1, (st, spare, undo))))
    else (zbind (F_X2_goBack st hst spare undo) fun zo2 =>
    some (.ok (zo2.2.2, zo2.1, zo2.2.1, zo2.2.2)))
def F_X10_restore (st : SS) (sv : SS) (isS : Int32) (undo : Int32) : Option (Except (Nat × (SS × Int32)) (SS × Int32)) :=
    if isS = 0 then (some (.error (1, (st, undo))))
    else (zbind (F_X8_copyFrom st sv) fun zo2 =>
    some (.ok (zo2, 0)))
def F_X10_carryOut (fu : Nat) (st : SS) (cmds : Nat → CC) (j : Nat) : Option (Except (Nat × (SS)) (SS)) :=
    if ¬ ((k_kind (cmds j)) < 8) then none else
    zbind (F_Jx29ce0_ordinal_8abf5 (k_kind (cmds j))) fun zo2 =>
    if zo2 < 0 ∨ 8 ≤ Int32.toNatClampNeg zo2 then none else
    if (zsw (Int32.toNatClampNeg zo2)) = 1 then (zbind (F_X10_enterNumber fu st (k_whole (cmds j)) (k_frac (cmds j)) (k_scale (cmds j)) (k_mode (cmds j))) fun zo5 => zcase zo5 (fun za5 =>
    some (.ok za5.2))
    (fun zw5 => some (.error (zw5.1, zw5.2))))
    else if (zsw (Int32.toNatClampNeg zo2)) = 2 then (zbind (F_X10_enterQuotient fu st (k_first (cmds j)) (k_second (cmds j)) (k_scale (cmds j)) (k_mode (cmds j))) fun zo7 => zcase zo7 (fun za7 =>
    some (.ok za7.2))
    (fun zw7 => some (.error (zw7.1, zw7.2))))
    else if (zsw (Int32.toNatClampNeg zo2)) = 3 then (zbind (F_X10_releaseNumber fu st (k_first (cmds j))) fun zo9 => zcase zo9 (fun za9 =>
    some (.ok za9.2))
    (fun zw9 => some (.error (zw9.1, zw9.2))))
    else if (zsw (Int32.toNatClampNeg zo2)) = 4 then (zbind (F_X10_feedNumber fu st (k_first (cmds j)) (k_whole (cmds j)) (k_frac (cmds j))) fun zo11 => zcase zo11 (fun za11 =>
    some (.ok za11.2))
    (fun zw11 => some (.error (zw11.1, zw11.2))))
    else if (zsw (Int32.toNatClampNeg zo2)) = 5 then (zbind (F_X10_tradeAmount fu st (k_first (cmds j)) (k_second (cmds j)) (k_whole (cmds j)) (k_frac (cmds j))) fun zo13 => zcase zo13 (fun za13 =>
    some (.ok za13.2))
    (fun zw13 => some (.error (zw13.1, zw13.2))))
    else if (zsw (Int32.toNatClampNeg zo2)) = 6 then (zbind (F_X10_changeScale fu st (k_first (cmds j)) (k_scale (cmds j))) fun zo15 => zcase zo15 (fun za15 =>
    some (.ok za15.2))
    (fun zw15 => some (.error (zw15.1, zw15.2))))
    else if (zsw (Int32.toNatClampNeg zo2)) = 7 then (zbind (F_X10_changeMode fu st (k_first (cmds j)) (k_mode (cmds j))) fun zo17 => zcase zo17 (fun za17 =>
    some (.ok za17.2))
    (fun zw17 => some (.error (zw17.1, zw17.2))))
    else (zbind (F_X10_roundAll fu st (k_scale (cmds j))) fun zo18 => zcase zo18 (fun za18 =>
    some (.ok za18.2))
    (fun zw18 => some (.error (zw18.1, zw18.2))))
def F_X10_succeeds (fu : Nat) (st : SS) (cmds : Nat → CC) (j : Nat) : Option (Int32 × SS) :=
    zbind (F_X10_carryOut fu st cmds j) fun zo1 => zcase zo1 (fun za1 =>
    some (1, za1))
    (fun zw1 => if zw1.1 = 0 then (some (0, zw1.2))
    else if zw1.1 = 1 then (some (0, zw1.2))
    else if zw1.1 = 2 then (some (0, zw1.2))
    else if zw1.1 = 3 then (some (0, zw1.2))
    else none)
def F_X10_run_900055 (fu : Nat) (st : SS) (hst : Nat → SS) (spare : Int32) (undo : Int32) (ptx : Nat → Int32) (plen : Int32) (ppos : Int32) (pcnt : Int32) (cmds : Nat → CC) (stE : Int32) (stF : Int32) (x2 : Int32) : Option (Except (Nat × (SS × (Nat → SS) × Int32 × Int32 × Int32 × Int32 × Int32 × (Nat → CC) × Int32 × Int32)) (Int32 × SS × (Nat → SS) × Int32 × Int32 × Int32 × Int32 × Int32 × (Nat → CC) × Int32 × Int32)) :=
  if pcnt ≤ x2 then (zbind (F_X2_keep spare undo) fun zo2 =>
    some (.ok (pcnt, st, hst, zo2.1, zo2.2, plen, ppos, pcnt, cmds, stE, stF)))
    else (if x2 < 0 ∨ 9 ≤ Int32.toNatClampNeg x2 then none else
    zbind (F_X10_succeeds fu st cmds (Int32.toNatClampNeg x2)) fun zo4 =>
    if zo4.1 = 0 then (zbind (F_X2_takeBack zo4.2 hst spare) fun zo7 =>
    some (.error (2, (zo7, hst, spare, undo, plen, ppos, pcnt, cmds, stE, x2))))
    else (zlet (x2 + 1) fun zv6 =>
    none))
def F_X10_run_800055 (fu : Nat) (st : SS) (hst : Nat → SS) (spare : Int32) (undo : Int32) (ptx : Nat → Int32) (plen : Int32) (ppos : Int32) (pcnt : Int32) (cmds : Nat → CC) (stE : Int32) (stF : Int32) (x2 : Int32) : Option (Except (Nat × (SS × (Nat → SS) × Int32 × Int32 × Int32 × Int32 × Int32 × (Nat → CC) × Int32 × Int32)) (Int32 × SS × (Nat → SS) × Int32 × Int32 × Int32 × Int32 × Int32 × (Nat → CC) × Int32 × Int32)) :=
  if pcnt ≤ x2 then (zbind (F_X2_keep spare undo) fun zo9 =>
    some (.ok (pcnt, st, hst, zo9.1, zo9.2, plen, ppos, pcnt, cmds, stE, stF)))
    else (if x2 < 0 ∨ 9 ≤ Int32.toNatClampNeg x2 then none else
    zbind (F_X10_succeeds fu st cmds (Int32.toNatClampNeg x2)) fun zo11 =>
    if zo11.1 = 0 then (zbind (F_X2_takeBack zo11.2 hst spare) fun zo14 =>
    some (.error (2, (zo14, hst, spare, undo, plen, ppos, pcnt, cmds, stE, x2))))
    else (zlet (x2 + 1) fun zv13 =>
    F_X10_run_900055 fu zo11.2 hst spare undo ptx plen ppos pcnt cmds stE stF zv13))
def F_X10_run_700055 (fu : Nat) (st : SS) (hst : Nat → SS) (spare : Int32) (undo : Int32) (ptx : Nat → Int32) (plen : Int32) (ppos : Int32) (pcnt : Int32) (cmds : Nat → CC) (stE : Int32) (stF : Int32) (x2 : Int32) : Option (Except (Nat × (SS × (Nat → SS) × Int32 × Int32 × Int32 × Int32 × Int32 × (Nat → CC) × Int32 × Int32)) (Int32 × SS × (Nat → SS) × Int32 × Int32 × Int32 × Int32 × Int32 × (Nat → CC) × Int32 × Int32)) :=
  if pcnt ≤ x2 then (zbind (F_X2_keep spare undo) fun zo16 =>
    some (.ok (pcnt, st, hst, zo16.1, zo16.2, plen, ppos, pcnt, cmds, stE, stF)))
    else (if x2 < 0 ∨ 9 ≤ Int32.toNatClampNeg x2 then none else
    zbind (F_X10_succeeds fu st cmds (Int32.toNatClampNeg x2)) fun zo18 =>
    if zo18.1 = 0 then (zbind (F_X2_takeBack zo18.2 hst spare) fun zo21 =>
    some (.error (2, (zo21, hst, spare, undo, plen, ppos, pcnt, cmds, stE, x2))))
    else (zlet (x2 + 1) fun zv20 =>
    F_X10_run_800055 fu zo18.2 hst spare undo ptx plen ppos pcnt cmds stE stF zv20))
def F_X10_run_600055 (fu : Nat) (st : SS) (hst : Nat → SS) (spare : Int32) (undo : Int32) (ptx : Nat → Int32) (plen : Int32) (ppos : Int32) (pcnt : Int32) (cmds : Nat → CC) (stE : Int32) (stF : Int32) (x2 : Int32) : Option (Except (Nat × (SS × (Nat → SS) × Int32 × Int32 × Int32 × Int32 × Int32 × (Nat → CC) × Int32 × Int32)) (Int32 × SS × (Nat → SS) × Int32 × Int32 × Int32 × Int32 × Int32 × (Nat → CC) × Int32 × Int32)) :=
  if pcnt ≤ x2 then (zbind (F_X2_keep spare undo) fun zo23 =>
    some (.ok (pcnt, st, hst, zo23.1, zo23.2, plen, ppos, pcnt, cmds, stE, stF)))
    else (if x2 < 0 ∨ 9 ≤ Int32.toNatClampNeg x2 then none else
    zbind (F_X10_succeeds fu st cmds (Int32.toNatClampNeg x2)) fun zo25 =>
    if zo25.1 = 0 then (zbind (F_X2_takeBack zo25.2 hst spare) fun zo28 =>
    some (.error (2, (zo28, hst, spare, undo, plen, ppos, pcnt, cmds, stE, x2))))
    else (zlet (x2 + 1) fun zv27 =>
    F_X10_run_700055 fu zo25.2 hst spare undo ptx plen ppos pcnt cmds stE stF zv27))
def F_X10_run_500055 (fu : Nat) (st : SS) (hst : Nat → SS) (spare : Int32) (undo : Int32) (ptx : Nat → Int32) (plen : Int32) (ppos : Int32) (pcnt : Int32) (cmds : Nat → CC) (stE : Int32) (stF : Int32) (x2 : Int32) : Option (Except (Nat × (SS × (Nat → SS) × Int32 × Int32 × Int32 × Int32 × Int32 × (Nat → CC) × Int32 × Int32)) (Int32 × SS × (Nat → SS) × Int32 × Int32 × Int32 × Int32 × Int32 × (Nat → CC) × Int32 × Int32)) :=
  if pcnt ≤ x2 then (zbind (F_X2_keep spare undo) fun zo30 =>
    some (.ok (pcnt, st, hst, zo30.1, zo30.2, plen, ppos, pcnt, cmds, stE, stF)))
    else (if x2 < 0 ∨ 9 ≤ Int32.toNatClampNeg x2 then none else
    zbind (F_X10_succeeds fu st cmds (Int32.toNatClampNeg x2)) fun zo32 =>
    if zo32.1 = 0 then (zbind (F_X2_takeBack zo32.2 hst spare) fun zo35 =>
    some (.error (2, (zo35, hst, spare, undo, plen, ppos, pcnt, cmds, stE, x2))))
    else (zlet (x2 + 1) fun zv34 =>
    F_X10_run_600055 fu zo32.2 hst spare undo ptx plen ppos pcnt cmds stE stF zv34))
def F_X10_run_400055 (fu : Nat) (st : SS) (hst : Nat → SS) (spare : Int32) (undo : Int32) (ptx : Nat → Int32) (plen : Int32) (ppos : Int32) (pcnt : Int32) (cmds : Nat → CC) (stE : Int32) (stF : Int32) (x2 : Int32) : Option (Except (Nat × (SS × (Nat → SS) × Int32 × Int32 × Int32 × Int32 × Int32 × (Nat → CC) × Int32 × Int32)) (Int32 × SS × (Nat → SS) × Int32 × Int32 × Int32 × Int32 × Int32 × (Nat → CC) × Int32 × Int32)) :=
  if pcnt ≤ x2 then (zbind (F_X2_keep spare undo) fun zo37 =>
    some (.ok (pcnt, st, hst, zo37.1, zo37.2, plen, ppos, pcnt, cmds, stE, stF)))
    else (if x2 < 0 ∨ 9 ≤ Int32.toNatClampNeg x2 then none else
    zbind (F_X10_succeeds fu st cmds (Int32.toNatClampNeg x2)) fun zo39 =>
    if zo39.1 = 0 then (zbind (F_X2_takeBack zo39.2 hst spare) fun zo42 =>
    some (.error (2, (zo42, hst, spare, undo, plen, ppos, pcnt, cmds, stE, x2))))
    else (zlet (x2 + 1) fun zv41 =>
    F_X10_run_500055 fu zo39.2 hst spare undo ptx plen ppos pcnt cmds stE stF zv41))
def F_X10_run_300055 (fu : Nat) (st : SS) (hst : Nat → SS) (spare : Int32) (undo : Int32) (ptx : Nat → Int32) (plen : Int32) (ppos : Int32) (pcnt : Int32) (cmds : Nat → CC) (stE : Int32) (stF : Int32) (x2 : Int32) : Option (Except (Nat × (SS × (Nat → SS) × Int32 × Int32 × Int32 × Int32 × Int32 × (Nat → CC) × Int32 × Int32)) (Int32 × SS × (Nat → SS) × Int32 × Int32 × Int32 × Int32 × Int32 × (Nat → CC) × Int32 × Int32)) :=
  if pcnt ≤ x2 then (zbind (F_X2_keep spare undo) fun zo44 =>
    some (.ok (pcnt, st, hst, zo44.1, zo44.2, plen, ppos, pcnt, cmds, stE, stF)))
    else (if x2 < 0 ∨ 9 ≤ Int32.toNatClampNeg x2 then none else
    zbind (F_X10_succeeds fu st cmds (Int32.toNatClampNeg x2)) fun zo46 =>
    if zo46.1 = 0 then (zbind (F_X2_takeBack zo46.2 hst spare) fun zo49 =>
    some (.error (2, (zo49, hst, spare, undo, plen, ppos, pcnt, cmds, stE, x2))))
    else (zlet (x2 + 1) fun zv48 =>
    F_X10_run_400055 fu zo46.2 hst spare undo ptx plen ppos pcnt cmds stE stF zv48))
def F_X10_run_200055 (fu : Nat) (st : SS) (hst : Nat → SS) (spare : Int32) (undo : Int32) (ptx : Nat → Int32) (plen : Int32) (ppos : Int32) (pcnt : Int32) (cmds : Nat → CC) (stE : Int32) (stF : Int32) (x2 : Int32) : Option (Except (Nat × (SS × (Nat → SS) × Int32 × Int32 × Int32 × Int32 × Int32 × (Nat → CC) × Int32 × Int32)) (Int32 × SS × (Nat → SS) × Int32 × Int32 × Int32 × Int32 × Int32 × (Nat → CC) × Int32 × Int32)) :=
  if pcnt ≤ x2 then (zbind (F_X2_keep spare undo) fun zo51 =>
    some (.ok (pcnt, st, hst, zo51.1, zo51.2, plen, ppos, pcnt, cmds, stE, stF)))
    else (if x2 < 0 ∨ 9 ≤ Int32.toNatClampNeg x2 then none else
    zbind (F_X10_succeeds fu st cmds (Int32.toNatClampNeg x2)) fun zo53 =>
    if zo53.1 = 0 then (zbind (F_X2_takeBack zo53.2 hst spare) fun zo56 =>
    some (.error (2, (zo56, hst, spare, undo, plen, ppos, pcnt, cmds, stE, x2))))
    else (zlet (x2 + 1) fun zv55 =>
    F_X10_run_300055 fu zo53.2 hst spare undo ptx plen ppos pcnt cmds stE stF zv55))
def F_X10_run_100055 (fu : Nat) (st : SS) (hst : Nat → SS) (spare : Int32) (undo : Int32) (ptx : Nat → Int32) (plen : Int32) (ppos : Int32) (pcnt : Int32) (cmds : Nat → CC) (stE : Int32) (stF : Int32) (x2 : Int32) : Option (Except (Nat × (SS × (Nat → SS) × Int32 × Int32 × Int32 × Int32 × Int32 × (Nat → CC) × Int32 × Int32)) (Int32 × SS × (Nat → SS) × Int32 × Int32 × Int32 × Int32 × Int32 × (Nat → CC) × Int32 × Int32)) :=
  if pcnt ≤ x2 then (zbind (F_X2_keep spare undo) fun zo58 =>
    some (.ok (pcnt, st, hst, zo58.1, zo58.2, plen, ppos, pcnt, cmds, stE, stF)))
    else (if x2 < 0 ∨ 9 ≤ Int32.toNatClampNeg x2 then none else
    zbind (F_X10_succeeds fu st cmds (Int32.toNatClampNeg x2)) fun zo60 =>
    if zo60.1 = 0 then (zbind (F_X2_takeBack zo60.2 hst spare) fun zo63 =>
    some (.error (2, (zo63, hst, spare, undo, plen, ppos, pcnt, cmds, stE, x2))))
    else (zlet (x2 + 1) fun zv62 =>
    F_X10_run_200055 fu zo60.2 hst spare undo ptx plen ppos pcnt cmds stE stF zv62))
def F_X10_run_55 (fu : Nat) (st : SS) (hst : Nat → SS) (spare : Int32) (undo : Int32) (ptx : Nat → Int32) (plen : Int32) (ppos : Int32) (pcnt : Int32) (cmds : Nat → CC) (stE : Int32) (stF : Int32) (x2 : Int32) : Option (Except (Nat × (SS × (Nat → SS) × Int32 × Int32 × Int32 × Int32 × Int32 × (Nat → CC) × Int32 × Int32)) (Int32 × SS × (Nat → SS) × Int32 × Int32 × Int32 × Int32 × Int32 × (Nat → CC) × Int32 × Int32)) :=
  if pcnt ≤ x2 then (zbind (F_X2_keep spare undo) fun zo65 =>
    some (.ok (pcnt, st, hst, zo65.1, zo65.2, plen, ppos, pcnt, cmds, stE, stF)))
    else (if x2 < 0 ∨ 9 ≤ Int32.toNatClampNeg x2 then none else
    zbind (F_X10_succeeds fu st cmds (Int32.toNatClampNeg x2)) fun zo67 =>
    if zo67.1 = 0 then (zbind (F_X2_takeBack zo67.2 hst spare) fun zo70 =>
    some (.error (2, (zo70, hst, spare, undo, plen, ppos, pcnt, cmds, stE, x2))))
    else (zlet (x2 + 1) fun zv69 =>
    F_X10_run_100055 fu zo67.2 hst spare undo ptx plen ppos pcnt cmds stE stF zv69))
def F_X10_run (fu : Nat) (st : SS) (hst : Nat → SS) (spare : Int32) (undo : Int32) (ptx : Nat → Int32) (plen : Int32) (ppos : Int32) (pcnt : Int32) (cmds : Nat → CC) (stE : Int32) (stF : Int32) : Option (Except (Nat × (SS × (Nat → SS) × Int32 × Int32 × Int32 × Int32 × Int32 × (Nat → CC) × Int32 × Int32)) (Int32 × SS × (Nat → SS) × Int32 × Int32 × Int32 × Int32 × Int32 × (Nat → CC) × Int32 × Int32)) :=
    zbind (F_X6_read fu ptx plen ppos pcnt cmds) fun zo71 =>
    if zo71.1 = 0 then (some (.error (0, (st, hst, spare, undo, 0, zo71.2.1, zo71.2.2.1, zo71.2.2.2, zo71.2.1, stF))))
    else (zbind (F_X2_remember st hst spare) fun zo73 =>
    F_X10_run_55 fu st zo73 spare undo ptx 0 zo71.2.1 zo71.2.2.1 zo71.2.2.2 stE stF 0)
