def G_law_240 (fu : Nat) (st : SS) (hst : Nat → SS) (spare : Int32) (undo : Int32) (jo : Nat → Int64) (mm : Nat → Int64) (masd : Nat → Int64) (mpst : Nat → Int64) (mchg : Int32) (mthr : Int32) (L : Nat) (xs : Nat → Int32) (i : Int32) : Option (SS × (Nat → SS) × Int32 × Int32 × (Nat → Int64) × (Nat → Int64) × (Nat → Int64) × (Nat → Int64) × Int32 × Int32) :=
    if (i + 1) < 0 ∨ L ≤ (Int32.toNatClampNeg (i + 1)) then none else
    if (i + 2) < 0 ∨ L ≤ (Int32.toNatClampNeg (i + 2)) then none else
    if (i + 3) < 0 ∨ L ≤ (Int32.toNatClampNeg (i + 3)) then none else
    if (i + 4) < 0 ∨ L ≤ (Int32.toNatClampNeg (i + 4)) then none else
    zbind (F_L_addNumber fu st hst spare undo jo (xs (Int32.toNatClampNeg (i + 1))) (xs (Int32.toNatClampNeg (i + 2))) (xs (Int32.toNatClampNeg (i + 3))) (zchar (xs (Int32.toNatClampNeg (i + 4))))) fun zo5 =>
    if (i + 1) < 0 ∨ L ≤ (Int32.toNatClampNeg (i + 1)) then none else
    if (i + 2) < 0 ∨ L ≤ (Int32.toNatClampNeg (i + 2)) then none else
    if (i + 3) < 0 ∨ L ≤ (Int32.toNatClampNeg (i + 3)) then none else
    if (i + 4) < 0 ∨ L ≤ (Int32.toNatClampNeg (i + 4)) then none else
    zbind (F_X11_addNumber fu mm masd mpst mchg mthr (xs (Int32.toNatClampNeg (i + 1))) (xs (Int32.toNatClampNeg (i + 2))) (xs (Int32.toNatClampNeg (i + 3))) (zchar (xs (Int32.toNatClampNeg (i + 4))))) fun zo10 =>
    zbind (F_X11_thrown zo10.2.2.2.2.2) fun zo11 =>
    if zo11 = zo5.1 then (if zo5.1 = 0 then (if (zo5.2.2.2.2.2 (Int32.toNatClampNeg 0)) = (Int32.toInt64 zo10.1) then (some (zo5.2.1, zo5.2.2.1, zo5.2.2.2.1, zo5.2.2.2.2.1, zo5.2.2.2.2.2, zo10.2.1, zo10.2.2.1, zo10.2.2.2.1, zo10.2.2.2.2.1, zo10.2.2.2.2.2))
    else (none))
    else (some (zo5.2.1, zo5.2.2.1, zo5.2.2.2.1, zo5.2.2.2.2.1, zo5.2.2.2.2.2, zo10.2.1, zo10.2.2.1, zo10.2.2.2.1, zo10.2.2.2.2.1, zo10.2.2.2.2.2)))
    else (none)
def G_law_334 (fu : Nat) (st : SS) (hst : Nat → SS) (spare : Int32) (undo : Int32) (jo : Nat → Int64) (mm : Nat → Int64) (masd : Nat → Int64) (mpst : Nat → Int64) (mchg : Int32) (mthr : Int32) (L : Nat) (xs : Nat → Int32) (i : Int32) : Option (SS × (Nat → SS) × Int32 × Int32 × (Nat → Int64) × (Nat → Int64) × (Nat → Int64) × (Nat → Int64) × Int32 × Int32) :=
    if (i + 1) < 0 ∨ L ≤ (Int32.toNatClampNeg (i + 1)) then none else
    if (i + 2) < 0 ∨ L ≤ (Int32.toNatClampNeg (i + 2)) then none else
    if (i + 3) < 0 ∨ L ≤ (Int32.toNatClampNeg (i + 3)) then none else
    if (i + 4) < 0 ∨ L ≤ (Int32.toNatClampNeg (i + 4)) then none else
    zbind (F_L_addQuotient fu st hst spare undo jo (xs (Int32.toNatClampNeg (i + 1))) (xs (Int32.toNatClampNeg (i + 2))) (xs (Int32.toNatClampNeg (i + 3))) (zchar (xs (Int32.toNatClampNeg (i + 4))))) fun zo5 =>
    if (i + 1) < 0 ∨ L ≤ (Int32.toNatClampNeg (i + 1)) then none else
    if (i + 2) < 0 ∨ L ≤ (Int32.toNatClampNeg (i + 2)) then none else
    if (i + 3) < 0 ∨ L ≤ (Int32.toNatClampNeg (i + 3)) then none else
    if (i + 4) < 0 ∨ L ≤ (Int32.toNatClampNeg (i + 4)) then none else
    zbind (F_X11_addQuotient fu mm masd mpst mchg mthr (xs (Int32.toNatClampNeg (i + 1))) (xs (Int32.toNatClampNeg (i + 2))) (xs (Int32.toNatClampNeg (i + 3))) (zchar (xs (Int32.toNatClampNeg (i + 4))))) fun zo10 =>
    zbind (F_X11_thrown zo10.2.2.2.2.2) fun zo11 =>
    if zo11 = zo5.1 then (if zo5.1 = 0 then (if (zo5.2.2.2.2.2 (Int32.toNatClampNeg 0)) = (Int32.toInt64 zo10.1) then (some (zo5.2.1, zo5.2.2.1, zo5.2.2.2.1, zo5.2.2.2.2.1, zo5.2.2.2.2.2, zo10.2.1, zo10.2.2.1, zo10.2.2.2.1, zo10.2.2.2.2.1, zo10.2.2.2.2.2))
    else (none))
    else (some (zo5.2.1, zo5.2.2.1, zo5.2.2.2.1, zo5.2.2.2.2.1, zo5.2.2.2.2.2, zo10.2.1, zo10.2.2.1, zo10.2.2.2.1, zo10.2.2.2.2.1, zo10.2.2.2.2.2)))
    else (none)
def G_law_428 (fu : Nat) (st : SS) (hst : Nat → SS) (spare : Int32) (undo : Int32) (jo : Nat → Int64) (mm : Nat → Int64) (masd : Nat → Int64) (mpst : Nat → Int64) (mchg : Int32) (mthr : Int32) (L : Nat) (xs : Nat → Int32) (i : Int32) : Option (SS × (Nat → SS) × Int32 × Int32 × (Nat → Int64) × (Nat → Int64) × (Nat → Int64) × (Nat → Int64) × Int32 × Int32) :=
    if (i + 1) < 0 ∨ L ≤ (Int32.toNatClampNeg (i + 1)) then none else
    zbind (F_L_remove fu st hst spare undo jo (xs (Int32.toNatClampNeg (i + 1)))) fun zo2 =>
    if (i + 1) < 0 ∨ L ≤ (Int32.toNatClampNeg (i + 1)) then none else
    zbind (F_X11_remove fu mm masd mpst mchg mthr (xs (Int32.toNatClampNeg (i + 1)))) fun zo4 =>
    zbind (F_X11_thrown zo4.2.2.2.2.2) fun zo5 =>
    if zo5 = zo2.1 then (if zo2.1 = 0 then (if (zo2.2.2.2.2.2 (Int32.toNatClampNeg 0)) = zo4.1 then (some (zo2.2.1, zo2.2.2.1, zo2.2.2.2.1, zo2.2.2.2.2.1, zo2.2.2.2.2.2, zo4.2.1, zo4.2.2.1, zo4.2.2.2.1, zo4.2.2.2.2.1, zo4.2.2.2.2.2))
    else (none))
    else (some (zo2.2.1, zo2.2.2.1, zo2.2.2.2.1, zo2.2.2.2.2.1, zo2.2.2.2.2.2, zo4.2.1, zo4.2.2.1, zo4.2.2.2.1, zo4.2.2.2.2.1, zo4.2.2.2.2.2)))
    else (none)
def G_law_483 (fu : Nat) (st : SS) (hst : Nat → SS) (spare : Int32) (undo : Int32) (jo : Nat → Int64) (mm : Nat → Int64) (masd : Nat → Int64) (mpst : Nat → Int64) (mchg : Int32) (mthr : Int32) (L : Nat) (xs : Nat → Int32) (i : Int32) : Option (SS × (Nat → SS) × Int32 × Int32 × (Nat → Int64) × (Nat → Int64) × (Nat → Int64) × (Nat → Int64) × Int32 × Int32) :=
    if (i + 1) < 0 ∨ L ≤ (Int32.toNatClampNeg (i + 1)) then none else
    if (i + 2) < 0 ∨ L ≤ (Int32.toNatClampNeg (i + 2)) then none else
    if (i + 3) < 0 ∨ L ≤ (Int32.toNatClampNeg (i + 3)) then none else
    zbind (F_L_feed fu st hst spare undo jo (xs (Int32.toNatClampNeg (i + 1))) (xs (Int32.toNatClampNeg (i + 2))) (xs (Int32.toNatClampNeg (i + 3)))) fun zo4 =>
    if (i + 1) < 0 ∨ L ≤ (Int32.toNatClampNeg (i + 1)) then none else
    if (i + 2) < 0 ∨ L ≤ (Int32.toNatClampNeg (i + 2)) then none else
    if (i + 3) < 0 ∨ L ≤ (Int32.toNatClampNeg (i + 3)) then none else
    zbind (F_X11_feed fu mm masd mpst mchg mthr (xs (Int32.toNatClampNeg (i + 1))) (xs (Int32.toNatClampNeg (i + 2))) (xs (Int32.toNatClampNeg (i + 3)))) fun zo8 =>
    zbind (F_X11_thrown zo8.2.2.2.2.2) fun zo9 =>
    if zo9 = zo4.1 then (if zo4.1 = 0 then (if (zo4.2.2.2.2.2 (Int32.toNatClampNeg 0)) = zo8.1 then (some (zo4.2.1, zo4.2.2.1, zo4.2.2.2.1, zo4.2.2.2.2.1, zo4.2.2.2.2.2, zo8.2.1, zo8.2.2.1, zo8.2.2.2.1, zo8.2.2.2.2.1, zo8.2.2.2.2.2))
    else (none))
    else (some (zo4.2.1, zo4.2.2.1, zo4.2.2.2.1, zo4.2.2.2.2.1, zo4.2.2.2.2.2, zo8.2.1, zo8.2.2.1, zo8.2.2.2.1, zo8.2.2.2.2.1, zo8.2.2.2.2.2)))
    else (none)
def G_law_562 (fu : Nat) (st : SS) (hst : Nat → SS) (spare : Int32) (undo : Int32) (jo : Nat → Int64) (mm : Nat → Int64) (masd : Nat → Int64) (mpst : Nat → Int64) (mchg : Int32) (mthr : Int32) (L : Nat) (xs : Nat → Int32) (i : Int32) : Option (SS × (Nat → SS) × Int32 × Int32 × (Nat → Int64) × (Nat → Int64) × (Nat → Int64) × (Nat → Int64) × Int32 × Int32) :=
    if (i + 1) < 0 ∨ L ≤ (Int32.toNatClampNeg (i + 1)) then none else
    if (i + 2) < 0 ∨ L ≤ (Int32.toNatClampNeg (i + 2)) then none else
    if (i + 3) < 0 ∨ L ≤ (Int32.toNatClampNeg (i + 3)) then none else
    if (i + 4) < 0 ∨ L ≤ (Int32.toNatClampNeg (i + 4)) then none else
    zbind (F_L_trade fu st hst spare undo jo (xs (Int32.toNatClampNeg (i + 1))) (xs (Int32.toNatClampNeg (i + 2))) (xs (Int32.toNatClampNeg (i + 3))) (xs (Int32.toNatClampNeg (i + 4)))) fun zo5 =>
    if (i + 1) < 0 ∨ L ≤ (Int32.toNatClampNeg (i + 1)) then none else
    if (i + 2) < 0 ∨ L ≤ (Int32.toNatClampNeg (i + 2)) then none else
    if (i + 3) < 0 ∨ L ≤ (Int32.toNatClampNeg (i + 3)) then none else
    if (i + 4) < 0 ∨ L ≤ (Int32.toNatClampNeg (i + 4)) then none else
    zbind (F_X11_trade fu mm masd mpst mchg mthr (xs (Int32.toNatClampNeg (i + 1))) (xs (Int32.toNatClampNeg (i + 2))) (xs (Int32.toNatClampNeg (i + 3))) (xs (Int32.toNatClampNeg (i + 4)))) fun zo10 =>
    zbind (F_X11_thrown zo10.2.2.2.2.2) fun zo11 =>
    if zo11 = zo5.1 then (if zo5.1 = 0 then (if (zo5.2.2.2.2.2 (Int32.toNatClampNeg 0)) = zo10.1 then (some (zo5.2.1, zo5.2.2.1, zo5.2.2.2.1, zo5.2.2.2.2.1, zo5.2.2.2.2.2, zo10.2.1, zo10.2.2.1, zo10.2.2.2.1, zo10.2.2.2.2.1, zo10.2.2.2.2.2))
    else (none))
    else (some (zo5.2.1, zo5.2.2.1, zo5.2.2.2.1, zo5.2.2.2.2.1, zo5.2.2.2.2.2, zo10.2.1, zo10.2.2.1, zo10.2.2.2.1, zo10.2.2.2.2.1, zo10.2.2.2.2.2)))
    else (none)
def G_law_653 (fu : Nat) (st : SS) (hst : Nat → SS) (spare : Int32) (undo : Int32) (jo : Nat → Int64) (mm : Nat → Int64) (masd : Nat → Int64) (mpst : Nat → Int64) (mchg : Int32) (mthr : Int32) (L : Nat) (xs : Nat → Int32) (i : Int32) : Option (SS × (Nat → SS) × Int32 × Int32 × (Nat → Int64) × (Nat → Int64) × (Nat → Int64) × (Nat → Int64) × Int32 × Int32) :=
    if (i + 1) < 0 ∨ L ≤ (Int32.toNatClampNeg (i + 1)) then none else
    if (i + 2) < 0 ∨ L ≤ (Int32.toNatClampNeg (i + 2)) then none else
    zbind (F_L_setScale fu st hst spare undo jo (xs (Int32.toNatClampNeg (i + 1))) (xs (Int32.toNatClampNeg (i + 2)))) fun zo3 =>
    if (i + 1) < 0 ∨ L ≤ (Int32.toNatClampNeg (i + 1)) then none else
    if (i + 2) < 0 ∨ L ≤ (Int32.toNatClampNeg (i + 2)) then none else
    zbind (F_X11_setScale fu mm masd mpst mchg mthr (xs (Int32.toNatClampNeg (i + 1))) (xs (Int32.toNatClampNeg (i + 2)))) fun zo6 =>
    zbind (F_X11_thrown zo6.2.2.2.2.2) fun zo7 =>
    if zo7 = zo3.1 then (if zo3.1 = 0 then (if (zo3.2.2.2.2.2 (Int32.toNatClampNeg 0)) = (Int32.toInt64 zo6.1) then (some (zo3.2.1, zo3.2.2.1, zo3.2.2.2.1, zo3.2.2.2.2.1, zo3.2.2.2.2.2, zo6.2.1, zo6.2.2.1, zo6.2.2.2.1, zo6.2.2.2.2.1, zo6.2.2.2.2.2))
    else (none))
    else (some (zo3.2.1, zo3.2.2.1, zo3.2.2.2.1, zo3.2.2.2.2.1, zo3.2.2.2.2.2, zo6.2.1, zo6.2.2.1, zo6.2.2.2.1, zo6.2.2.2.2.1, zo6.2.2.2.2.2)))
    else (none)
def G_law_721 (fu : Nat) (st : SS) (hst : Nat → SS) (spare : Int32) (undo : Int32) (jo : Nat → Int64) (mm : Nat → Int64) (masd : Nat → Int64) (mpst : Nat → Int64) (mchg : Int32) (mthr : Int32) (L : Nat) (xs : Nat → Int32) (i : Int32) : Option (SS × (Nat → SS) × Int32 × Int32 × (Nat → Int64) × (Nat → Int64) × (Nat → Int64) × (Nat → Int64) × Int32 × Int32) :=
    if (i + 1) < 0 ∨ L ≤ (Int32.toNatClampNeg (i + 1)) then none else
    if (i + 2) < 0 ∨ L ≤ (Int32.toNatClampNeg (i + 2)) then none else
    zbind (F_L_setMode fu st hst spare undo jo (xs (Int32.toNatClampNeg (i + 1))) (zchar (xs (Int32.toNatClampNeg (i + 2))))) fun zo3 =>
    if (i + 1) < 0 ∨ L ≤ (Int32.toNatClampNeg (i + 1)) then none else
    if (i + 2) < 0 ∨ L ≤ (Int32.toNatClampNeg (i + 2)) then none else
    zbind (F_X11_setMode fu mm masd mpst mchg mthr (xs (Int32.toNatClampNeg (i + 1))) (zchar (xs (Int32.toNatClampNeg (i + 2))))) fun zo6 =>
    zbind (F_X11_thrown zo6.2.2.2.2.2) fun zo7 =>
    if zo7 = zo3.1 then (if zo3.1 = 0 then (if (zo3.2.2.2.2.2 (Int32.toNatClampNeg 0)) = (Int32.toInt64 zo6.1) then (some (zo3.2.1, zo3.2.2.1, zo3.2.2.2.1, zo3.2.2.2.2.1, zo3.2.2.2.2.2, zo6.2.1, zo6.2.2.1, zo6.2.2.2.1, zo6.2.2.2.2.1, zo6.2.2.2.2.2))
    else (none))
    else (some (zo3.2.1, zo3.2.2.1, zo3.2.2.2.1, zo3.2.2.2.2.1, zo3.2.2.2.2.2, zo6.2.1, zo6.2.2.1, zo6.2.2.2.1, zo6.2.2.2.2.1, zo6.2.2.2.2.2)))
    else (none)
def G_law_791 (fu : Nat) (st : SS) (hst : Nat → SS) (spare : Int32) (undo : Int32) (jo : Nat → Int64) (mm : Nat → Int64) (masd : Nat → Int64) (mpst : Nat → Int64) (mchg : Int32) (mthr : Int32) (mUp : Nat → Int32) (L : Nat) (xs : Nat → Int32) (i : Int32) : Option (SS × (Nat → SS) × Int32 × Int32 × (Nat → Int64) × (Nat → Int64) × (Nat → Int64) × (Nat → Int64) × Int32 × Int32 × (Nat → Int32)) :=
    if (i + 1) < 0 ∨ L ≤ (Int32.toNatClampNeg (i + 1)) then none else
    zbind (F_L_roundTogether fu st hst spare undo jo (xs (Int32.toNatClampNeg (i + 1)))) fun zo2 =>
    if (i + 1) < 0 ∨ L ≤ (Int32.toNatClampNeg (i + 1)) then none else
    zbind (F_X11_roundTogether fu mm masd mpst mchg mthr mUp (xs (Int32.toNatClampNeg (i + 1)))) fun zo4 =>
    zbind (F_X11_thrown zo4.2.2.2.2.2.1) fun zo5 =>
    if zo5 = zo2.1 then (if zo2.1 = 0 then (if (zo2.2.2.2.2.2 (Int32.toNatClampNeg 0)) = (Int32.toInt64 zo4.1) then (some (zo2.2.1, zo2.2.2.1, zo2.2.2.2.1, zo2.2.2.2.2.1, zo2.2.2.2.2.2, zo4.2.1, zo4.2.2.1, zo4.2.2.2.1, zo4.2.2.2.2.1, zo4.2.2.2.2.2.1, zo4.2.2.2.2.2.2))
    else (none))
    else (some (zo2.2.1, zo2.2.2.1, zo2.2.2.2.1, zo2.2.2.2.2.1, zo2.2.2.2.2.2, zo4.2.1, zo4.2.2.1, zo4.2.2.2.1, zo4.2.2.2.2.1, zo4.2.2.2.2.2.1, zo4.2.2.2.2.2.2)))
    else (none)
def G_law_847 (st : SS) (mm : Nat → Int64) (mthr : Int32) (L : Nat) (xs : Nat → Int32) (i : Int32) : Option (Int32) :=
    zbind (F_X10_count st) fun zo1 =>
    zbind (F_X11_count mm mthr) fun zo2 =>
    if zo1 = zo2.1 then (some zo2.2)
    else (none)
def G_law_860 (st : SS) (jo : Nat → Int64) (mm : Nat → Int64) (mthr : Int32) (L : Nat) (xs : Nat → Int32) (i : Int32) : Option ((Nat → Int64) × Int32) :=
    if (i + 1) < 0 ∨ L ≤ (Int32.toNatClampNeg (i + 1)) then none else
    zbind (F_L_numberAt st jo (xs (Int32.toNatClampNeg (i + 1)))) fun zo2 =>
    if (i + 1) < 0 ∨ L ≤ (Int32.toNatClampNeg (i + 1)) then none else
    zbind (F_X11_numberAt mm mthr (xs (Int32.toNatClampNeg (i + 1)))) fun zo4 =>
    zbind (F_X11_thrown zo4.2) fun zo5 =>
    if zo5 = zo2.1 then (if zo2.1 = 0 then (if (zo2.2 (Int32.toNatClampNeg 0)) = (Int32.toInt64 zo4.1) then (some (zo2.2, zo4.2))
    else (none))
    else (some (zo2.2, zo4.2)))
    else (none)
def G_law_916 (fu : Nat) (st : SS) (jo : Nat → Int64) (mm : Nat → Int64) (mthr : Int32) (L : Nat) (xs : Nat → Int32) (i : Int32) : Option ((Nat → Int64) × Int32) :=
    if (i + 1) < 0 ∨ L ≤ (Int32.toNatClampNeg (i + 1)) then none else
    zbind (F_L_value fu st jo (xs (Int32.toNatClampNeg (i + 1)))) fun zo2 =>
    if (i + 1) < 0 ∨ L ≤ (Int32.toNatClampNeg (i + 1)) then none else
    zbind (F_X11_value fu mm mthr (xs (Int32.toNatClampNeg (i + 1)))) fun zo4 =>
    zbind (F_X11_thrown zo4.2) fun zo5 =>
    if zo5 = zo2.1 then (if zo2.1 = 0 then (if (zo2.2 (Int32.toNatClampNeg 0)) = zo4.1 then (some (zo2.2, zo4.2))
    else (none))
    else (some (zo2.2, zo4.2)))
    else (none)
def G_law_971 (fu : Nat) (st : SS) (jo : Nat → Int64) (mm : Nat → Int64) (mthr : Int32) (L : Nat) (xs : Nat → Int32) (i : Int32) : Option ((Nat → Int64) × Int32) :=
    if (i + 1) < 0 ∨ L ≤ (Int32.toNatClampNeg (i + 1)) then none else
    zbind (F_L_scale fu st jo (xs (Int32.toNatClampNeg (i + 1)))) fun zo2 =>
    if (i + 1) < 0 ∨ L ≤ (Int32.toNatClampNeg (i + 1)) then none else
    zbind (F_X11_scale fu mm mthr (xs (Int32.toNatClampNeg (i + 1)))) fun zo4 =>
    zbind (F_X11_thrown zo4.2) fun zo5 =>
    if zo5 = zo2.1 then (if zo2.1 = 0 then (if (zo2.2 (Int32.toNatClampNeg 0)) = (Int32.toInt64 zo4.1) then (some (zo2.2, zo4.2))
    else (none))
    else (some (zo2.2, zo4.2)))
    else (none)
def G_law_1027 (fu : Nat) (st : SS) (jo : Nat → Int64) (mm : Nat → Int64) (mthr : Int32) (L : Nat) (xs : Nat → Int32) (i : Int32) : Option ((Nat → Int64) × Int32) :=
    if (i + 1) < 0 ∨ L ≤ (Int32.toNatClampNeg (i + 1)) then none else
    zbind (F_L_mode fu st jo (xs (Int32.toNatClampNeg (i + 1)))) fun zo2 =>
    if (i + 1) < 0 ∨ L ≤ (Int32.toNatClampNeg (i + 1)) then none else
    zbind (F_X11_mode fu mm mthr (xs (Int32.toNatClampNeg (i + 1)))) fun zo4 =>
    zbind (F_X11_thrown zo4.2) fun zo5 =>
    if zo5 = zo2.1 then (if zo2.1 = 0 then (if (zo2.2 (Int32.toNatClampNeg 0)) = (Int32.toInt64 zo4.1) then (some (zo2.2, zo4.2))
    else (none))
    else (some (zo2.2, zo4.2)))
    else (none)
def G_law_1083 (fu : Nat) (st : SS) (jo : Nat → Int64) (mm : Nat → Int64) (mthr : Int32) (L : Nat) (xs : Nat → Int32) (i : Int32) : Option ((Nat → Int64) × Int32) :=
    if (i + 1) < 0 ∨ L ≤ (Int32.toNatClampNeg (i + 1)) then none else
    if (i + 2) < 0 ∨ L ≤ (Int32.toNatClampNeg (i + 2)) then none else
    zbind (F_L_digit fu st jo (xs (Int32.toNatClampNeg (i + 1))) (xs (Int32.toNatClampNeg (i + 2)))) fun zo3 =>
    if (i + 1) < 0 ∨ L ≤ (Int32.toNatClampNeg (i + 1)) then none else
    if (i + 2) < 0 ∨ L ≤ (Int32.toNatClampNeg (i + 2)) then none else
    zbind (F_X11_digit fu mm mthr (xs (Int32.toNatClampNeg (i + 1))) (xs (Int32.toNatClampNeg (i + 2)))) fun zo6 =>
    zbind (F_X11_thrown zo6.2) fun zo7 =>
    if zo7 = zo3.1 then (if zo3.1 = 0 then (if (zo3.2 (Int32.toNatClampNeg 0)) = (Int32.toInt64 zo6.1) then (some (zo3.2, zo6.2))
    else (none))
    else (some (zo3.2, zo6.2)))
    else (none)
def G_law_1151 (fu : Nat) (st : SS) (jo : Nat → Int64) (mm : Nat → Int64) (mthr : Int32) (L : Nat) (xs : Nat → Int32) (i : Int32) : Option ((Nat → Int64) × Int32) :=
    if (i + 1) < 0 ∨ L ≤ (Int32.toNatClampNeg (i + 1)) then none else
    zbind (F_L_digitSum fu st jo (xs (Int32.toNatClampNeg (i + 1)))) fun zo2 =>
    if (i + 1) < 0 ∨ L ≤ (Int32.toNatClampNeg (i + 1)) then none else
    zbind (F_X11_digitSum fu mm mthr (xs (Int32.toNatClampNeg (i + 1)))) fun zo4 =>
    zbind (F_X11_thrown zo4.2) fun zo5 =>
    if zo5 = zo2.1 then (if zo2.1 = 0 then (if (zo2.2 (Int32.toNatClampNeg 0)) = (Int32.toInt64 zo4.1) then (some (zo2.2, zo4.2))
    else (none))
    else (some (zo2.2, zo4.2)))
    else (none)
def G_law_1207 (fu : Nat) (st : SS) (jo : Nat → Int64) (mm : Nat → Int64) (mthr : Int32) (L : Nat) (xs : Nat → Int32) (i : Int32) : Option ((Nat → Int64) × Int32) :=
    if (i + 1) < 0 ∨ L ≤ (Int32.toNatClampNeg (i + 1)) then none else
    zbind (F_L_numberAtRank fu st jo (xs (Int32.toNatClampNeg (i + 1)))) fun zo2 =>
    if (i + 1) < 0 ∨ L ≤ (Int32.toNatClampNeg (i + 1)) then none else
    zbind (F_X11_numberAtRank fu mm mthr (xs (Int32.toNatClampNeg (i + 1)))) fun zo4 =>
    zbind (F_X11_thrown zo4.2) fun zo5 =>
    if zo5 = zo2.1 then (if zo2.1 = 0 then (if (zo2.2 (Int32.toNatClampNeg 0)) = (Int32.toInt64 zo4.1) then (some (zo2.2, zo4.2))
    else (none))
    else (some (zo2.2, zo4.2)))
    else (none)
def G_law_1263 (fu : Nat) (st : SS) (jo : Nat → Int64) (mm : Nat → Int64) (mthr : Int32) (L : Nat) (xs : Nat → Int32) (i : Int32) : Option ((Nat → Int64) × Int32) :=
    if (i + 1) < 0 ∨ L ≤ (Int32.toNatClampNeg (i + 1)) then none else
    if (i + 2) < 0 ∨ L ≤ (Int32.toNatClampNeg (i + 2)) then none else
    if (i + 3) < 0 ∨ L ≤ (Int32.toNatClampNeg (i + 3)) then none else
    zbind (F_L_rounded fu st jo (xs (Int32.toNatClampNeg (i + 1))) (xs (Int32.toNatClampNeg (i + 2))) (zchar (xs (Int32.toNatClampNeg (i + 3))))) fun zo4 =>
    if (i + 1) < 0 ∨ L ≤ (Int32.toNatClampNeg (i + 1)) then none else
    if (i + 2) < 0 ∨ L ≤ (Int32.toNatClampNeg (i + 2)) then none else
    if (i + 3) < 0 ∨ L ≤ (Int32.toNatClampNeg (i + 3)) then none else
    zbind (F_X11_rounded fu mm mthr (xs (Int32.toNatClampNeg (i + 1))) (xs (Int32.toNatClampNeg (i + 2))) (zchar (xs (Int32.toNatClampNeg (i + 3))))) fun zo8 =>
    zbind (F_X11_thrown zo8.2) fun zo9 =>
    if zo9 = zo4.1 then (if zo4.1 = 0 then (if (zo4.2 (Int32.toNatClampNeg 0)) = zo8.1 then (some (zo4.2, zo8.2))
    else (none))
    else (some (zo4.2, zo8.2)))
    else (none)
def G_law_1344 (fu : Nat) (st : SS) (jo : Nat → Int64) (mm : Nat → Int64) (mthr : Int32) (L : Nat) (xs : Nat → Int32) (i : Int32) : Option ((Nat → Int64) × Int32) :=
    if (i + 1) < 0 ∨ L ≤ (Int32.toNatClampNeg (i + 1)) then none else
    if (i + 2) < 0 ∨ L ≤ (Int32.toNatClampNeg (i + 2)) then none else
    if (i + 3) < 0 ∨ L ≤ (Int32.toNatClampNeg (i + 3)) then none else
    zbind (F_L_part fu st jo (xs (Int32.toNatClampNeg (i + 1))) (xs (Int32.toNatClampNeg (i + 2))) (xs (Int32.toNatClampNeg (i + 3)))) fun zo4 =>
    if (i + 1) < 0 ∨ L ≤ (Int32.toNatClampNeg (i + 1)) then none else
    if (i + 2) < 0 ∨ L ≤ (Int32.toNatClampNeg (i + 2)) then none else
    if (i + 3) < 0 ∨ L ≤ (Int32.toNatClampNeg (i + 3)) then none else
    zbind (F_X11_part fu mm mthr (xs (Int32.toNatClampNeg (i + 1))) (xs (Int32.toNatClampNeg (i + 2))) (xs (Int32.toNatClampNeg (i + 3)))) fun zo8 =>
    zbind (F_X11_thrown zo8.2) fun zo9 =>
    if zo9 = zo4.1 then (if zo4.1 = 0 then (if (zo4.2 (Int32.toNatClampNeg 0)) = zo8.1 then (some (zo4.2, zo8.2))
    else (none))
    else (some (zo4.2, zo8.2)))
    else (none)
def G_law_1423 (fu : Nat) (st : SS) (jo : Nat → Int64) (mm : Nat → Int64) (mthr : Int32) (mcar : Nat → Int32) (L : Nat) (xs : Nat → Int32) (i : Int32) : Option ((Nat → Int64) × Int32 × (Nat → Int32)) :=
    if (i + 1) < 0 ∨ L ≤ (Int32.toNatClampNeg (i + 1)) then none else
    if (i + 2) < 0 ∨ L ≤ (Int32.toNatClampNeg (i + 2)) then none else
    if (i + 3) < 0 ∨ L ≤ (Int32.toNatClampNeg (i + 3)) then none else
    zbind (F_L_carries fu st jo (xs (Int32.toNatClampNeg (i + 1))) (xs (Int32.toNatClampNeg (i + 2))) (xs (Int32.toNatClampNeg (i + 3)))) fun zo4 =>
    if (i + 1) < 0 ∨ L ≤ (Int32.toNatClampNeg (i + 1)) then none else
    if (i + 2) < 0 ∨ L ≤ (Int32.toNatClampNeg (i + 2)) then none else
    if (i + 3) < 0 ∨ L ≤ (Int32.toNatClampNeg (i + 3)) then none else
    zbind (F_X11_carries fu mm mthr mcar (xs (Int32.toNatClampNeg (i + 1))) (xs (Int32.toNatClampNeg (i + 2))) (xs (Int32.toNatClampNeg (i + 3)))) fun zo8 =>
    zbind (F_X11_thrown zo8.2.1) fun zo9 =>
    if zo9 = zo4.1 then (if zo4.1 = 0 then (if (zo4.2 (Int32.toNatClampNeg 0)) = (Int32.toInt64 zo8.1) then (some (zo4.2, zo8.2.1, zo8.2.2))
    else (none))
    else (some (zo4.2, zo8.2.1, zo8.2.2)))
    else (none)
def G_law_1503 (fu : Nat) (st : SS) (jo : Nat → Int64) (mm : Nat → Int64) (mthr : Int32) (mcar : Nat → Int32) (L : Nat) (xs : Nat → Int32) (i : Int32) : Option ((Nat → Int64) × Int32 × (Nat → Int32)) :=
    if (i + 1) < 0 ∨ L ≤ (Int32.toNatClampNeg (i + 1)) then none else
    if (i + 2) < 0 ∨ L ≤ (Int32.toNatClampNeg (i + 2)) then none else
    if (i + 3) < 0 ∨ L ≤ (Int32.toNatClampNeg (i + 3)) then none else
    zbind (F_L_carriesBySums fu st jo (xs (Int32.toNatClampNeg (i + 1))) (xs (Int32.toNatClampNeg (i + 2))) (xs (Int32.toNatClampNeg (i + 3)))) fun zo4 =>
    if (i + 1) < 0 ∨ L ≤ (Int32.toNatClampNeg (i + 1)) then none else
    if (i + 2) < 0 ∨ L ≤ (Int32.toNatClampNeg (i + 2)) then none else
    if (i + 3) < 0 ∨ L ≤ (Int32.toNatClampNeg (i + 3)) then none else
    zbind (F_X11_carriesBySums fu mm mthr mcar (xs (Int32.toNatClampNeg (i + 1))) (xs (Int32.toNatClampNeg (i + 2))) (xs (Int32.toNatClampNeg (i + 3)))) fun zo8 =>
    zbind (F_X11_thrown zo8.2.1) fun zo9 =>
    if zo9 = zo4.1 then (if zo4.1 = 0 then (if (zo4.2 (Int32.toNatClampNeg 0)) = (Int32.toInt64 zo8.1) then (some (zo4.2, zo8.2.1, zo8.2.2))
    else (none))
    else (some (zo4.2, zo8.2.1, zo8.2.2)))
    else (none)
def G_law_1583 (fu : Nat) (st : SS) (jo : Nat → Int64) (mm : Nat → Int64) (mthr : Int32) (mcar : Nat → Int32) (L : Nat) (xs : Nat → Int32) (i : Int32) : Option ((Nat → Int64) × Int32 × (Nat → Int32)) :=
    if (i + 1) < 0 ∨ L ≤ (Int32.toNatClampNeg (i + 1)) then none else
    if (i + 2) < 0 ∨ L ≤ (Int32.toNatClampNeg (i + 2)) then none else
    if (i + 3) < 0 ∨ L ≤ (Int32.toNatClampNeg (i + 3)) then none else
    zbind (F_L_longestCarry fu st jo (xs (Int32.toNatClampNeg (i + 1))) (xs (Int32.toNatClampNeg (i + 2))) (xs (Int32.toNatClampNeg (i + 3)))) fun zo4 =>
    if (i + 1) < 0 ∨ L ≤ (Int32.toNatClampNeg (i + 1)) then none else
    if (i + 2) < 0 ∨ L ≤ (Int32.toNatClampNeg (i + 2)) then none else
    if (i + 3) < 0 ∨ L ≤ (Int32.toNatClampNeg (i + 3)) then none else
    zbind (F_X11_longestCarry fu mm mthr mcar (xs (Int32.toNatClampNeg (i + 1))) (xs (Int32.toNatClampNeg (i + 2))) (xs (Int32.toNatClampNeg (i + 3)))) fun zo8 =>
    zbind (F_X11_thrown zo8.2.1) fun zo9 =>
    if zo9 = zo4.1 then (if zo4.1 = 0 then (if (zo4.2 (Int32.toNatClampNeg 0)) = (Int32.toInt64 zo8.1) then (some (zo4.2, zo8.2.1, zo8.2.2))
    else (none))
    else (some (zo4.2, zo8.2.1, zo8.2.2)))
    else (none)
def G_law_1663 (fu : Nat) (st : SS) (jo : Nat → Int64) (mm : Nat → Int64) (mthr : Int32) (mUp : Nat → Int32) (L : Nat) (xs : Nat → Int32) (i : Int32) : Option ((Nat → Int64) × Int32 × (Nat → Int32)) :=
    if (i + 1) < 0 ∨ L ≤ (Int32.toNatClampNeg (i + 1)) then none else
    zbind (F_L_togetherError fu st jo (xs (Int32.toNatClampNeg (i + 1)))) fun zo2 =>
    if (i + 1) < 0 ∨ L ≤ (Int32.toNatClampNeg (i + 1)) then none else
    zbind (F_X11_togetherError fu mm mthr mUp (xs (Int32.toNatClampNeg (i + 1)))) fun zo4 =>
    zbind (F_X11_thrown zo4.2.1) fun zo5 =>
    if zo5 = zo2.1 then (if zo2.1 = 0 then (if (zo2.2 (Int32.toNatClampNeg 0)) = zo4.1 then (some (zo2.2, zo4.2.1, zo4.2.2))
    else (none))
    else (some (zo2.2, zo4.2.1, zo4.2.2)))
    else (none)
def G_law_1718 (fu : Nat) (st : SS) (jo : Nat → Int64) (mm : Nat → Int64) (mthr : Int32) (mUp : Nat → Int32) (L : Nat) (xs : Nat → Int32) (i : Int32) : Option ((Nat → Int64) × Int32 × (Nat → Int32)) :=
    if (i + 1) < 0 ∨ L ≤ (Int32.toNatClampNeg (i + 1)) then none else
    zbind (F_L_togetherErrorBySets fu st jo (xs (Int32.toNatClampNeg (i + 1)))) fun zo2 =>
    if (i + 1) < 0 ∨ L ≤ (Int32.toNatClampNeg (i + 1)) then none else
    zbind (F_X11_togetherErrorBySets fu mm mthr mUp (xs (Int32.toNatClampNeg (i + 1)))) fun zo4 =>
    zbind (F_X11_thrown zo4.2.1) fun zo5 =>
    if zo5 = zo2.1 then (if zo2.1 = 0 then (if (zo2.2 (Int32.toNatClampNeg 0)) = zo4.1 then (some (zo2.2, zo4.2.1, zo4.2.2))
    else (none))
    else (some (zo2.2, zo4.2.1, zo4.2.2)))
    else (none)
def G_law_1773 (fu : Nat) (st : SS) (jo : Nat → Int64) (mm : Nat → Int64) (mthr : Int32) (mUp : Nat → Int32) (L : Nat) (xs : Nat → Int32) (i : Int32) : Option ((Nat → Int64) × Int32 × (Nat → Int32)) :=
    if (i + 1) < 0 ∨ L ≤ (Int32.toNatClampNeg (i + 1)) then none else
    if (i + 2) < 0 ∨ L ≤ (Int32.toNatClampNeg (i + 2)) then none else
    zbind (F_L_goesUp fu st jo (xs (Int32.toNatClampNeg (i + 1))) (xs (Int32.toNatClampNeg (i + 2)))) fun zo3 =>
    if (i + 1) < 0 ∨ L ≤ (Int32.toNatClampNeg (i + 1)) then none else
    if (i + 2) < 0 ∨ L ≤ (Int32.toNatClampNeg (i + 2)) then none else
    zbind (F_X11_goesUp fu mm mthr mUp (xs (Int32.toNatClampNeg (i + 1))) (xs (Int32.toNatClampNeg (i + 2)))) fun zo6 =>
    zbind (F_X11_thrown zo6.2.1) fun zo7 =>
    if zo7 = zo3.1 then (if zo3.1 = 0 then (if zo6.1 = 0 then (if (zo3.2 (Int32.toNatClampNeg 0)) = 0 then (some (zo3.2, zo6.2.1, zo6.2.2))
    else (none))
    else (if (zo3.2 (Int32.toNatClampNeg 0)) = 1 then (some (zo3.2, zo6.2.1, zo6.2.2))
    else (none)))
    else (some (zo3.2, zo6.2.1, zo6.2.2)))
    else (none)
def G_law_1848 (fu : Nat) (jo : Nat → Int64) (mthr : Int32) (L : Nat) (xs : Nat → Int32) (i : Int32) : Option ((Nat → Int64) × Int32) :=
    if (i + 1) < 0 ∨ L ≤ (Int32.toNatClampNeg (i + 1)) then none else
    if (i + 2) < 0 ∨ L ≤ (Int32.toNatClampNeg (i + 2)) then none else
    if (i + 3) < 0 ∨ L ≤ (Int32.toNatClampNeg (i + 3)) then none else
    zbind (F_L_quotientDigit fu jo (xs (Int32.toNatClampNeg (i + 1))) (xs (Int32.toNatClampNeg (i + 2))) (xs (Int32.toNatClampNeg (i + 3)))) fun zo4 =>
    if (i + 1) < 0 ∨ L ≤ (Int32.toNatClampNeg (i + 1)) then none else
    if (i + 2) < 0 ∨ L ≤ (Int32.toNatClampNeg (i + 2)) then none else
    if (i + 3) < 0 ∨ L ≤ (Int32.toNatClampNeg (i + 3)) then none else
    zbind (F_X11_quotientDigit fu mthr (xs (Int32.toNatClampNeg (i + 1))) (xs (Int32.toNatClampNeg (i + 2))) (xs (Int32.toNatClampNeg (i + 3)))) fun zo8 =>
    zbind (F_X11_thrown zo8.2) fun zo9 =>
    if zo9 = zo4.1 then (if zo4.1 = 0 then (if (zo4.2 (Int32.toNatClampNeg 0)) = (Int32.toInt64 zo8.1) then (some (zo4.2, zo8.2))
    else (none))
    else (some (zo4.2, zo8.2)))
    else (none)
def G_law_1928 (fu : Nat) (seen : Nat → Int32) (dbef : Int32) (drec : Int32) (jo : Nat → Int64) (mthr : Int32) (mcam : Nat → Int32) (mahd : Int32) (magn : Int32) (L : Nat) (xs : Nat → Int32) (i : Int32) : Option ((Nat → Int32) × Int32 × Int32 × (Nat → Int64) × Int32 × (Nat → Int32) × Int32 × Int32) :=
    if (i + 1) < 0 ∨ L ≤ (Int32.toNatClampNeg (i + 1)) then none else
    if (i + 2) < 0 ∨ L ≤ (Int32.toNatClampNeg (i + 2)) then none else
    zbind (F_L_preperiod fu seen dbef drec jo (xs (Int32.toNatClampNeg (i + 1))) (xs (Int32.toNatClampNeg (i + 2)))) fun zo3 =>
    if (i + 1) < 0 ∨ L ≤ (Int32.toNatClampNeg (i + 1)) then none else
    if (i + 2) < 0 ∨ L ≤ (Int32.toNatClampNeg (i + 2)) then none else
    zbind (F_X11_preperiod fu mthr mcam mahd magn (xs (Int32.toNatClampNeg (i + 1))) (xs (Int32.toNatClampNeg (i + 2)))) fun zo6 =>
    zbind (F_X11_thrown zo6.2.1) fun zo7 =>
    if zo7 = zo3.1 then (if zo3.1 = 0 then (if (zo3.2.2.2.2 (Int32.toNatClampNeg 0)) = (Int32.toInt64 zo6.1) then (some (zo3.2.1, zo3.2.2.1, zo3.2.2.2.1, zo3.2.2.2.2, zo6.2.1, zo6.2.2.1, zo6.2.2.2.1, zo6.2.2.2.2))
    else (none))
    else (some (zo3.2.1, zo3.2.2.1, zo3.2.2.2.1, zo3.2.2.2.2, zo6.2.1, zo6.2.2.1, zo6.2.2.2.1, zo6.2.2.2.2)))
    else (none)
def G_law_1996 (fu : Nat) (seen : Nat → Int32) (dbef : Int32) (drec : Int32) (jo : Nat → Int64) (mthr : Int32) (mcam : Nat → Int32) (mahd : Int32) (magn : Int32) (L : Nat) (xs : Nat → Int32) (i : Int32) : Option ((Nat → Int32) × Int32 × Int32 × (Nat → Int64) × Int32 × (Nat → Int32) × Int32 × Int32) :=
    if (i + 1) < 0 ∨ L ≤ (Int32.toNatClampNeg (i + 1)) then none else
    if (i + 2) < 0 ∨ L ≤ (Int32.toNatClampNeg (i + 2)) then none else
    zbind (F_L_period fu seen dbef drec jo (xs (Int32.toNatClampNeg (i + 1))) (xs (Int32.toNatClampNeg (i + 2)))) fun zo3 =>
    if (i + 1) < 0 ∨ L ≤ (Int32.toNatClampNeg (i + 1)) then none else
    if (i + 2) < 0 ∨ L ≤ (Int32.toNatClampNeg (i + 2)) then none else
    zbind (F_X11_period fu mthr mcam mahd magn (xs (Int32.toNatClampNeg (i + 1))) (xs (Int32.toNatClampNeg (i + 2)))) fun zo6 =>
    zbind (F_X11_thrown zo6.2.1) fun zo7 =>
    if zo7 = zo3.1 then (if zo3.1 = 0 then (if (zo3.2.2.2.2 (Int32.toNatClampNeg 0)) = (Int32.toInt64 zo6.1) then (some (zo3.2.1, zo3.2.2.1, zo3.2.2.2.1, zo3.2.2.2.2, zo6.2.1, zo6.2.2.1, zo6.2.2.2.1, zo6.2.2.2.2))
    else (none))
    else (some (zo3.2.1, zo3.2.2.1, zo3.2.2.2.1, zo3.2.2.2.2, zo6.2.1, zo6.2.2.1, zo6.2.2.2.1, zo6.2.2.2.2)))
    else (none)
def G_law_2064 (fu : Nat) (jo : Nat → Int64) (mthr : Int32) (mcam : Nat → Int32) (mahd : Int32) (magn : Int32) (L : Nat) (xs : Nat → Int32) (i : Int32) : Option ((Nat → Int64) × Int32 × (Nat → Int32) × Int32 × Int32) :=
    if (i + 1) < 0 ∨ L ≤ (Int32.toNatClampNeg (i + 1)) then none else
    if (i + 2) < 0 ∨ L ≤ (Int32.toNatClampNeg (i + 2)) then none else
    zbind (F_L_periodByPowers fu jo (xs (Int32.toNatClampNeg (i + 1))) (xs (Int32.toNatClampNeg (i + 2)))) fun zo3 =>
    if (i + 1) < 0 ∨ L ≤ (Int32.toNatClampNeg (i + 1)) then none else
    if (i + 2) < 0 ∨ L ≤ (Int32.toNatClampNeg (i + 2)) then none else
    zbind (F_X11_periodByPowers fu mthr mcam mahd magn (xs (Int32.toNatClampNeg (i + 1))) (xs (Int32.toNatClampNeg (i + 2)))) fun zo6 =>
    zbind (F_X11_thrown zo6.2.1) fun zo7 =>
    if zo7 = zo3.1 then (if zo3.1 = 0 then (if (zo3.2 (Int32.toNatClampNeg 0)) = (Int32.toInt64 zo6.1) then (some (zo3.2, zo6.2.1, zo6.2.2.1, zo6.2.2.2.1, zo6.2.2.2.2))
    else (none))
    else (some (zo3.2, zo6.2.1, zo6.2.2.1, zo6.2.2.2.1, zo6.2.2.2.2)))
    else (none)
def G_law_2132 (fu : Nat) (st : SS) (mm : Nat → Int64) (mthr : Int32) (L : Nat) (xs : Nat → Int32) (i : Int32) : Option (Int32) :=
    zbind (F_X10_total fu st) fun zo1 =>
    zbind (F_X11_total fu mm mthr) fun zo2 =>
    if zo1 = zo2.1 then (some zo2.2)
    else (none)
def G_law_2146 (fu : Nat) (st : SS) (mm : Nat → Int64) (mthr : Int32) (L : Nat) (xs : Nat → Int32) (i : Int32) : Option (Int32) :=
    zbind (F_X10_totalByAccounts st) fun zo1 =>
    zbind (F_X11_totalByAccounts fu mm mthr) fun zo2 =>
    if zo1 = zo2.1 then (some zo2.2)
    else (none)
def G_law_2160 (st : SS) (mm : Nat → Int64) (mthr : Int32) (L : Nat) (xs : Nat → Int32) (i : Int32) : Option (Int32) :=
    zbind (F_X10_escapes st) fun zo1 =>
    zbind (F_X11_escapes mm mthr) fun zo2 =>
    if zo1 = zo2.1 then (some zo2.2)
    else (none)
def G_law_2173 (st : SS) (mm : Nat → Int64) (mthr : Int32) (L : Nat) (xs : Nat → Int32) (i : Int32) : Option (Int32) :=
    zbind (F_X10_crumbs st) fun zo1 =>
    zbind (F_X11_crumbs mm mthr) fun zo2 =>
    if zo1 = zo2.1 then (some zo2.2)
    else (none)
def G_law_2187 (fu : Nat) (st : SS) (jd : Nat → UInt64) (mm : Nat → Int64) (mthr : Int32) (L : Nat) (xs : Nat → Int32) (i : Int32) : Option ((Nat → UInt64) × Int32) :=
    zbind (F_L_meanValue fu st jd) fun zo1 =>
    zbind (F_X11_meanValue fu mm mthr) fun zo2 =>
    zbind (F_X11_thrown zo2.2) fun zo3 =>
    if zo3 = zo1.1 then (if zo1.1 = 0 then (if (Op.cmpValue (FP.dcmp (zo1.2 (Int32.toNatClampNeg 0)) zo2.1) .l) = 0 then (some (zo1.2, zo2.2))
    else (if (Op.cmpValue (FP.dcmp (zo1.2 (Int32.toNatClampNeg 0)) (zo1.2 (Int32.toNatClampNeg 0))) .l) = 0 then (none)
    else (if (Op.cmpValue (FP.dcmp zo2.1 zo2.1) .l) = 0 then (none)
    else (some (zo1.2, zo2.2)))))
    else (some (zo1.2, zo2.2)))
    else (none)
def G_law_2252 (fu : Nat) (st : SS) (jd : Nat → UInt64) (mm : Nat → Int64) (mthr : Int32) (L : Nat) (xs : Nat → Int32) (i : Int32) : Option ((Nat → UInt64) × Int32) :=
    if (i + 1) < 0 ∨ L ≤ (Int32.toNatClampNeg (i + 1)) then none else
    zbind (F_L_share fu st jd (xs (Int32.toNatClampNeg (i + 1)))) fun zo2 =>
    if (i + 1) < 0 ∨ L ≤ (Int32.toNatClampNeg (i + 1)) then none else
    zbind (F_X11_share fu mm mthr (xs (Int32.toNatClampNeg (i + 1)))) fun zo4 =>
    zbind (F_X11_thrown zo4.2) fun zo5 =>
    if zo5 = zo2.1 then (if zo2.1 = 0 then (if ¬ (zn64 (FP.f2d zo4.1)) then none else
    if (Op.cmpValue (FP.dcmp (zo2.2 (Int32.toNatClampNeg 0)) (FP.f2d zo4.1)) .l) = 0 then (some (zo2.2, zo4.2))
    else (if (Op.cmpValue (FP.dcmp (zo2.2 (Int32.toNatClampNeg 0)) (zo2.2 (Int32.toNatClampNeg 0))) .l) = 0 then (none)
    else (if (Op.cmpValue (FP.fcmp zo4.1 zo4.1) .l) = 0 then (none)
    else (some (zo2.2, zo4.2)))))
    else (some (zo2.2, zo4.2)))
    else (none)
def G_law_2330 (fu : Nat) (st : SS) (mthr : Int32) (L : Nat) (xs : Nat → Int32) (i : Int32) : Option (Int32) :=
    zbind (F_X10_isConsistent fu st) fun zo1 =>
    zbind (F_X11_isConsistent mthr) fun zo2 =>
    if zo1 = zo2.1 then (some zo2.2)
    else (none)
def G_law_2343 (ptx : Nat → Int32) (plen : Int32) (jo : Nat → Int64) (mthr : Int32) (minp : Nat → Int32) (minM : Int32) (L : Nat) (xs : Nat → Int32) (i : Int32) : Option ((Nat → Int32) × Int32 × (Nat → Int64) × Int32 × (Nat → Int32) × Int32) :=
    if (i + 1) < 0 ∨ L ≤ (Int32.toNatClampNeg (i + 1)) then none else
    zbind (F_L_append ptx plen jo (zchar (xs (Int32.toNatClampNeg (i + 1))))) fun zo2 =>
    if (i + 1) < 0 ∨ L ≤ (Int32.toNatClampNeg (i + 1)) then none else
    zbind (F_X11_append mthr minp minM (zchar (xs (Int32.toNatClampNeg (i + 1))))) fun zo4 =>
    zbind (F_X11_thrown zo4.2.1) fun zo5 =>
    if zo5 = zo2.1 then (if zo2.1 = 0 then (if (zo2.2.2.2 (Int32.toNatClampNeg 0)) = (Int32.toInt64 zo4.1) then (some (zo2.2.1, zo2.2.2.1, zo2.2.2.2, zo4.2.1, zo4.2.2.1, zo4.2.2.2))
    else (none))
    else (some (zo2.2.1, zo2.2.2.1, zo2.2.2.2, zo4.2.1, zo4.2.2.1, zo4.2.2.2)))
    else (none)
def G_law_2401 (fu : Nat) (st : SS) (hst : Nat → SS) (spare : Int32) (undo : Int32) (ptx : Nat → Int32) (plen : Int32) (ppos : Int32) (pcnt : Int32) (cmds : Nat → CC) (stE : Int32) (stF : Int32) (jo : Nat → Int64) (mm : Nat → Int64) (masd : Nat → Int64) (mpst : Nat → Int64) (mchg : Int32) (merr : Int32) (mfai : Int32) (mthr : Int32) (minp : Nat → Int32) (minM : Int32) (mUp : Nat → Int32) (mltr : Nat → Int32) (mbeg : Nat → Int32) (mcmd : Nat → Int32) (mcmM : Int32) (mpl : Int32) (msz : Int32) (mwr : Int32) (L : Nat) (xs : Nat → Int32) (i : Int32) : Option (SS × (Nat → SS) × Int32 × Int32 × Int32 × Int32 × Int32 × (Nat → CC) × Int32 × Int32 × (Nat → Int64) × (Nat → Int64) × (Nat → Int64) × (Nat → Int64) × Int32 × Int32 × Int32 × Int32 × Int32 × (Nat → Int32) × (Nat → Int32) × Int32 × Int32 × Int32 × Int32) :=
    zbind (F_L_run fu st hst spare undo ptx plen ppos pcnt cmds stE stF jo) fun zo1 =>
    zbind (F_X11_run fu mm masd mpst mchg merr mfai mthr minp minM mUp mltr mbeg mcmd mcmM mpl msz mwr) fun zo2 =>
    zbind (F_X11_thrown zo2.2.2.2.2.2.2.2.1) fun zo3 =>
    if zo3 = zo1.1 then (if zo1.1 = 0 then (if (zo1.2.2.2.2.2.2.2.2.2.2.2 (Int32.toNatClampNeg 0)) = (Int32.toInt64 zo2.1) then (some (zo1.2.1, zo1.2.2.1, zo1.2.2.2.1, zo1.2.2.2.2.1, zo1.2.2.2.2.2.1, zo1.2.2.2.2.2.2.1, zo1.2.2.2.2.2.2.2.1, zo1.2.2.2.2.2.2.2.2.1, zo1.2.2.2.2.2.2.2.2.2.1, zo1.2.2.2.2.2.2.2.2.2.2.1, zo1.2.2.2.2.2.2.2.2.2.2.2, zo2.2.1, zo2.2.2.1, zo2.2.2.2.1, zo2.2.2.2.2.1, zo2.2.2.2.2.2.1, zo2.2.2.2.2.2.2.1, zo2.2.2.2.2.2.2.2.1, zo2.2.2.2.2.2.2.2.2.1, zo2.2.2.2.2.2.2.2.2.2.1, zo2.2.2.2.2.2.2.2.2.2.2.1, zo2.2.2.2.2.2.2.2.2.2.2.2.1, zo2.2.2.2.2.2.2.2.2.2.2.2.2.1, zo2.2.2.2.2.2.2.2.2.2.2.2.2.2.1, zo2.2.2.2.2.2.2.2.2.2.2.2.2.2.2))
    else (none))
    else (some (zo1.2.1, zo1.2.2.1, zo1.2.2.2.1, zo1.2.2.2.2.1, zo1.2.2.2.2.2.1, zo1.2.2.2.2.2.2.1, zo1.2.2.2.2.2.2.2.1, zo1.2.2.2.2.2.2.2.2.1, zo1.2.2.2.2.2.2.2.2.2.1, zo1.2.2.2.2.2.2.2.2.2.2.1, zo1.2.2.2.2.2.2.2.2.2.2.2, zo2.2.1, zo2.2.2.1, zo2.2.2.2.1, zo2.2.2.2.2.1, zo2.2.2.2.2.2.1, zo2.2.2.2.2.2.2.1, zo2.2.2.2.2.2.2.2.1, zo2.2.2.2.2.2.2.2.2.1, zo2.2.2.2.2.2.2.2.2.2.1, zo2.2.2.2.2.2.2.2.2.2.2.1, zo2.2.2.2.2.2.2.2.2.2.2.2.1, zo2.2.2.2.2.2.2.2.2.2.2.2.2.1, zo2.2.2.2.2.2.2.2.2.2.2.2.2.2.1, zo2.2.2.2.2.2.2.2.2.2.2.2.2.2.2)))
    else (none)
def G_law_2445 (stE : Int32) (jo : Nat → Int64) (merr : Int32) (mthr : Int32) (L : Nat) (xs : Nat → Int32) (i : Int32) : Option ((Nat → Int64) × Int32) :=
    zbind (F_L_errorPosition stE jo) fun zo1 =>
    zbind (F_X11_errorPosition merr mthr) fun zo2 =>
    zbind (F_X11_thrown zo2.2) fun zo3 =>
    if zo3 = zo1.1 then (if zo1.1 = 0 then (if (zo1.2 (Int32.toNatClampNeg 0)) = (Int32.toInt64 zo2.1) then (some (zo1.2, zo2.2))
    else (none))
    else (some (zo1.2, zo2.2)))
    else (none)
def G_law_2489 (stF : Int32) (jo : Nat → Int64) (mfai : Int32) (mthr : Int32) (L : Nat) (xs : Nat → Int32) (i : Int32) : Option ((Nat → Int64) × Int32) :=
    zbind (F_L_failedCommand stF jo) fun zo1 =>
    zbind (F_X11_failedCommand mfai mthr) fun zo2 =>
    zbind (F_X11_thrown zo2.2) fun zo3 =>
    if zo3 = zo1.1 then (if zo1.1 = 0 then (if (zo1.2 (Int32.toNatClampNeg 0)) = (Int32.toInt64 zo2.1) then (some (zo1.2, zo2.2))
    else (none))
    else (some (zo1.2, zo2.2)))
    else (none)
def G_law_2533 (fu : Nat) (st : SS) (lch : Nat → Int32) (llen : Int32) (jo : Nat → Int64) (mm : Nat → Int64) (mthr : Int32) (mlin : Nat → Int32) (mliM : Int32) (L : Nat) (xs : Nat → Int32) (i : Int32) : Option ((Nat → Int32) × Int32 × (Nat → Int64) × Int32 × (Nat → Int32) × Int32) :=
    if (i + 1) < 0 ∨ L ≤ (Int32.toNatClampNeg (i + 1)) then none else
    zbind (F_L_writeNumber fu st lch llen jo (xs (Int32.toNatClampNeg (i + 1)))) fun zo2 =>
    if (i + 1) < 0 ∨ L ≤ (Int32.toNatClampNeg (i + 1)) then none else
    zbind (F_X11_writeNumber fu mm mthr mlin mliM (xs (Int32.toNatClampNeg (i + 1)))) fun zo4 =>
    zbind (F_X11_thrown zo4.2.1) fun zo5 =>
    if zo5 = zo2.1 then (if zo2.1 = 0 then (if (zo2.2.2.2 (Int32.toNatClampNeg 0)) = (Int32.toInt64 zo4.1) then (some (zo2.2.1, zo2.2.2.1, zo2.2.2.2, zo4.2.1, zo4.2.2.1, zo4.2.2.2))
    else (none))
    else (some (zo2.2.1, zo2.2.2.1, zo2.2.2.2, zo4.2.1, zo4.2.2.1, zo4.2.2.2)))
    else (none)
def G_law_2589 (fu : Nat) (seen : Nat → Int32) (dbef : Int32) (drec : Int32) (lch : Nat → Int32) (llen : Int32) (jo : Nat → Int64) (mthr : Int32) (mcam : Nat → Int32) (mahd : Int32) (magn : Int32) (mlin : Nat → Int32) (mliM : Int32) (L : Nat) (xs : Nat → Int32) (i : Int32) : Option ((Nat → Int32) × Int32 × Int32 × (Nat → Int32) × Int32 × (Nat → Int64) × Int32 × (Nat → Int32) × Int32 × Int32 × (Nat → Int32) × Int32) :=
    if (i + 1) < 0 ∨ L ≤ (Int32.toNatClampNeg (i + 1)) then none else
    if (i + 2) < 0 ∨ L ≤ (Int32.toNatClampNeg (i + 2)) then none else
    zbind (F_L_writeQuotient fu seen dbef drec lch llen jo (xs (Int32.toNatClampNeg (i + 1))) (xs (Int32.toNatClampNeg (i + 2)))) fun zo3 =>
    if (i + 1) < 0 ∨ L ≤ (Int32.toNatClampNeg (i + 1)) then none else
    if (i + 2) < 0 ∨ L ≤ (Int32.toNatClampNeg (i + 2)) then none else
    zbind (F_X11_writeQuotient fu mthr mcam mahd magn mlin mliM (xs (Int32.toNatClampNeg (i + 1))) (xs (Int32.toNatClampNeg (i + 2)))) fun zo6 =>
    zbind (F_X11_thrown zo6.2.1) fun zo7 =>
    if zo7 = zo3.1 then (if zo3.1 = 0 then (if (zo3.2.2.2.2.2.2 (Int32.toNatClampNeg 0)) = (Int32.toInt64 zo6.1) then (some (zo3.2.1, zo3.2.2.1, zo3.2.2.2.1, zo3.2.2.2.2.1, zo3.2.2.2.2.2.1, zo3.2.2.2.2.2.2, zo6.2.1, zo6.2.2.1, zo6.2.2.2.1, zo6.2.2.2.2.1, zo6.2.2.2.2.2.1, zo6.2.2.2.2.2.2))
    else (none))
    else (some (zo3.2.1, zo3.2.2.1, zo3.2.2.2.1, zo3.2.2.2.2.1, zo3.2.2.2.2.2.1, zo3.2.2.2.2.2.2, zo6.2.1, zo6.2.2.1, zo6.2.2.2.1, zo6.2.2.2.2.1, zo6.2.2.2.2.2.1, zo6.2.2.2.2.2.2)))
    else (none)
def G_law_2657 (lch : Nat → Int32) (llen : Int32) (jo : Nat → Int64) (mthr : Int32) (mlin : Nat → Int32) (mliM : Int32) (L : Nat) (xs : Nat → Int32) (i : Int32) : Option ((Nat → Int64) × Int32) :=
    if (i + 1) < 0 ∨ L ≤ (Int32.toNatClampNeg (i + 1)) then none else
    zbind (F_L_outputAt lch llen jo (xs (Int32.toNatClampNeg (i + 1)))) fun zo2 =>
    if (i + 1) < 0 ∨ L ≤ (Int32.toNatClampNeg (i + 1)) then none else
    zbind (F_X11_outputAt mthr mlin mliM (xs (Int32.toNatClampNeg (i + 1)))) fun zo4 =>
    zbind (F_X11_thrown zo4.2) fun zo5 =>
    if zo5 = zo2.1 then (if zo2.1 = 0 then (if (zo2.2 (Int32.toNatClampNeg 0)) = (Int32.toInt64 zo4.1) then (some (zo2.2, zo4.2))
    else (none))
    else (some (zo2.2, zo4.2)))
    else (none)
def G_law_2713 (fu : Nat) (st : SS) (hst : Nat → SS) (spare : Int32) (undo : Int32) (jo : Nat → Int64) (mm : Nat → Int64) (mpst : Nat → Int64) (mchg : Int32) (mthr : Int32) (L : Nat) (xs : Nat → Int32) (i : Int32) : Option (SS × Int32 × Int32 × (Nat → Int64) × (Nat → Int64) × Int32 × Int32) :=
    zbind (F_L_undo st hst spare undo jo) fun zo1 =>
    zbind (F_X11_undo fu mm mpst mchg mthr) fun zo2 =>
    zbind (F_X11_thrown zo2.2.2.2) fun zo3 =>
    if zo3 = zo1.1 then (if zo1.1 = 0 then (if (zo1.2.2.2.2 (Int32.toNatClampNeg 0)) = (Int32.toInt64 zo2.1) then (some (zo1.2.1, zo1.2.2.1, zo1.2.2.2.1, zo1.2.2.2.2, zo2.2.1, zo2.2.2.1, zo2.2.2.2))
    else (none))
    else (some (zo1.2.1, zo1.2.2.1, zo1.2.2.2.1, zo1.2.2.2.2, zo2.2.1, zo2.2.2.1, zo2.2.2.2)))
    else (none)
def G_law_2757 (fu : Nat) (st : SS) (sv : SS) (isS : Int32) (mm : Nat → Int64) (msav : Nat → Int64) (misS : Int32) (mthr : Int32) (L : Nat) (xs : Nat → Int32) (i : Int32) : Option (SS × Int32 × (Nat → Int64) × Int32 × Int32) :=
    zbind (F_X10_save st sv isS) fun zo1 =>
    zbind (F_X11_save fu mm msav misS mthr) fun zo2 =>
    some (zo1.1, zo1.2, zo2.1, zo2.2.1, zo2.2.2)
def G_law_2768 (fu : Nat) (st : SS) (sv : SS) (isS : Int32) (undo : Int32) (mm : Nat → Int64) (msav : Nat → Int64) (misS : Int32) (mchg : Int32) (mthr : Int32) (L : Nat) (xs : Nat → Int32) (i : Int32) : Option (SS × Int32 × (Nat → Int64) × Int32 × Int32) :=
    zbind (F_L_restore st sv isS undo) fun zo1 =>
    zbind (F_X11_restore fu mm msav misS mchg mthr) fun zo2 =>
    zbind (F_X11_thrown zo2.2.2) fun zo3 =>
    if zo3 = zo1.1 then (some (zo1.2.1, zo1.2.2, zo2.1, zo2.2.1, zo2.2.2))
    else (none)
