def F_X8_become (st : SS) (p1 : Int32) (p2 : Int64) (p4 : Int64) : Option (SS) :=
    if p1 < 0 ∨ 6 ≤ Int32.toNatClampNeg p1 then none else
    if p4 < 10000000000 then (some ((s_ids st), (vp_updL (s_vals st) (Int32.toNatClampNeg p1) p4), (s_scs st), (s_mds st), (s_cnt st), (s_nxt st), (s_esc st), ((s_fal st) + (p4 - p2)), (s_add st), (s_fed st), (s_rem st)))
    else (if p1 < 0 ∨ 6 ≤ Int32.toNatClampNeg p1 then none else
    some ((s_ids st), (vp_updL (vp_updL (s_vals st) (Int32.toNatClampNeg p1) p4) (Int32.toNatClampNeg p1) (p4 - 10000000000)), (s_scs st), (s_mds st), (s_cnt st), (s_nxt st), ((s_esc st) + 1), ((s_fal st) + (p4 - p2)), (s_add st), (s_fed st), (s_rem st)))
def F_X8_becomeRounded (st : SS) (p1 : Int32) (p2 : Int64) : Option (Int64 × SS) :=
    if p1 < 0 ∨ 6 ≤ Int32.toNatClampNeg p1 then none else
    if p1 < 0 ∨ 6 ≤ Int32.toNatClampNeg p1 then none else
    zbind (F_X7_ofSum p2 ((s_scs st) (Int32.toNatClampNeg p1)) ((s_mds st) (Int32.toNatClampNeg p1))) fun zo3 =>
    zbind (F_X8_become st p1 p2 zo3) fun zo4 =>
    if p1 < 0 ∨ 6 ≤ Int32.toNatClampNeg p1 then none else
    some (((s_vals zo4) (Int32.toNatClampNeg p1)), zo4)
def F_X8_enter (st : SS) (p1 : Int64) (p3 : Int32) (p4 : Int32) : Option (Int32 × SS) :=
    if (s_cnt st) < 0 ∨ 6 ≤ Int32.toNatClampNeg (s_cnt st) then none else
    if (s_cnt st) < 0 ∨ 6 ≤ Int32.toNatClampNeg (s_cnt st) then none else
    if (s_cnt st) < 0 ∨ 6 ≤ Int32.toNatClampNeg (s_cnt st) then none else
    if (s_cnt st) < 0 ∨ 6 ≤ Int32.toNatClampNeg (s_cnt st) then none else
    some ((s_nxt st), ((upd (s_ids st) (Int32.toNatClampNeg (s_cnt st)) (s_nxt st)), (vp_updL (s_vals st) (Int32.toNatClampNeg (s_cnt st)) p1), (upd (s_scs st) (Int32.toNatClampNeg (s_cnt st)) p3), (upd (s_mds st) (Int32.toNatClampNeg (s_cnt st)) (vp_nar .char p4)), ((s_cnt st) + 1), ((s_nxt st) + 1), (s_esc st), (s_fal st), ((s_add st) + p1), (s_fed st), (s_rem st)))
def F_X8_takeOut_12 (fu : Nat) : Nat → SS → Int64 → Int32 → Option (Int64 × SS)
  | 0 => fun _ _ _ => none
  | n + 1 => fun st x2 x4 =>
    if (s_cnt st) ≤ x4 then (some (x2, ((s_ids st), (s_vals st), (s_scs st), (s_mds st), ((s_cnt st) - 1), (s_nxt st), (s_esc st), (s_fal st), (s_add st), (s_fed st), ((s_rem st) + x2))))
    else (if x4 < 0 ∨ 6 ≤ Int32.toNatClampNeg x4 then none else
    if (x4 - 1) < 0 ∨ 6 ≤ Int32.toNatClampNeg (x4 - 1) then none else
    if x4 < 0 ∨ 6 ≤ Int32.toNatClampNeg x4 then none else
    if (x4 - 1) < 0 ∨ 6 ≤ Int32.toNatClampNeg (x4 - 1) then none else
    if x4 < 0 ∨ 6 ≤ Int32.toNatClampNeg x4 then none else
    if (x4 - 1) < 0 ∨ 6 ≤ Int32.toNatClampNeg (x4 - 1) then none else
    if x4 < 0 ∨ 6 ≤ Int32.toNatClampNeg x4 then none else
    if (x4 - 1) < 0 ∨ 6 ≤ Int32.toNatClampNeg (x4 - 1) then none else
    zlet (x4 + 1) fun zv10 =>
    (F_X8_takeOut_12 fu n) ((upd (s_ids st) (Int32.toNatClampNeg (x4 - 1)) ((s_ids st) (Int32.toNatClampNeg x4))), (vp_updL (s_vals st) (Int32.toNatClampNeg (x4 - 1)) ((s_vals st) (Int32.toNatClampNeg x4))), (upd (s_scs st) (Int32.toNatClampNeg (x4 - 1)) ((s_scs st) (Int32.toNatClampNeg x4))), (upd (s_mds st) (Int32.toNatClampNeg (x4 - 1)) (vp_nar .char ((s_mds st) (Int32.toNatClampNeg x4)))), (s_cnt st), (s_nxt st), (s_esc st), (s_fal st), (s_add st), (s_fed st), (s_rem st)) x2 zv10)
def F_X8_takeOut (fu : Nat) (st : SS) (p1 : Int32) : Option (Int64 × SS) :=
    if p1 < 0 ∨ 6 ≤ Int32.toNatClampNeg p1 then none else
    zlet ((s_vals st) (Int32.toNatClampNeg p1)) fun zv12 =>
    zlet (p1 + 1) fun zv13 =>
    F_X8_takeOut_12 fu fu st zv12 zv13
def F_X8_isAhead (st : SS) (p1 : Int32) (p2 : Int32) : Option (Int32) :=
    if p1 < 0 ∨ 6 ≤ Int32.toNatClampNeg p1 then none else
    if p2 < 0 ∨ 6 ≤ Int32.toNatClampNeg p2 then none else
    if ((s_vals st) (Int32.toNatClampNeg p1)) = ((s_vals st) (Int32.toNatClampNeg p2)) then (if p1 < 0 ∨ 6 ≤ Int32.toNatClampNeg p1 then none else
    if p2 < 0 ∨ 6 ≤ Int32.toNatClampNeg p2 then none else
    if ((s_scs st) (Int32.toNatClampNeg p1)) = ((s_scs st) (Int32.toNatClampNeg p2)) then (if p2 ≤ p1 then (some 0)
    else (some 1))
    else (if p1 < 0 ∨ 6 ≤ Int32.toNatClampNeg p1 then none else
    if p2 < 0 ∨ 6 ≤ Int32.toNatClampNeg p2 then none else
    if ((s_scs st) (Int32.toNatClampNeg p1)) ≤ ((s_scs st) (Int32.toNatClampNeg p2)) then (some 0)
    else (some 1)))
    else (if p1 < 0 ∨ 6 ≤ Int32.toNatClampNeg p1 then none else
    if p2 < 0 ∨ 6 ≤ Int32.toNatClampNeg p2 then none else
    if ((s_vals st) (Int32.toNatClampNeg p2)) < ((s_vals st) (Int32.toNatClampNeg p1)) then (some 1)
    else (some 0))
def F_X8_rankOf_4 (fu : Nat) : Nat → SS → Int32 → Int32 → Int32 → Option (Int32)
  | 0 => fun _ _ _ _ => none
  | n + 1 => fun st p1 x2 x3 =>
    if (s_cnt st) ≤ x3 then (some x2)
    else (zbind (F_X8_isAhead st x3 p1) fun zo2 =>
    if zo2 = 0 then (zlet (x3 + 1) fun zv4 =>
    (F_X8_rankOf_4 fu n) st p1 x2 zv4)
    else (zlet (x2 + 1) fun zv5 =>
    zlet (x3 + 1) fun zv6 =>
    (F_X8_rankOf_4 fu n) st p1 zv5 zv6))
def F_X8_rankOf (fu : Nat) (st : SS) (p1 : Int32) : Option (Int32) :=
    F_X8_rankOf_4 fu fu st p1 0 0
def F_X8_fitsSteps_2 (fu : Nat) : Nat → SS → Int32 → Option (Int32)
  | 0 => fun _ _ => none
  | n + 1 => fun st x1 =>
    if (s_cnt st) ≤ x1 then (some 1)
    else (if x1 < 0 ∨ 6 ≤ Int32.toNatClampNeg x1 then none else
    if x1 < 0 ∨ 6 ≤ Int32.toNatClampNeg x1 then none else
    zbind (F_X7_stepOf ((s_scs st) (Int32.toNatClampNeg x1))) fun zo4 =>
    if zo4 = 0 then none else
    if (((s_vals st) (Int32.toNatClampNeg x1)) - ((s_vals st) (Int32.toNatClampNeg x1)) / zo4 * zo4) = 0 then (zlet (x1 + 1) fun zv7 =>
    (F_X8_fitsSteps_2 fu n) st zv7)
    else (some 0))
def F_X8_fitsSteps (fu : Nat) (st : SS) : Option (Int32) :=
    F_X8_fitsSteps_2 fu fu st 0
def F_X8_sumOfValues_4 (fu : Nat) : Nat → SS → Int64 → Int32 → Option (Int64)
  | 0 => fun _ _ _ => none
  | n + 1 => fun st x1 x3 =>
    if (s_cnt st) ≤ x3 then (some x1)
    else (if x3 < 0 ∨ 6 ≤ Int32.toNatClampNeg x3 then none else
    zlet (x1 + ((s_vals st) (Int32.toNatClampNeg x3))) fun zv3 =>
    zlet (x3 + 1) fun zv4 =>
    (F_X8_sumOfValues_4 fu n) st zv3 zv4)
def F_X8_sumOfValues (fu : Nat) (st : SS) : Option (Int64) :=
    F_X8_sumOfValues_4 fu fu st 0 0
def F_X8_sumByAccounts (st : SS) : Option (Int64) :=
    some (((((s_add st) + (s_fed st)) + (s_fal st)) - (s_rem st)) - (10000000000 * (Int32.toInt64 (s_esc st))))
def F_X8_copyFrom (st : SS) (su : SS) : Option (SS) :=
    if ¬ (zfit6 (s_mds su) = true) then none else
    some ((va_cpy (s_ids su) (s_ids st) 0 0 6), (va_cpy (s_vals su) (s_vals st) 0 0 6), (va_cpy (s_scs su) (s_scs st) 0 0 6), (va_cpy (s_mds su) (s_mds st) 0 0 6), (s_cnt su), (s_nxt su), (s_esc su), (s_fal su), (s_add su), (s_fed su), (s_rem su))
