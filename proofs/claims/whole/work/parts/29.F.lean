abbrev wArr (g : GG) (d1 : Nat) (seen : Nat → Int32) : va_W := [(d1, .inl (gcI g, 1000, .inl seen))]
abbrev wRoot (g : GG) (ad : Nat → Nat) (st : SS) (sv : SS) (isS : Int32) (hst : Nat → SS) (spare : Int32) (undo : Int32) (seen : Nat → Int32) (dbef : Int32) (drec : Int32) (ptx : Nat → Int32) (plen : Int32) (ppos : Int32) (pcnt : Int32) (cmds : Nat → CC) (stE : Int32) (stF : Int32) (lch : Nat → Int32) (llen : Int32) : va_W := [((ad 0), .inr (6, [.ref (ad 1), .ref (ad 6), .int isS, .ref (ad 11), .ref (ad 58), .ref (ad 60), .int stE, .int stF, .ref (ad 72)])), ((ad 1), .inr (5, [.ref (ad 2), .ref (ad 3), .ref (ad 4), .ref (ad 5), .int (s_cnt st), .int (s_nxt st), .int (s_esc st), .long (s_fal st), .long (s_add st), .long (s_fed st), .long (s_rem st)])), ((ad 2), .inl (gcI g, 6, .inl (s_ids st))), ((ad 3), .inl (gcJ g, 6, .inr (.inl (s_vals st)))), ((ad 4), .inl (gcI g, 6, .inl (s_scs st))), ((ad 5), .inl (gcC g, 6, .inl (s_mds st))), ((ad 6), .inr (5, [.ref (ad 7), .ref (ad 8), .ref (ad 9), .ref (ad 10), .int (s_cnt sv), .int (s_nxt sv), .int (s_esc sv), .long (s_fal sv), .long (s_add sv), .long (s_fed sv), .long (s_rem sv)])), ((ad 7), .inl (gcI g, 6, .inl (s_ids sv))), ((ad 8), .inl (gcJ g, 6, .inr (.inl (s_vals sv)))), ((ad 9), .inl (gcI g, 6, .inl (s_scs sv))), ((ad 10), .inl (gcC g, 6, .inl (s_mds sv))), ((ad 11), .inr (1, [.ref (ad 12), .int spare, .int undo])), ((ad 12), .inl (gcS g, 9, .inr (.inr (.inr (.inr (fun k => some (ad (13 + 5 * k)))))))), ((ad 13), .inr (5, [.ref (ad 14), .ref (ad 15), .ref (ad 16), .ref (ad 17), .int (s_cnt (hst 0)), .int (s_nxt (hst 0)), .int (s_esc (hst 0)), .long (s_fal (hst 0)), .long (s_add (hst 0)), .long (s_fed (hst 0)), .long (s_rem (hst 0))])), ((ad 14), .inl (gcI g, 6, .inl (s_ids (hst 0)))), ((ad 15), .inl (gcJ g, 6, .inr (.inl (s_vals (hst 0))))), ((ad 16), .inl (gcI g, 6, .inl (s_scs (hst 0)))), ((ad 17), .inl (gcC g, 6, .inl (s_mds (hst 0)))), ((ad 18), .inr (5, [.ref (ad 19), .ref (ad 20), .ref (ad 21), .ref (ad 22), .int (s_cnt (hst 1)), .int (s_nxt (hst 1)), .int (s_esc (hst 1)), .long (s_fal (hst 1)), .long (s_add (hst 1)), .long (s_fed (hst 1)), .long (s_rem (hst 1))])), ((ad 19), .inl (gcI g, 6, .inl (s_ids (hst 1)))), ((ad 20), .inl (gcJ g, 6, .inr (.inl (s_vals (hst 1))))), ((ad 21), .inl (gcI g, 6, .inl (s_scs (hst 1)))), ((ad 22), .inl (gcC g, 6, .inl (s_mds (hst 1)))), ((ad 23), .inr (5, [.ref (ad 24), .ref (ad 25), .ref (ad 26), .ref (ad 27), .int (s_cnt (hst 2)), .int (s_nxt (hst 2)), .int (s_esc (hst 2)), .long (s_fal (hst 2)), .long (s_add (hst 2)), .long (s_fed (hst 2)), .long (s_rem (hst 2))])), ((ad 24), .inl (gcI g, 6, .inl (s_ids (hst 2)))), ((ad 25), .inl (gcJ g, 6, .inr (.inl (s_vals (hst 2))))), ((ad 26), .inl (gcI g, 6, .inl (s_scs (hst 2)))), ((ad 27), .inl (gcC g, 6, .inl (s_mds (hst 2)))), ((ad 28), .inr (5, [.ref (ad 29), .ref (ad 30), .ref (ad 31), .ref (ad 32), .int (s_cnt (hst 3)), .int (s_nxt (hst 3)), .int (s_esc (hst 3)), .long (s_fal (hst 3)), .long (s_add (hst 3)), .long (s_fed (hst 3)), .long (s_rem (hst 3))])), ((ad 29), .inl (gcI g, 6, .inl (s_ids (hst 3)))), ((ad 30), .inl (gcJ g, 6, .inr (.inl (s_vals (hst 3))))), ((ad 31), .inl (gcI g, 6, .inl (s_scs (hst 3)))), ((ad 32), .inl (gcC g, 6, .inl (s_mds (hst 3)))), ((ad 33), .inr (5, [.ref (ad 34), .ref (ad 35), .ref (ad 36), .ref (ad 37), .int (s_cnt (hst 4)), .int (s_nxt (hst 4)), .int (s_esc (hst 4)), .long (s_fal (hst 4)), .long (s_add (hst 4)), .long (s_fed (hst 4)), .long (s_rem (hst 4))])), ((ad 34), .inl (gcI g, 6, .inl (s_ids (hst 4)))), ((ad 35), .inl (gcJ g, 6, .inr (.inl (s_vals (hst 4))))), ((ad 36), .inl (gcI g, 6, .inl (s_scs (hst 4)))), ((ad 37), .inl (gcC g, 6, .inl (s_mds (hst 4)))), ((ad 38), .inr (5, [.ref (ad 39), .ref (ad 40), .ref (ad 41), .ref (ad 42), .int (s_cnt (hst 5)), .int (s_nxt (hst 5)), .int (s_esc (hst 5)), .long (s_fal (hst 5)), .long (s_add (hst 5)), .long (s_fed (hst 5)), .long (s_rem (hst 5))])), ((ad 39), .inl (gcI g, 6, .inl (s_ids (hst 5)))), ((ad 40), .inl (gcJ g, 6, .inr (.inl (s_vals (hst 5))))), ((ad 41), .inl (gcI g, 6, .inl (s_scs (hst 5)))), ((ad 42), .inl (gcC g, 6, .inl (s_mds (hst 5)))), ((ad 43), .inr (5, [.ref (ad 44), .ref (ad 45), .ref (ad 46), .ref (ad 47), .int (s_cnt (hst 6)), .int (s_nxt (hst 6)), .int (s_esc (hst 6)), .long (s_fal (hst 6)), .long (s_add (hst 6)), .long (s_fed (hst 6)), .long (s_rem (hst 6))])), ((ad 44), .inl (gcI g, 6, .inl (s_ids (hst 6)))), ((ad 45), .inl (gcJ g, 6, .inr (.inl (s_vals (hst 6))))), ((ad 46), .inl (gcI g, 6, .inl (s_scs (hst 6)))), ((ad 47), .inl (gcC g, 6, .inl (s_mds (hst 6)))), ((ad 48), .inr (5, [.ref (ad 49), .ref (ad 50), .ref (ad 51), .ref (ad 52), .int (s_cnt (hst 7)), .int (s_nxt (hst 7)), .int (s_esc (hst 7)), .long (s_fal (hst 7)), .long (s_add (hst 7)), .long (s_fed (hst 7)), .long (s_rem (hst 7))])), ((ad 49), .inl (gcI g, 6, .inl (s_ids (hst 7)))), ((ad 50), .inl (gcJ g, 6, .inr (.inl (s_vals (hst 7))))), ((ad 51), .inl (gcI g, 6, .inl (s_scs (hst 7)))), ((ad 52), .inl (gcC g, 6, .inl (s_mds (hst 7)))), ((ad 53), .inr (5, [.ref (ad 54), .ref (ad 55), .ref (ad 56), .ref (ad 57), .int (s_cnt (hst 8)), .int (s_nxt (hst 8)), .int (s_esc (hst 8)), .long (s_fal (hst 8)), .long (s_add (hst 8)), .long (s_fed (hst 8)), .long (s_rem (hst 8))])), ((ad 54), .inl (gcI g, 6, .inl (s_ids (hst 8)))), ((ad 55), .inl (gcJ g, 6, .inr (.inl (s_vals (hst 8))))), ((ad 56), .inl (gcI g, 6, .inl (s_scs (hst 8)))), ((ad 57), .inl (gcC g, 6, .inl (s_mds (hst 8)))), ((ad 58), .inr (3, [.ref (ad 59), .int dbef, .int drec])), ((ad 59), .inl (gcI g, 1000, .inl seen)), ((ad 60), .inr (4, [.ref (ad 61), .int plen, .int ppos, .ref (ad 62), .int pcnt])), ((ad 61), .inl (gcC g, 60, .inl ptx)), ((ad 62), .inl (gcK g, 9, .inr (.inr (.inr (.inr (fun k => some (ad (63 + k)))))))), ((ad 63), .inr (0, [.ref (gaE g (k_kind (cmds 0))), .int (k_first (cmds 0)), .int (k_second (cmds 0)), .int (k_whole (cmds 0)), .int (k_frac (cmds 0)), .int (k_scale (cmds 0)), .int (k_mode (cmds 0))])), ((ad 64), .inr (0, [.ref (gaE g (k_kind (cmds 1))), .int (k_first (cmds 1)), .int (k_second (cmds 1)), .int (k_whole (cmds 1)), .int (k_frac (cmds 1)), .int (k_scale (cmds 1)), .int (k_mode (cmds 1))])), ((ad 65), .inr (0, [.ref (gaE g (k_kind (cmds 2))), .int (k_first (cmds 2)), .int (k_second (cmds 2)), .int (k_whole (cmds 2)), .int (k_frac (cmds 2)), .int (k_scale (cmds 2)), .int (k_mode (cmds 2))])), ((ad 66), .inr (0, [.ref (gaE g (k_kind (cmds 3))), .int (k_first (cmds 3)), .int (k_second (cmds 3)), .int (k_whole (cmds 3)), .int (k_frac (cmds 3)), .int (k_scale (cmds 3)), .int (k_mode (cmds 3))])), ((ad 67), .inr (0, [.ref (gaE g (k_kind (cmds 4))), .int (k_first (cmds 4)), .int (k_second (cmds 4)), .int (k_whole (cmds 4)), .int (k_frac (cmds 4)), .int (k_scale (cmds 4)), .int (k_mode (cmds 4))])), ((ad 68), .inr (0, [.ref (gaE g (k_kind (cmds 5))), .int (k_first (cmds 5)), .int (k_second (cmds 5)), .int (k_whole (cmds 5)), .int (k_frac (cmds 5)), .int (k_scale (cmds 5)), .int (k_mode (cmds 5))])), ((ad 69), .inr (0, [.ref (gaE g (k_kind (cmds 6))), .int (k_first (cmds 6)), .int (k_second (cmds 6)), .int (k_whole (cmds 6)), .int (k_frac (cmds 6)), .int (k_scale (cmds 6)), .int (k_mode (cmds 6))])), ((ad 70), .inr (0, [.ref (gaE g (k_kind (cmds 7))), .int (k_first (cmds 7)), .int (k_second (cmds 7)), .int (k_whole (cmds 7)), .int (k_frac (cmds 7)), .int (k_scale (cmds 7)), .int (k_mode (cmds 7))])), ((ad 71), .inr (0, [.ref (gaE g (k_kind (cmds 8))), .int (k_first (cmds 8)), .int (k_second (cmds 8)), .int (k_whole (cmds 8)), .int (k_frac (cmds 8)), .int (k_scale (cmds 8)), .int (k_mode (cmds 8))])), ((ad 72), .inr (2, [.ref (ad 73), .int llen])), ((ad 73), .inl (gcC g, 64, .inl lch))]
def F_J6_bitCount_0f7a4 (p0 : Int32) : Option (Int32) :=
    zlet (p0 - ((((p0).toUInt32 >>> ((1 : Int32).toUInt32 &&& Int32.toUInt32 31)).toInt32) &&& 1431655765)) fun zv1 =>
    zlet ((zv1 &&& 858993459) + ((((zv1).toUInt32 >>> ((2 : Int32).toUInt32 &&& Int32.toUInt32 31)).toInt32) &&& 858993459)) fun zv2 =>
    zlet ((zv2 + (((zv2).toUInt32 >>> ((4 : Int32).toUInt32 &&& Int32.toUInt32 31)).toInt32)) &&& 252645135) fun zv3 =>
    zlet (zv3 + (((zv3).toUInt32 >>> ((8 : Int32).toUInt32 &&& Int32.toUInt32 31)).toInt32)) fun zv4 =>
    zlet (zv4 + (((zv4).toUInt32 >>> ((16 : Int32).toUInt32 &&& Int32.toUInt32 31)).toInt32)) fun zv5 =>
    some (zv5 &&& 63)
def F_J7_fill_53178_5 (fu : Nat) : Nat → (Nat → Int32) → Int32 → Int32 → Int32 → Option ((Nat → Int32))
  | 0 => fun _ _ _ _ => none
  | n + 1 => fun seen p1 x2 x3 =>
    if x3 ≤ x2 then (some seen)
    else (if x2 < 0 ∨ 1000 ≤ Int32.toNatClampNeg x2 then none else
    zlet (x2 + 1) fun zv3 =>
    (F_J7_fill_53178_5 fu n) (upd seen (Int32.toNatClampNeg x2) p1) p1 zv3 x3)
def F_J7_fill_53178 (fu : Nat) (seen : Nat → Int32) (p1 : Int32) : Option ((Nat → Int32)) :=
    F_J7_fill_53178_5 fu fu seen p1 0 1000
def F_J0_coder_7d493 (k0 : Nat) : Option (Int32) :=
    some 0
def F_J0_isLatin1_aae02 (k0 : Nat) : Option (Int32) :=
    some 1
def F_J0_length_8abf5 (k0 : Nat) : Option (Int32) :=
    zbind (F_J0_coder_7d493 k0) fun zo1 =>
    some ((nI (zLen.getD k0 0)) >>> (zo1 &&& 31))
def F_J1_canEncode_9a6ad (p0 : Int32) : Option (Int32) :=
    if p0 < 0 then (some 0)
    else (if 255 < p0 then (some 0)
    else (some 1))
def F_J1_indexOfChar_4cfef_7 (fu : Nat) : Nat → Nat → Int32 → Int32 → Int32 → Option (Int32)
  | 0 => fun _ _ _ _ => none
  | n + 1 => fun k0 p3 x4 x5 =>
    if p3 ≤ x5 then (some (-1))
    else (if x5 < 0 ∨ zLen.getD k0 0 ≤ Int32.toNatClampNeg x5 then none else
    if ((zByt.getD k0 []).getD (Int32.toNatClampNeg x5) 0) = x4 then (some x5)
    else (zlet (x5 + 1) fun zv4 =>
    (F_J1_indexOfChar_4cfef_7 fu n) k0 p3 x4 zv4))
def F_J1_indexOfChar_4cfef (fu : Nat) (k0 : Nat) (p1 : Int32) (p2 : Int32) (p3 : Int32) : Option (Int32) :=
    zlet ((p1).toInt8.toInt32) fun zv5 =>
    F_J1_indexOfChar_4cfef_7 fu fu k0 p3 zv5 p2
def F_J1_indexOf_4cfef (fu : Nat) (k0 : Nat) (p1 : Int32) (p2 : Int32) (p3 : Int32) : Option (Int32) :=
    zbind (F_J1_canEncode_9a6ad p1) fun zo1 =>
    if zo1 = 0 then (some (-1))
    else (zlet (if p2 < 0 then 0 else p2) fun zv3 =>
    zlet (if (nI (zLen.getD k0 0)) < p3 then (nI (zLen.getD k0 0)) else p3) fun zv4 =>
    if zv3 < zv4 then (zbind (F_J1_indexOfChar_4cfef fu k0 p1 zv3 zv4) fun zo6 =>
    some zo6)
    else (some (-1)))
def F_J0_indexOf_7cf53 (fu : Nat) (k0 : Nat) (p1 : Int32) (p2 : Int32) : Option (Int32) :=
    zbind (F_J0_isLatin1_aae02 k0) fun zo1 =>
    if zo1 = 0 then (none)
    else (zbind (F_J0_length_8abf5 k0) fun zo3 =>
    zbind (F_J1_indexOf_4cfef fu k0 p1 p2 zo3) fun zo4 =>
    some zo4)
def F_J0_indexOf_0f7a4 (fu : Nat) (k0 : Nat) (p1 : Int32) : Option (Int32) :=
    zbind (F_J0_indexOf_7cf53 fu k0 p1 0) fun zo1 =>
    some zo1
def F_J3_checkIndexN (p0 : Int32) (p1 : Int32) : Option (Int32) :=
    if p0 < 0 then (none)
    else (if p0 < p1 then (some p0)
    else (none))
def F_J0_checkIndex_df160 (p0 : Int32) (p1 : Int32) : Option (Unit) :=
    zbind (F_J3_checkIndexN p0 p1) fun zo1 =>
    some ()
def F_J1_charAt_3b067 (k0 : Nat) (p1 : Int32) : Option (Int32) :=
    zbind (F_J0_checkIndex_df160 p1 (nI (zLen.getD k0 0))) fun zo1 =>
    if p1 < 0 ∨ zLen.getD k0 0 ≤ Int32.toNatClampNeg p1 then none else
    if ¬ (0 ≤ (zchar (((zByt.getD k0 []).getD (Int32.toNatClampNeg p1) 0) &&& 255)) ∧ (zchar (((zByt.getD k0 []).getD (Int32.toNatClampNeg p1) 0) &&& 255)) ≤ 65535) then none else
    some (zchar (((zByt.getD k0 []).getD (Int32.toNatClampNeg p1) 0) &&& 255))
def F_J0_charAt_5068e (k0 : Nat) (p1 : Int32) : Option (Int32) :=
    zbind (F_J0_isLatin1_aae02 k0) fun zo1 =>
    if zo1 = 0 then (none)
    else (zbind (F_J1_charAt_3b067 k0 p1) fun zo3 =>
    if ¬ (0 ≤ zo3 ∧ zo3 ≤ 65535) then none else
    some zo3)
def F_X5_commonDivisor_7 (fu : Nat) : Nat → Int32 → Int32 → Int32 → Option (Int32)
  | 0 => fun _ _ _ => none
  | n + 1 => fun x2 x3 x4 =>
    if 100 ≤ x4 then (some x2)
    else (if x3 = 0 then (some x2)
    else (if x3 = 0 then none else
    zlet (x2 - x2 / x3 * x3) fun zv4 =>
    zlet (x4 + 1) fun zv5 =>
    (F_X5_commonDivisor_7 fu n) x3 zv4 zv5))
def F_X5_commonDivisor (fu : Nat) (p0 : Int32) (p1 : Int32) : Option (Int32) :=
    F_X5_commonDivisor_7 fu fu p0 p1 0
def F_X5_without_4 (fu : Nat) : Nat → Int32 → Int32 → Int32 → Option (Int32)
  | 0 => fun _ _ _ => none
  | n + 1 => fun p0 x2 x3 =>
    if 10 ≤ x3 then (some x2)
    else (if p0 = 0 then none else
    if (x2 - x2 / p0 * p0) = 0 then (if p0 = 0 then none else
    zlet (x2 / p0) fun zv5 =>
    zlet (x3 + 1) fun zv6 =>
    (F_X5_without_4 fu n) p0 zv5 zv6)
    else (some x2))
def F_X5_without (fu : Nat) (p0 : Int32) (p1 : Int32) : Option (Int32) :=
    F_X5_without_4 fu fu p0 p1 0
def F_X5_recurringFactor (fu : Nat) (p0 : Int32) (p1 : Int32) : Option (Int32) :=
    zbind (F_X5_commonDivisor fu p0 p1) fun zo1 =>
    if 1 ≤ zo1 then (if zo1 = 0 then none else
    zlet (p1 / zo1) fun zv4 =>
    zbind (F_X5_without fu 2 zv4) fun zo5 =>
    zbind (F_X5_without fu 5 zo5) fun zo6 =>
    some zo6)
    else (zbind (F_X5_without fu 2 p1) fun zo7 =>
    zbind (F_X5_without fu 5 zo7) fun zo8 =>
    some zo8)
def F_X5_orderOfTen_14 (fu : Nat) : Nat → Int32 → Int32 → Int32 → Option (Int32)
  | 0 => fun _ _ _ => none
  | n + 1 => fun p0 x1 x2 =>
    if p0 ≤ x2 then (some x2)
    else (if p0 = 0 then none else
    if x1 = (1 - 1 / p0 * p0) then (some x2)
    else (if p0 = 0 then none else
    zlet ((x1 * 10) - (x1 * 10) / p0 * p0) fun zv5 =>
    zlet (x2 + 1) fun zv6 =>
    (F_X5_orderOfTen_14 fu n) p0 zv5 zv6))
def F_X5_orderOfTen (fu : Nat) (p0 : Int32) : Option (Int32) :=
    if 1 ≤ p0 then (if p0 = 0 then none else
    zlet (10 - 10 / p0 * p0) fun zv9 =>
    F_X5_orderOfTen_14 fu fu p0 zv9 1)
    else (some 1)
def F_X5_divide_52 (fu : Nat) (seen : Nat → Int32) (dbef : Int32) (drec : Int32) (x3 : Int32) (x4 : Int32) : Option ((Nat → Int32) × Int32 × Int32) :=
  if x3 < 0 ∨ 1000 ≤ Int32.toNatClampNeg x3 then none else
    some (seen, (seen (Int32.toNatClampNeg x3)), (x4 - (seen (Int32.toNatClampNeg x3))))
def F_X5_divide_15 (fu : Nat) : Nat → (Nat → Int32) → Int32 → Int32 → Int32 → Int32 → Int32 → Option ((Nat → Int32) × Int32 × Int32)
  | 0 => fun _ _ _ _ _ _ => none
  | n + 1 => fun seen dbef drec p2 x3 x4 =>
    if p2 < x4 then (F_X5_divide_52 fu seen dbef drec x3 x4)
    else (if x3 < 0 ∨ 1000 ≤ Int32.toNatClampNeg x3 then none else
    if (seen (Int32.toNatClampNeg x3)) = (-1) then (if x3 < 0 ∨ 1000 ≤ Int32.toNatClampNeg x3 then none else
    if p2 = 0 then none else
    zlet ((x3 * 10) - (x3 * 10) / p2 * p2) fun zv7 =>
    zlet (x4 + 1) fun zv8 =>
    (F_X5_divide_15 fu n) (upd seen (Int32.toNatClampNeg x3) x4) dbef drec p2 zv7 zv8)
    else (F_X5_divide_52 fu seen dbef drec x3 x4))
def F_X5_divide (fu : Nat) (seen : Nat → Int32) (dbef : Int32) (drec : Int32) (p1 : Int32) (p2 : Int32) : Option ((Nat → Int32) × Int32 × Int32) :=
    zbind (F_J7_fill_53178 fu seen (-1)) fun zo9 =>
    if p2 = 0 then none else
    zlet (p1 - p1 / p2 * p2) fun zv11 =>
    F_X5_divide_15 fu fu zo9 dbef drec p2 zv11 0
def F_X10_requireAmount (p0 : Int32) (p1 : Int32) : Option (Except (Nat × (Unit)) (Unit)) :=
    if p0 < 0 then (some (.error (0, ())))
    else (if 999999 < p0 then (some (.error (0, ())))
    else (if p1 < 0 then (some (.error (0, ())))
    else (if p1 ≤ 9999 then (some (.ok ()))
    else (some (.error (0, ()))))))
def F_X10_requireScale (p0 : Int32) : Option (Except (Nat × (Unit)) (Unit)) :=
    if p0 < 0 then (some (.error (0, ())))
    else (if p0 ≤ 4 then (some (.ok ()))
    else (some (.error (0, ()))))
def F_X10_requireMode (fu : Nat) (p0 : Int32) : Option (Except (Nat × (Unit)) (Unit)) :=
    zbind (F_J0_indexOf_0f7a4 fu 0 p0) fun zo1 =>
    if 0 ≤ zo1 then (some (.ok ()))
    else (some (.error (0, ())))
def F_X10_requireQuotient (p0 : Int32) (p1 : Int32) : Option (Except (Nat × (Unit)) (Unit)) :=
    if p0 < 0 then (some (.error (0, ())))
    else (if 9999 < p0 then (some (.error (0, ())))
    else (if p1 < 1 then (some (.error (0, ())))
    else (if p1 ≤ 999 then (some (.ok ()))
    else (some (.error (0, ()))))))
def F_X10_unitsOf (p0 : Int32) (p1 : Int32) : Option (Int64) :=
    some (((Int32.toInt64 p0) * 10000) + (Int32.toInt64 p1))
def F_X10_digitAt_5 (fu : Nat) : Nat → Int32 → Int64 → Int32 → Option (Int32)
  | 0 => fun _ _ _ => none
  | n + 1 => fun p2 x3 x5 =>
    if p2 ≤ x5 then (some (Int64.toInt32 (x3 - x3 / 10 * 10)))
    else (zlet (x3 / 10) fun zv2 =>
    zlet (x5 + 1) fun zv3 =>
    (F_X10_digitAt_5 fu n) p2 zv2 zv3)
def F_X10_digitAt (fu : Nat) (p0 : Int64) (p2 : Int32) : Option (Int32) :=
    F_X10_digitAt_5 fu fu p2 p0 0
def F_X10_sumOfDigits_4 (fu : Nat) : Nat → Int64 → Int32 → Int32 → Option (Int32)
  | 0 => fun _ _ _ => none
  | n + 1 => fun p0 x2 x3 =>
    if 10 < x3 then (some x2)
    else (zbind (F_X10_digitAt fu p0 x3) fun zo2 =>
    zlet (x2 + zo2) fun zv3 =>
    zlet (x3 + 1) fun zv4 =>
    (F_X10_sumOfDigits_4 fu n) p0 zv3 zv4)
def F_X10_sumOfDigits (fu : Nat) (p0 : Int64) : Option (Int32) :=
    F_X10_sumOfDigits_4 fu fu p0 0 0
def F_X10_carryingPlaces_9 (fu : Nat) : Nat → Int64 → Int64 → Int32 → Int32 → Int32 → Option (Int32)
  | 0 => fun _ _ _ _ _ => none
  | n + 1 => fun p0 p2 x4 x5 x6 =>
    if 10 ≤ x6 then (some x4)
    else (zbind (F_X10_digitAt fu p0 x6) fun zo2 =>
    zbind (F_X10_digitAt fu p2 x6) fun zo3 =>
    if ((zo2 + zo3) + x5) ≤ 9 then (zlet (x4 ||| (0 <<< (x6 &&& 31))) fun zv5 =>
    zlet (x6 + 1) fun zv6 =>
    (F_X10_carryingPlaces_9 fu n) p0 p2 zv5 0 zv6)
    else (zlet (x4 ||| (1 <<< (x6 &&& 31))) fun zv7 =>
    zlet (x6 + 1) fun zv8 =>
    (F_X10_carryingPlaces_9 fu n) p0 p2 zv7 1 zv8))
def F_X10_carryingPlaces (fu : Nat) (p0 : Int64) (p2 : Int64) : Option (Int32) :=
    F_X10_carryingPlaces_9 fu fu p0 p2 0 0 0
def F_X10_carriesByDigitSums (fu : Nat) (p0 : Int64) (p2 : Int64) : Option (Int32) :=
    zbind (F_X10_sumOfDigits fu p0) fun zo1 =>
    zbind (F_X10_sumOfDigits fu p2) fun zo2 =>
    zbind (F_X10_sumOfDigits fu (p0 + p2)) fun zo3 =>
    some (((zo1 + zo2) - zo3) / 9)
def F_X4_put (lch : Nat → Int32) (llen : Int32) (p1 : Int32) : Option ((Nat → Int32) × Int32) :=
    if 64 ≤ llen then (some (lch, llen))
    else (if llen < 0 ∨ 64 ≤ Int32.toNatClampNeg llen then none else
    some ((upd lch (Int32.toNatClampNeg llen) (vp_nar .char p1)), (llen + 1)))
def F_X4_putDigit (lch : Nat → Int32) (llen : Int32) (p1 : Int32) : Option ((Nat → Int32) × Int32) :=
    zbind (F_X4_put lch llen (zchar (48 + p1))) fun zo1 =>
    some (zo1.1, zo1.2)
def F_X4_putWhole_37 (k6 : (Nat → Int32) → Int32 → Int64 → Int32 → Int32 → Option ((Nat → Int32) × Int32)) (fu : Nat) (lch : Nat → Int32) (llen : Int32) (p1 : Int64) (x4 : Int32) (x5 : Int32) : Option ((Nat → Int32) × Int32) :=
  zbind (F_X4_putDigit lch llen x5) fun zo1 =>
    zlet (x4 + (-1)) fun zv2 =>
    k6 zo1.1 zo1.2 p1 0 zv2
def F_X4_putWhole_6 (fu : Nat) : Nat → (Nat → Int32) → Int32 → Int64 → Int32 → Int32 → Option ((Nat → Int32) × Int32)
  | 0 => fun _ _ _ _ _ => none
  | n + 1 => fun lch llen p1 x3 x4 =>
    if x4 < 0 then (some (lch, llen))
    else (zbind (F_X10_digitAt fu p1 x4) fun zo4 =>
    if x3 = 0 then (F_X4_putWhole_37 (F_X4_putWhole_6 fu n) fu lch llen p1 x4 zo4)
    else (if zo4 = 0 then (if x4 ≤ 0 then (F_X4_putWhole_37 (F_X4_putWhole_6 fu n) fu lch llen p1 x4 zo4)
    else (zlet (x4 + (-1)) fun zv8 =>
    (F_X4_putWhole_6 fu n) lch llen p1 1 zv8))
    else (F_X4_putWhole_37 (F_X4_putWhole_6 fu n) fu lch llen p1 x4 zo4)))
def F_X4_putWhole (fu : Nat) (lch : Nat → Int32) (llen : Int32) (p1 : Int64) : Option ((Nat → Int32) × Int32) :=
    F_X4_putWhole_6 fu fu lch llen p1 1 9
def F_X4_putQuotientDigits_6 (fu : Nat) : Nat → (Nat → Int32) → Int32 → Int32 → Int32 → Int32 → Int32 → Option (Int32 × (Nat → Int32) × Int32)
  | 0 => fun _ _ _ _ _ _ => none
  | n + 1 => fun lch llen p2 p3 x4 x5 =>
    if p3 ≤ x5 then (some (x4, lch, llen))
    else (if p2 = 0 then none else
    zbind (F_X4_putDigit lch llen ((x4 * 10) / p2)) fun zo3 =>
    if p2 = 0 then none else
    zlet ((x4 * 10) - (x4 * 10) / p2 * p2) fun zv5 =>
    zlet (x5 + 1) fun zv6 =>
    (F_X4_putQuotientDigits_6 fu n) zo3.1 zo3.2 p2 p3 zv5 zv6)
def F_X4_putQuotientDigits (fu : Nat) (lch : Nat → Int32) (llen : Int32) (p1 : Int32) (p2 : Int32) (p3 : Int32) : Option (Int32 × (Nat → Int32) × Int32) :=
    F_X4_putQuotientDigits_6 fu fu lch llen p2 p3 p1 0
def F_X6_isFull (plen : Int32) : Option (Int32) :=
    if plen < 60 then (some 0)
    else (some 1)
def F_X6_put (ptx : Nat → Int32) (plen : Int32) (p1 : Int32) : Option ((Nat → Int32) × Int32) :=
    if plen < 0 ∨ 60 ≤ Int32.toNatClampNeg plen then none else
    some ((upd ptx (Int32.toNatClampNeg plen) (vp_nar .char p1)), (plen + 1))
def F_X6_readCharacter (ptx : Nat → Int32) (plen : Int32) (ppos : Int32) (p1 : Int32) : Option (Int32 × Int32) :=
    if plen ≤ ppos then (some (0, ppos))
    else (if ppos < 0 ∨ 60 ≤ Int32.toNatClampNeg ppos then none else
    if (ptx (Int32.toNatClampNeg ppos)) = p1 then (some (1, (ppos + 1)))
    else (some (0, ppos)))
def F_X6_readDigit (ptx : Nat → Int32) (plen : Int32) (ppos : Int32) : Option (Int32 × Int32) :=
    if plen ≤ ppos then (some ((-1), ppos))
    else (if ppos < 0 ∨ 60 ≤ Int32.toNatClampNeg ppos then none else
    if (ptx (Int32.toNatClampNeg ppos)) < 48 then (some ((-1), ppos))
    else (if ppos < 0 ∨ 60 ≤ Int32.toNatClampNeg ppos then none else
    if (ptx (Int32.toNatClampNeg ppos)) ≤ 57 then (if ((ppos + 1) - 1) < 0 ∨ 60 ≤ Int32.toNatClampNeg ((ppos + 1) - 1) then none else
    some (((ptx (Int32.toNatClampNeg ((ppos + 1) - 1))) - 48), (ppos + 1)))
    else (some ((-1), ppos))))
def F_X6_readNumber_9 (fu : Nat) : Nat → (Nat → Int32) → Int32 → Int32 → Int32 → Int32 → Int32 → Option (Int32 × Int32)
  | 0 => fun _ _ _ _ _ _ => none
  | n + 1 => fun ptx plen ppos x1 x2 x3 =>
    if 6 ≤ x3 then (some (x1, ppos))
    else (if x2 = (-1) then (some (x1, ppos))
    else (zbind (F_X6_readDigit ptx plen ppos) fun zo3 =>
    if zo3.1 = (-1) then (zlet (x3 + 1) fun zv7 =>
    (F_X6_readNumber_9 fu n) ptx plen zo3.2 x1 zo3.1 zv7)
    else (zlet ((x1 * 10) + zo3.1) fun zv5 =>
    zlet (x3 + 1) fun zv6 =>
    (F_X6_readNumber_9 fu n) ptx plen zo3.2 zv5 zo3.1 zv6)))
def F_X6_readNumber (fu : Nat) (ptx : Nat → Int32) (plen : Int32) (ppos : Int32) : Option (Int32 × Int32) :=
    zbind (F_X6_readDigit ptx plen ppos) fun zo8 =>
    F_X6_readNumber_9 fu fu ptx plen zo8.2 zo8.1 zo8.1 1
def F_X6_fittingCharacters_2 (fu : Nat) : Nat → (Nat → Int32) → Int32 → Int32 → Nat → Int32 → Option (Int32)
  | 0 => fun _ _ _ _ _ => none
  | n + 1 => fun ptx plen ppos k0 x2 =>
    zbind (F_J0_length_8abf5 k0) fun zo1 =>
    if zo1 ≤ x2 then (some x2)
    else (if plen ≤ (ppos + x2) then (some x2)
    else (if (ppos + x2) < 0 ∨ 60 ≤ Int32.toNatClampNeg (ppos + x2) then none else
    zbind (F_J0_charAt_5068e k0 x2) fun zo5 =>
    if (ptx (Int32.toNatClampNeg (ppos + x2))) = zo5 then (zlet (x2 + 1) fun zv7 =>
    (F_X6_fittingCharacters_2 fu n) ptx plen ppos k0 zv7)
    else (some x2)))
def F_X6_fittingCharacters (fu : Nat) (ptx : Nat → Int32) (plen : Int32) (ppos : Int32) (k0 : Nat) : Option (Int32) :=
    F_X6_fittingCharacters_2 fu fu ptx plen ppos k0 0
def F_X6_readFirst (fu : Nat) (ptx : Nat → Int32) (plen : Int32) (ppos : Int32) (cc : CC) : Option (Int32 × Int32 × CC) :=
    zbind (F_X6_readNumber fu ptx plen ppos) fun zo1 =>
    if zo1.1 = (-1) then (some (0, zo1.2, ((k_kind cc), zo1.1, (k_second cc), (k_whole cc), (k_frac cc), (k_scale cc), (k_mode cc))))
    else (some (1, zo1.2, ((k_kind cc), zo1.1, (k_second cc), (k_whole cc), (k_frac cc), (k_scale cc), (k_mode cc))))
def F_X6_readSecond (fu : Nat) (ptx : Nat → Int32) (plen : Int32) (ppos : Int32) (cc : CC) : Option (Int32 × Int32 × CC) :=
    zbind (F_X6_readNumber fu ptx plen ppos) fun zo1 =>
    if zo1.1 = (-1) then (some (0, zo1.2, ((k_kind cc), (k_first cc), zo1.1, (k_whole cc), (k_frac cc), (k_scale cc), (k_mode cc))))
    else (some (1, zo1.2, ((k_kind cc), (k_first cc), zo1.1, (k_whole cc), (k_frac cc), (k_scale cc), (k_mode cc))))
def F_X6_readFraction_36 (k17 : (Nat → Int32) → Int32 → Int32 → CC → Int32 → Int32 → Int32 → Option (Int32 × Int32 × CC)) (fu : Nat) (ptx : Nat → Int32) (plen : Int32) (ppos : Int32) (cc : CC) (x3 : Int32) (x4 : Int32) (y0 : Int32) : Option (Int32 × Int32 × CC) :=
  zlet ((x3 * 10) + (if y0 < 0 then 0 else y0)) fun zv1 =>
    zlet (x4 + 1) fun zv2 =>
    k17 ptx plen ppos cc y0 zv1 zv2
def F_X6_readFraction_17 (fu : Nat) : Nat → (Nat → Int32) → Int32 → Int32 → CC → Int32 → Int32 → Int32 → Option (Int32 × Int32 × CC)
  | 0 => fun _ _ _ _ _ _ _ => none
  | n + 1 => fun ptx plen ppos cc x2 x3 x4 =>
    if 4 ≤ x4 then (some (1, ppos, ((k_kind cc), (k_first cc), (k_second cc), (k_whole cc), x3, (k_scale cc), (k_mode cc))))
    else (if x2 = (-1) then (F_X6_readFraction_36 (F_X6_readFraction_17 fu n) fu ptx plen ppos cc x3 x4 (-1))
    else (zbind (F_X6_readDigit ptx plen ppos) fun zo5 =>
    F_X6_readFraction_36 (F_X6_readFraction_17 fu n) fu ptx plen zo5.2 cc x3 x4 zo5.1))
def F_X6_readFraction (fu : Nat) (ptx : Nat → Int32) (plen : Int32) (ppos : Int32) (cc : CC) : Option (Int32 × Int32 × CC) :=
    zbind (F_X6_readDigit ptx plen ppos) fun zo6 =>
    if zo6.1 = (-1) then (some (0, zo6.2, cc))
    else (F_X6_readFraction_17 fu fu ptx plen zo6.2 cc zo6.1 zo6.1 1)
def F_X6_readDecimal (fu : Nat) (ptx : Nat → Int32) (plen : Int32) (ppos : Int32) (cc : CC) : Option (Int32 × Int32 × CC) :=
    zbind (F_X6_readNumber fu ptx plen ppos) fun zo1 =>
    if zo1.1 = (-1) then (some (0, zo1.2, ((k_kind cc), (k_first cc), (k_second cc), zo1.1, 0, (k_scale cc), (k_mode cc))))
    else (zbind (F_X6_readCharacter ptx plen zo1.2 46) fun zo3 =>
    if zo3.1 = 0 then (some (1, zo3.2, ((k_kind cc), (k_first cc), (k_second cc), zo1.1, 0, (k_scale cc), (k_mode cc))))
    else (zbind (F_X6_readFraction fu ptx plen zo3.2 ((k_kind cc), (k_first cc), (k_second cc), zo1.1, 0, (k_scale cc), (k_mode cc))) fun zo5 =>
    if zo5.1 = 0 then (some (0, zo5.2.1, zo5.2.2))
    else (some (1, zo5.2.1, zo5.2.2))))
def F_X6_readScale (ptx : Nat → Int32) (plen : Int32) (ppos : Int32) (cc : CC) : Option (Int32 × Int32 × CC) :=
    zbind (F_X6_readDigit ptx plen ppos) fun zo1 =>
    if zo1.1 = (-1) then (some (0, zo1.2, ((k_kind cc), (k_first cc), (k_second cc), (k_whole cc), (k_frac cc), zo1.1, (k_mode cc))))
    else (some (1, zo1.2, ((k_kind cc), (k_first cc), (k_second cc), (k_whole cc), (k_frac cc), zo1.1, (k_mode cc))))
def F_X6_readMode (fu : Nat) (ptx : Nat → Int32) (plen : Int32) (ppos : Int32) (cc : CC) : Option (Int32 × Int32 × CC) :=
    if plen ≤ ppos then (some (0, ppos, cc))
    else (if ppos < 0 ∨ 60 ≤ Int32.toNatClampNeg ppos then none else
    zbind (F_J0_indexOf_0f7a4 fu 0 (ptx (Int32.toNatClampNeg ppos))) fun zo3 =>
    if 0 ≤ zo3 then (if ppos < 0 ∨ 60 ≤ Int32.toNatClampNeg ppos then none else
    if ¬ (0 ≤ (ptx (Int32.toNatClampNeg ppos)) ∧ (ptx (Int32.toNatClampNeg ppos)) ≤ 65535) then none else
    some (1, (ppos + 1), ((k_kind cc), (k_first cc), (k_second cc), (k_whole cc), (k_frac cc), (k_scale cc), (ptx (Int32.toNatClampNeg ppos)))))
    else (some (0, ppos, cc)))
def F_X6_readScaleAndMode (fu : Nat) (ptx : Nat → Int32) (plen : Int32) (ppos : Int32) (cc : CC) : Option (Int32 × Int32 × CC) :=
    zbind (F_X6_readScale ptx plen ppos cc) fun zo1 =>
    if zo1.1 = 0 then (some (0, zo1.2.1, zo1.2.2))
    else (zbind (F_X6_readCharacter ptx plen zo1.2.1 32) fun zo3 =>
    if zo3.1 = 0 then (some (0, zo3.2, zo1.2.2))
    else (zbind (F_X6_readMode fu ptx plen zo3.2 zo1.2.2) fun zo5 =>
    if zo5.1 = 0 then (some (0, zo5.2.1, zo5.2.2))
    else (some (1, zo5.2.1, zo5.2.2))))
