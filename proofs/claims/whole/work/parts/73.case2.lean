set_option maxHeartbeats 4000000 in
set_option maxRecDepth 100000 in
theorem k_law_1423 {p : Program} {e : Env} {s : State} {m : MethodId} {below : List Frame} {meth : Method} {c : Code} (l : Launch) (hl0 : l.stackTraces = false) {b L : Nat} {xs : Nat → Int32} (hx : p.tables.exec = Jvm.exec) (hb : c.code = cL_law) (hml : c.maxLocals = 9) (hown : s.vm.findClass RL = some m.cls) (hts : ∀ w ∈ wU, w.before #[Value.ref b] s = true) (hX : va_X b L xs s s.heap) (hbl : b < s.heap.size) {A : Nat → Prop} (hbA : ¬ A b) (hA : ∀ q, s.heap.size ≤ q → A q) (g : GG) (ad qd : Nat → Nat) (st : SS) (sv : SS) (isS : Int32) (hst : Nat → SS) (spare : Int32) (undo : Int32) (seen : Nat → Int32) (dbef : Int32) (drec : Int32) (ptx : Nat → Int32) (plen : Int32) (ppos : Int32) (pcnt : Int32) (cmds : Nat → CC) (stE : Int32) (stF : Int32) (lch : Nat → Int32) (llen : Int32) (jo : Nat → Int64) (jd : Nat → UInt64) (mm : Nat → Int64) (masd : Nat → Int64) (msav : Nat → Int64) (misS : Int32) (mpst : Nat → Int64) (mchg : Int32) (merr : Int32) (mfai : Int32) (mthr : Int32) (minp : Nat → Int32) (minM : Int32) (mUp : Nat → Int32) (mcar : Nat → Int32) (mcam : Nat → Int32) (mahd : Int32) (magn : Int32) (mltr : Nat → Int32) (mbeg : Nat → Int32) (mcmd : Nat → Int32) (mcmM : Int32) (mpl : Int32) (msz : Int32) (mwr : Int32) (mlin : Nat → Int32) (mliM : Int32) (hK : va_K (gD g) zCl (gT g) s) (hB : KB g A s s.heap) (fu : Nat) (i : Int32) (u : (Nat → Int64) × Int32 × (Nat → Int32)) (hF : G_law_1423 fu st jo mm mthr mcar L xs i = some u) {H : Heap} {locs : List Loc} {ls : Array Slot} {cells slots : Nat} (hc : cells + 51 ≤ 603072) (hsl : slots + 306 ≤ 7170153) (hl : lv_has ls 9 [(5, .int i), (4, .ref (ad 75)), (3, .ref (ad 74)), (2, .ref (qd 0)), (1, .ref (ad 0)), (0, .ref b)]) (hP : va_P (gD g) zCl (wLaw g ad qd st sv isS hst spare undo seen dbef drec ptx plen ppos pcnt cmds stE stF lch llen jo jd mm masd msav misS mpst mchg merr mfai mthr minp minM mUp mcar mcam mahd magn mltr mbeg mcmd mcmM mpl msz mwr mlin mliM) H) (hD : va_D A (wLaw g ad qd st sv isS hst spare undo seen dbef drec ptx plen ppos pcnt cmds stE stF lch llen jo jd mm masd msav misS mpst mchg merr mfai mthr minp minM mUp mcar mcam mahd magn mltr mbeg mcmd mcmM mpl msz mwr mlin mliM)) (hS : va_S A s.heap H locs)
    (kj : ∀ (H : Heap) (locs : List Loc) (ls : Array Slot), lv_has ls 9 [(5, .int i), (4, .ref (ad 75)), (3, .ref (ad 74)), (2, .ref (qd 0)), (1, .ref (ad 0)), (0, .ref b)] → va_P (gD g) zCl (wLaw g ad qd st sv isS hst spare undo seen dbef drec ptx plen ppos pcnt cmds stE stF lch llen u.1 jd mm masd msav misS mpst mchg merr mfai u.2.1 minp minM mUp u.2.2 mcam mahd magn mltr mbeg mcmd mcmM mpl msz mwr mlin mliM) H → va_D A (wLaw g ad qd st sv isS hst spare undo seen dbef drec ptx plen ppos pcnt cmds stE stF lch llen u.1 jd mm masd msav misS mpst mchg merr mfai u.2.1 minp minM mUp u.2.2 mcam mahd magn mltr mbeg mcmd mcmM mpl msz mwr mlin mliM) → va_S A s.heap H locs → W p l e room_1 s m #[Value.ref b] below meth c H locs (cells + 51) (slots + 306) (lw_Z below #[Value.ref b] s) (F0 m 2792 ls [])) : W p l e room_1 s m #[Value.ref b] below meth c H locs cells slots (lw_Z below #[Value.ref b] s) (F0 m 1423 ls []) := by
  have hc : cells + 51 ≤ room_1.cells := hc
  have hsl : slots + 306 ≤ room_1.slots := hsl
  unfold G_law_1423 at hF
  refine lv_aload_n hx hb dL_law_1423 rfl (lv_at hl 4 rfl) ?_
  refine lv_aload_n hx hb dL_law_1424 rfl (lv_at hl 5 rfl) ?_
  refine lv_iload hx hb dL_law_1425 (lv_at hl 0 rfl) ?_
  refine lv_iconst (v := 1) hx hb dL_law_1427 (by decide) ?_
  refine lv_iadd hx hb dL_law_1428 ?_
  obtain ⟨zg1, hF⟩ := z_grd hF
  refine va_sld hx hb hX hbl hbA hS zg1 dL_law_1429 ?_
  refine lv_aload_n hx hb dL_law_1430 rfl (lv_at hl 5 rfl) ?_
  refine lv_iload hx hb dL_law_1431 (lv_at hl 0 rfl) ?_
  refine lv_iconst (v := 2) hx hb dL_law_1433 (by decide) ?_
  refine lv_iadd hx hb dL_law_1434 ?_
  obtain ⟨zg2, hF⟩ := z_grd hF
  refine va_sld hx hb hX hbl hbA hS zg2 dL_law_1435 ?_
  refine lv_aload_n hx hb dL_law_1436 rfl (lv_at hl 5 rfl) ?_
  refine lv_iload hx hb dL_law_1437 (lv_at hl 0 rfl) ?_
  refine lv_iconst (v := 3) hx hb dL_law_1439 (by decide) ?_
  refine lv_iadd hx hb dL_law_1440 ?_
  obtain ⟨zg3, hF⟩ := z_grd hF
  refine va_sld hx hb hX hbl hbA hS zg3 dL_law_1441 ?_
  refine lv_aload_n hx hb dL_law_1442 rfl (lv_at hl 2 rfl) ?_
  obtain ⟨zo4, hzo4, hF⟩ := z_bind hF
  refine z_calli (fun (u : (Nat → Int64)) => (wRootJ g ad st sv isS hst spare undo seen dbef drec ptx plen ppos pcnt cmds stE stF lch llen u)) zLJ (vx_runSW (As := [.ref (ad 0), .int (xs (Int32.toNatClampNeg (i + 1))), .int (xs (Int32.toNatClampNeg (i + 2))), .int (xs (Int32.toNatClampNeg (i + 3))), .ref (ad 74)]) (rest := []) ⟨hx, hb, hml, hown, hts⟩ (c_L_carries l hl0 g ad st sv isS hst spare undo seen dbef drec ptx plen ppos pcnt cmds stE stF lch llen jo _ (xs (Int32.toNatClampNeg (i + 1))) (xs (Int32.toNatClampNeg (i + 2))) (xs (Int32.toNatClampNeg (i + 3))) fu _ hzo4) (vx_cwSW 5 hts (gdS mU_906 mU_907 mU_65 mU_908) rfl rfl rfl (by decide +kernel) ⟨Nat.le_of_ble_eq_true rfl, Nat.le_of_ble_eq_true rfl⟩) ⟨z_blind _ _ _ _, fun U hU hW => z_pre zLJ hP hD hK hB hS hA wLaw_CJ wLaw_NJ hU hW⟩ rfl rfl hl.1 rfl (lv_room (Nat.le_of_ble_eq_true rfl)) dL_law_1443 ⟨by omega, by omega⟩) hP hD hS hA wLaw_CJ (fun _ => rfl) (fun r u H locs hw hP hD hS => ?_)
  obtain ⟨rfl, rfl⟩ := hw
  have hP : va_P (gD g) zCl (wLaw g ad qd st sv isS hst spare undo seen dbef drec ptx plen ppos pcnt cmds stE stF lch llen zo4.2 jd mm masd msav misS mpst mchg merr mfai mthr minp minM mUp mcar mcam mahd magn mltr mbeg mcmd mcmM mpl msz mwr mlin mliM) H := Eq.mp (congrArg (fun w => va_P (gD g) zCl w H) wLaw_SJ) hP
  have hD : va_D A (wLaw g ad qd st sv isS hst spare undo seen dbef drec ptx plen ppos pcnt cmds stE stF lch llen zo4.2 jd mm masd msav misS mpst mchg merr mfai mthr minp minM mUp mcar mcam mahd magn mltr mbeg mcmd mcmM mpl msz mwr mlin mliM) := Eq.mp (congrArg (fun w => va_D A w) wLaw_SJ) hD
  refine lv_istore (lv' := [(6, .int zo4.1), (5, .int i), (4, .ref (ad 75)), (3, .ref (ad 74)), (2, .ref (qd 0)), (1, .ref (ad 0)), (0, .ref b)]) hx hb dL_law_1446 hl (by decide) rfl (fun ls hl => ?_)
  refine lv_aload_n hx hb dL_law_1448 rfl (lv_at hl 4 rfl) ?_
  refine lv_aload_n hx hb dL_law_1449 rfl (lv_at hl 6 rfl) ?_
  refine lv_iload hx hb dL_law_1450 (lv_at hl 1 rfl) ?_
  refine lv_iconst (v := 1) hx hb dL_law_1452 (by decide) ?_
  refine lv_iadd hx hb dL_law_1453 ?_
  obtain ⟨zg5, hF⟩ := z_grd hF
  refine va_sld hx hb hX hbl hbA hS zg5 dL_law_1454 ?_
  refine lv_aload_n hx hb dL_law_1455 rfl (lv_at hl 6 rfl) ?_
  refine lv_iload hx hb dL_law_1456 (lv_at hl 1 rfl) ?_
  refine lv_iconst (v := 2) hx hb dL_law_1458 (by decide) ?_
  refine lv_iadd hx hb dL_law_1459 ?_
  obtain ⟨zg6, hF⟩ := z_grd hF
  refine va_sld hx hb hX hbl hbA hS zg6 dL_law_1460 ?_
  refine lv_aload_n hx hb dL_law_1461 rfl (lv_at hl 6 rfl) ?_
  refine lv_iload hx hb dL_law_1462 (lv_at hl 1 rfl) ?_
  refine lv_iconst (v := 3) hx hb dL_law_1464 (by decide) ?_
  refine lv_iadd hx hb dL_law_1465 ?_
  obtain ⟨zg7, hF⟩ := z_grd hF
  refine va_sld hx hb hX hbl hbA hS zg7 dL_law_1466 ?_
  obtain ⟨zo8, hzo8, hF⟩ := z_bind hF
  refine z_calli (fun (u : Int32 × (Nat → Int32)) => (wModel g (qd 0) (qd 1) (qd 2) (qd 3) (qd 4) (qd 5) (qd 6) (qd 7) (qd 8) (qd 9) (qd 10) (qd 11) (qd 12) mm masd msav misS mpst mchg merr mfai u.1 minp minM mUp u.2 mcam mahd magn mltr mbeg mcmd mcmM mpl msz mwr mlin mliM)) zLM (va_runV (As := [.int (xs (Int32.toNatClampNeg (i + 1))), .int (xs (Int32.toNatClampNeg (i + 2))), .int (xs (Int32.toNatClampNeg (i + 3)))]) (rest := []) ⟨hx, hb, hml, hown, hts⟩ (c_X11_carries l g (qd 0) (qd 1) (qd 2) (qd 3) (qd 4) (qd 5) (qd 6) (qd 7) (qd 8) (qd 9) (qd 10) (qd 11) (qd 12) mm masd msav misS mpst mchg merr mfai mthr minp minM mUp mcar mcam mahd magn mltr mbeg mcmd mcmM mpl msz mwr mlin mliM _ (xs (Int32.toNatClampNeg (i + 1))) (xs (Int32.toNatClampNeg (i + 2))) (xs (Int32.toNatClampNeg (i + 3))) fu _ hzo8) (cwV 3 hts (gdV mU_1520 mU_1521 mU_1522 mU_75 mU_1523) rfl rfl rfl (by decide +kernel) ⟨Nat.le_of_ble_eq_true rfl, Nat.le_of_ble_eq_true rfl⟩) ⟨z_blind _ _ _ _, va_recv hK hP (ci := 7) (q0 := 76) rfl rfl, fun U hU hW => z_pre zLM hP hD hK hB hS hA wLaw_CM wLaw_NM hU hW⟩ rfl rfl hl.1 rfl (lv_room (Nat.le_of_ble_eq_true rfl)) dL_law_1467 ⟨by omega, by omega⟩) hP hD hS hA wLaw_CM (fun _ => rfl) (fun r u H locs hw hP hD hS => ?_)
  obtain ⟨rfl, rfl⟩ := hw
  have hP : va_P (gD g) zCl (wLaw g ad qd st sv isS hst spare undo seen dbef drec ptx plen ppos pcnt cmds stE stF lch llen zo4.2 jd mm masd msav misS mpst mchg merr mfai zo8.2.1 minp minM mUp zo8.2.2 mcam mahd magn mltr mbeg mcmd mcmM mpl msz mwr mlin mliM) H := Eq.mp (congrArg (fun w => va_P (gD g) zCl w H) wLaw_SM) hP
  have hD : va_D A (wLaw g ad qd st sv isS hst spare undo seen dbef drec ptx plen ppos pcnt cmds stE stF lch llen zo4.2 jd mm masd msav misS mpst mchg merr mfai zo8.2.1 minp minM mUp zo8.2.2 mcam mahd magn mltr mbeg mcmd mcmM mpl msz mwr mlin mliM) := Eq.mp (congrArg (fun w => va_D A w) wLaw_SM) hD
  refine lv_istore (lv' := [(7, .int zo8.1), (6, .int zo4.1), (5, .int i), (4, .ref (ad 75)), (3, .ref (ad 74)), (2, .ref (qd 0)), (1, .ref (ad 0)), (0, .ref b)]) hx hb dL_law_1470 hl (by decide) rfl (fun ls hl => ?_)
  refine lv_aload_n hx hb dL_law_1472 rfl (lv_at hl 5 rfl) ?_
  obtain ⟨zo9, hzo9, hF⟩ := z_bind hF
  refine z_calli (fun (_ : Unit) => (wModel g (qd 0) (qd 1) (qd 2) (qd 3) (qd 4) (qd 5) (qd 6) (qd 7) (qd 8) (qd 9) (qd 10) (qd 11) (qd 12) mm masd msav misS mpst mchg merr mfai zo8.2.1 minp minM mUp zo8.2.2 mcam mahd magn mltr mbeg mcmd mcmM mpl msz mwr mlin mliM)) zLM (va_runV (As := []) (rest := []) ⟨hx, hb, hml, hown, hts⟩ (c_X11_thrown l g (qd 0) (qd 1) (qd 2) (qd 3) (qd 4) (qd 5) (qd 6) (qd 7) (qd 8) (qd 9) (qd 10) (qd 11) (qd 12) mm masd msav misS mpst mchg merr mfai zo8.2.1 minp minM mUp zo8.2.2 mcam mahd magn mltr mbeg mcmd mcmM mpl msz mwr mlin mliM _ _ hzo9) (cwV 0 hts (gdV mU_1321 mU_1322 mU_1323 mU_75 mU_1324) rfl rfl rfl (by decide +kernel) ⟨Nat.le_of_ble_eq_true rfl, Nat.le_of_ble_eq_true rfl⟩) ⟨z_blind _ _ _ _, va_recv hK hP (ci := 7) (q0 := 76) rfl rfl, fun U hU hW => z_pre zLM hP hD hK hB hS hA wLaw_CM wLaw_NM hU hW⟩ rfl rfl hl.1 rfl (lv_room (Nat.le_of_ble_eq_true rfl)) dL_law_1473 ⟨by omega, by omega⟩) hP hD hS hA wLaw_CM (fun _ => rfl) (fun r u H locs hw hP hD hS => ?_)
  subst hw
  have hP : va_P (gD g) zCl (wLaw g ad qd st sv isS hst spare undo seen dbef drec ptx plen ppos pcnt cmds stE stF lch llen zo4.2 jd mm masd msav misS mpst mchg merr mfai zo8.2.1 minp minM mUp zo8.2.2 mcam mahd magn mltr mbeg mcmd mcmM mpl msz mwr mlin mliM) H := Eq.mp (congrArg (fun w => va_P (gD g) zCl w H) wLaw_SM) hP
  have hD : va_D A (wLaw g ad qd st sv isS hst spare undo seen dbef drec ptx plen ppos pcnt cmds stE stF lch llen zo4.2 jd mm masd msav misS mpst mchg merr mfai zo8.2.1 minp minM mUp zo8.2.2 mcam mahd magn mltr mbeg mcmd mcmM mpl msz mwr mlin mliM) := Eq.mp (congrArg (fun w => va_D A w) wLaw_SM) hD
  refine lv_iload hx hb dL_law_1476 (lv_at hl 1 rfl) ?_
  refine lv_icmp_eq (tgt := 1483) hx hb dL_law_1478 (by decide) (fun zc10 => ?_) (fun zc10 => ?_)
  · have hF := z_pos hF zc10
    refine lv_iload hx hb dL_law_1483 (lv_at hl 1 rfl) ?_
    refine lv_if_ne (tgt := 1500) hx hb dL_law_1485 (by decide) (fun zc11 => ?_) (fun zc11 => ?_)
    · have hF := z_neg hF zc11
      refine lv_goto (tgt := 2792) hx hb dL_law_1500 (by decide) ?_
      have ho := (Option.some.inj hF).symm
      subst ho
      refine W.widen (k := cells + 51) (n := slots + 306) (by omega) (by omega) ?_
      exact kj _ _ _ (lv_sub hl [2, 3, 4, 5, 6, 7] rfl) hP hD hS
    · have hF := z_pos hF zc11
      refine lv_aload_n hx hb dL_law_1488 rfl (lv_at hl 4 rfl) ?_
      refine lv_iconst (v := 0) hx hb dL_law_1489 (by decide) ?_
      refine va_lald hx hb hK hP 74 2 rfl rfl (by unfold vp_in; decide) dL_law_1490 ?_
      refine lv_iload hx hb dL_law_1491 (lv_at hl 0 rfl) ?_
      refine lv_i2l (v := (Int32.toInt64 zo8.1)) hx hb dL_law_1493 rfl ?_
      refine z_lcmp_eq (tgt := 1500) hx hb dL_law_1494 dL_law_1495 (by decide) (fun zc12 => ?_) (fun zc12 => ?_)
      · have hF := z_pos hF zc12
        refine lv_goto (tgt := 2792) hx hb dL_law_1500 (by decide) ?_
        have ho := (Option.some.inj hF).symm
        subst ho
        refine W.widen (k := cells + 51) (n := slots + 306) (by omega) (by omega) ?_
        exact kj _ _ _ (lv_sub hl [2, 3, 4, 5, 6, 7] rfl) hP hD hS
      · have hF := z_neg hF zc12
        refine lv_iconst (v := 0) hx hb dL_law_1498 (by decide) ?_
        exact absurd hF (by simp)
  · have hF := z_neg hF zc10
    refine lv_iconst (v := 0) hx hb dL_law_1481 (by decide) ?_
    exact absurd hF (by simp)
set_option maxHeartbeats 4000000 in
set_option maxRecDepth 100000 in
theorem k_law_1503 {p : Program} {e : Env} {s : State} {m : MethodId} {below : List Frame} {meth : Method} {c : Code} (l : Launch) (hl0 : l.stackTraces = false) {b L : Nat} {xs : Nat → Int32} (hx : p.tables.exec = Jvm.exec) (hb : c.code = cL_law) (hml : c.maxLocals = 9) (hown : s.vm.findClass RL = some m.cls) (hts : ∀ w ∈ wU, w.before #[Value.ref b] s = true) (hX : va_X b L xs s s.heap) (hbl : b < s.heap.size) {A : Nat → Prop} (hbA : ¬ A b) (hA : ∀ q, s.heap.size ≤ q → A q) (g : GG) (ad qd : Nat → Nat) (st : SS) (sv : SS) (isS : Int32) (hst : Nat → SS) (spare : Int32) (undo : Int32) (seen : Nat → Int32) (dbef : Int32) (drec : Int32) (ptx : Nat → Int32) (plen : Int32) (ppos : Int32) (pcnt : Int32) (cmds : Nat → CC) (stE : Int32) (stF : Int32) (lch : Nat → Int32) (llen : Int32) (jo : Nat → Int64) (jd : Nat → UInt64) (mm : Nat → Int64) (masd : Nat → Int64) (msav : Nat → Int64) (misS : Int32) (mpst : Nat → Int64) (mchg : Int32) (merr : Int32) (mfai : Int32) (mthr : Int32) (minp : Nat → Int32) (minM : Int32) (mUp : Nat → Int32) (mcar : Nat → Int32) (mcam : Nat → Int32) (mahd : Int32) (magn : Int32) (mltr : Nat → Int32) (mbeg : Nat → Int32) (mcmd : Nat → Int32) (mcmM : Int32) (mpl : Int32) (msz : Int32) (mwr : Int32) (mlin : Nat → Int32) (mliM : Int32) (hK : va_K (gD g) zCl (gT g) s) (hB : KB g A s s.heap) (fu : Nat) (i : Int32) (u : (Nat → Int64) × Int32 × (Nat → Int32)) (hF : G_law_1503 fu st jo mm mthr mcar L xs i = some u) {H : Heap} {locs : List Loc} {ls : Array Slot} {cells slots : Nat} (hc : cells + 51 ≤ 603072) (hsl : slots + 306 ≤ 7170153) (hl : lv_has ls 9 [(5, .int i), (4, .ref (ad 75)), (3, .ref (ad 74)), (2, .ref (qd 0)), (1, .ref (ad 0)), (0, .ref b)]) (hP : va_P (gD g) zCl (wLaw g ad qd st sv isS hst spare undo seen dbef drec ptx plen ppos pcnt cmds stE stF lch llen jo jd mm masd msav misS mpst mchg merr mfai mthr minp minM mUp mcar mcam mahd magn mltr mbeg mcmd mcmM mpl msz mwr mlin mliM) H) (hD : va_D A (wLaw g ad qd st sv isS hst spare undo seen dbef drec ptx plen ppos pcnt cmds stE stF lch llen jo jd mm masd msav misS mpst mchg merr mfai mthr minp minM mUp mcar mcam mahd magn mltr mbeg mcmd mcmM mpl msz mwr mlin mliM)) (hS : va_S A s.heap H locs)
    (kj : ∀ (H : Heap) (locs : List Loc) (ls : Array Slot), lv_has ls 9 [(5, .int i), (4, .ref (ad 75)), (3, .ref (ad 74)), (2, .ref (qd 0)), (1, .ref (ad 0)), (0, .ref b)] → va_P (gD g) zCl (wLaw g ad qd st sv isS hst spare undo seen dbef drec ptx plen ppos pcnt cmds stE stF lch llen u.1 jd mm masd msav misS mpst mchg merr mfai u.2.1 minp minM mUp u.2.2 mcam mahd magn mltr mbeg mcmd mcmM mpl msz mwr mlin mliM) H → va_D A (wLaw g ad qd st sv isS hst spare undo seen dbef drec ptx plen ppos pcnt cmds stE stF lch llen u.1 jd mm masd msav misS mpst mchg merr mfai u.2.1 minp minM mUp u.2.2 mcam mahd magn mltr mbeg mcmd mcmM mpl msz mwr mlin mliM) → va_S A s.heap H locs → W p l e room_1 s m #[Value.ref b] below meth c H locs (cells + 51) (slots + 306) (lw_Z below #[Value.ref b] s) (F0 m 2792 ls [])) : W p l e room_1 s m #[Value.ref b] below meth c H locs cells slots (lw_Z below #[Value.ref b] s) (F0 m 1503 ls []) := by
  have hc : cells + 51 ≤ room_1.cells := hc
  have hsl : slots + 306 ≤ room_1.slots := hsl
  unfold G_law_1503 at hF
  refine lv_aload_n hx hb dL_law_1503 rfl (lv_at hl 4 rfl) ?_
  refine lv_aload_n hx hb dL_law_1504 rfl (lv_at hl 5 rfl) ?_
  refine lv_iload hx hb dL_law_1505 (lv_at hl 0 rfl) ?_
  refine lv_iconst (v := 1) hx hb dL_law_1507 (by decide) ?_
  refine lv_iadd hx hb dL_law_1508 ?_
  obtain ⟨zg1, hF⟩ := z_grd hF
  refine va_sld hx hb hX hbl hbA hS zg1 dL_law_1509 ?_
  refine lv_aload_n hx hb dL_law_1510 rfl (lv_at hl 5 rfl) ?_
  refine lv_iload hx hb dL_law_1511 (lv_at hl 0 rfl) ?_
  refine lv_iconst (v := 2) hx hb dL_law_1513 (by decide) ?_
  refine lv_iadd hx hb dL_law_1514 ?_
  obtain ⟨zg2, hF⟩ := z_grd hF
  refine va_sld hx hb hX hbl hbA hS zg2 dL_law_1515 ?_
  refine lv_aload_n hx hb dL_law_1516 rfl (lv_at hl 5 rfl) ?_
  refine lv_iload hx hb dL_law_1517 (lv_at hl 0 rfl) ?_
  refine lv_iconst (v := 3) hx hb dL_law_1519 (by decide) ?_
  refine lv_iadd hx hb dL_law_1520 ?_
  obtain ⟨zg3, hF⟩ := z_grd hF
  refine va_sld hx hb hX hbl hbA hS zg3 dL_law_1521 ?_
  refine lv_aload_n hx hb dL_law_1522 rfl (lv_at hl 2 rfl) ?_
  obtain ⟨zo4, hzo4, hF⟩ := z_bind hF
  refine z_calli (fun (u : (Nat → Int64)) => (wRootJ g ad st sv isS hst spare undo seen dbef drec ptx plen ppos pcnt cmds stE stF lch llen u)) zLJ (vx_runSW (As := [.ref (ad 0), .int (xs (Int32.toNatClampNeg (i + 1))), .int (xs (Int32.toNatClampNeg (i + 2))), .int (xs (Int32.toNatClampNeg (i + 3))), .ref (ad 74)]) (rest := []) ⟨hx, hb, hml, hown, hts⟩ (c_L_carriesBySums l hl0 g ad st sv isS hst spare undo seen dbef drec ptx plen ppos pcnt cmds stE stF lch llen jo _ (xs (Int32.toNatClampNeg (i + 1))) (xs (Int32.toNatClampNeg (i + 2))) (xs (Int32.toNatClampNeg (i + 3))) fu _ hzo4) (vx_cwSW 5 hts (gdS mU_913 mU_914 mU_65 mU_915) rfl rfl rfl (by decide +kernel) ⟨Nat.le_of_ble_eq_true rfl, Nat.le_of_ble_eq_true rfl⟩) ⟨z_blind _ _ _ _, fun U hU hW => z_pre zLJ hP hD hK hB hS hA wLaw_CJ wLaw_NJ hU hW⟩ rfl rfl hl.1 rfl (lv_room (Nat.le_of_ble_eq_true rfl)) dL_law_1523 ⟨by omega, by omega⟩) hP hD hS hA wLaw_CJ (fun _ => rfl) (fun r u H locs hw hP hD hS => ?_)
  obtain ⟨rfl, rfl⟩ := hw
  have hP : va_P (gD g) zCl (wLaw g ad qd st sv isS hst spare undo seen dbef drec ptx plen ppos pcnt cmds stE stF lch llen zo4.2 jd mm masd msav misS mpst mchg merr mfai mthr minp minM mUp mcar mcam mahd magn mltr mbeg mcmd mcmM mpl msz mwr mlin mliM) H := Eq.mp (congrArg (fun w => va_P (gD g) zCl w H) wLaw_SJ) hP
  have hD : va_D A (wLaw g ad qd st sv isS hst spare undo seen dbef drec ptx plen ppos pcnt cmds stE stF lch llen zo4.2 jd mm masd msav misS mpst mchg merr mfai mthr minp minM mUp mcar mcam mahd magn mltr mbeg mcmd mcmM mpl msz mwr mlin mliM) := Eq.mp (congrArg (fun w => va_D A w) wLaw_SJ) hD
  refine lv_istore (lv' := [(6, .int zo4.1), (5, .int i), (4, .ref (ad 75)), (3, .ref (ad 74)), (2, .ref (qd 0)), (1, .ref (ad 0)), (0, .ref b)]) hx hb dL_law_1526 hl (by decide) rfl (fun ls hl => ?_)
  refine lv_aload_n hx hb dL_law_1528 rfl (lv_at hl 4 rfl) ?_
  refine lv_aload_n hx hb dL_law_1529 rfl (lv_at hl 6 rfl) ?_
  refine lv_iload hx hb dL_law_1530 (lv_at hl 1 rfl) ?_
  refine lv_iconst (v := 1) hx hb dL_law_1532 (by decide) ?_
  refine lv_iadd hx hb dL_law_1533 ?_
  obtain ⟨zg5, hF⟩ := z_grd hF
  refine va_sld hx hb hX hbl hbA hS zg5 dL_law_1534 ?_
  refine lv_aload_n hx hb dL_law_1535 rfl (lv_at hl 6 rfl) ?_
  refine lv_iload hx hb dL_law_1536 (lv_at hl 1 rfl) ?_
  refine lv_iconst (v := 2) hx hb dL_law_1538 (by decide) ?_
  refine lv_iadd hx hb dL_law_1539 ?_
  obtain ⟨zg6, hF⟩ := z_grd hF
  refine va_sld hx hb hX hbl hbA hS zg6 dL_law_1540 ?_
  refine lv_aload_n hx hb dL_law_1541 rfl (lv_at hl 6 rfl) ?_
  refine lv_iload hx hb dL_law_1542 (lv_at hl 1 rfl) ?_
  refine lv_iconst (v := 3) hx hb dL_law_1544 (by decide) ?_
  refine lv_iadd hx hb dL_law_1545 ?_
  obtain ⟨zg7, hF⟩ := z_grd hF
  refine va_sld hx hb hX hbl hbA hS zg7 dL_law_1546 ?_
  obtain ⟨zo8, hzo8, hF⟩ := z_bind hF
  refine z_calli (fun (u : Int32 × (Nat → Int32)) => (wModel g (qd 0) (qd 1) (qd 2) (qd 3) (qd 4) (qd 5) (qd 6) (qd 7) (qd 8) (qd 9) (qd 10) (qd 11) (qd 12) mm masd msav misS mpst mchg merr mfai u.1 minp minM mUp u.2 mcam mahd magn mltr mbeg mcmd mcmM mpl msz mwr mlin mliM)) zLM (va_runV (As := [.int (xs (Int32.toNatClampNeg (i + 1))), .int (xs (Int32.toNatClampNeg (i + 2))), .int (xs (Int32.toNatClampNeg (i + 3)))]) (rest := []) ⟨hx, hb, hml, hown, hts⟩ (c_X11_carriesBySums l g (qd 0) (qd 1) (qd 2) (qd 3) (qd 4) (qd 5) (qd 6) (qd 7) (qd 8) (qd 9) (qd 10) (qd 11) (qd 12) mm masd msav misS mpst mchg merr mfai mthr minp minM mUp mcar mcam mahd magn mltr mbeg mcmd mcmM mpl msz mwr mlin mliM _ (xs (Int32.toNatClampNeg (i + 1))) (xs (Int32.toNatClampNeg (i + 2))) (xs (Int32.toNatClampNeg (i + 3))) fu _ hzo8) (cwV 3 hts (gdV mU_1528 mU_1529 mU_1530 mU_75 mU_1531) rfl rfl rfl (by decide +kernel) ⟨Nat.le_of_ble_eq_true rfl, Nat.le_of_ble_eq_true rfl⟩) ⟨z_blind _ _ _ _, va_recv hK hP (ci := 7) (q0 := 76) rfl rfl, fun U hU hW => z_pre zLM hP hD hK hB hS hA wLaw_CM wLaw_NM hU hW⟩ rfl rfl hl.1 rfl (lv_room (Nat.le_of_ble_eq_true rfl)) dL_law_1547 ⟨by omega, by omega⟩) hP hD hS hA wLaw_CM (fun _ => rfl) (fun r u H locs hw hP hD hS => ?_)
  obtain ⟨rfl, rfl⟩ := hw
  have hP : va_P (gD g) zCl (wLaw g ad qd st sv isS hst spare undo seen dbef drec ptx plen ppos pcnt cmds stE stF lch llen zo4.2 jd mm masd msav misS mpst mchg merr mfai zo8.2.1 minp minM mUp zo8.2.2 mcam mahd magn mltr mbeg mcmd mcmM mpl msz mwr mlin mliM) H := Eq.mp (congrArg (fun w => va_P (gD g) zCl w H) wLaw_SM) hP
  have hD : va_D A (wLaw g ad qd st sv isS hst spare undo seen dbef drec ptx plen ppos pcnt cmds stE stF lch llen zo4.2 jd mm masd msav misS mpst mchg merr mfai zo8.2.1 minp minM mUp zo8.2.2 mcam mahd magn mltr mbeg mcmd mcmM mpl msz mwr mlin mliM) := Eq.mp (congrArg (fun w => va_D A w) wLaw_SM) hD
  refine lv_istore (lv' := [(7, .int zo8.1), (6, .int zo4.1), (5, .int i), (4, .ref (ad 75)), (3, .ref (ad 74)), (2, .ref (qd 0)), (1, .ref (ad 0)), (0, .ref b)]) hx hb dL_law_1550 hl (by decide) rfl (fun ls hl => ?_)
  refine lv_aload_n hx hb dL_law_1552 rfl (lv_at hl 5 rfl) ?_
  obtain ⟨zo9, hzo9, hF⟩ := z_bind hF
  refine z_calli (fun (_ : Unit) => (wModel g (qd 0) (qd 1) (qd 2) (qd 3) (qd 4) (qd 5) (qd 6) (qd 7) (qd 8) (qd 9) (qd 10) (qd 11) (qd 12) mm masd msav misS mpst mchg merr mfai zo8.2.1 minp minM mUp zo8.2.2 mcam mahd magn mltr mbeg mcmd mcmM mpl msz mwr mlin mliM)) zLM (va_runV (As := []) (rest := []) ⟨hx, hb, hml, hown, hts⟩ (c_X11_thrown l g (qd 0) (qd 1) (qd 2) (qd 3) (qd 4) (qd 5) (qd 6) (qd 7) (qd 8) (qd 9) (qd 10) (qd 11) (qd 12) mm masd msav misS mpst mchg merr mfai zo8.2.1 minp minM mUp zo8.2.2 mcam mahd magn mltr mbeg mcmd mcmM mpl msz mwr mlin mliM _ _ hzo9) (cwV 0 hts (gdV mU_1321 mU_1322 mU_1323 mU_75 mU_1324) rfl rfl rfl (by decide +kernel) ⟨Nat.le_of_ble_eq_true rfl, Nat.le_of_ble_eq_true rfl⟩) ⟨z_blind _ _ _ _, va_recv hK hP (ci := 7) (q0 := 76) rfl rfl, fun U hU hW => z_pre zLM hP hD hK hB hS hA wLaw_CM wLaw_NM hU hW⟩ rfl rfl hl.1 rfl (lv_room (Nat.le_of_ble_eq_true rfl)) dL_law_1553 ⟨by omega, by omega⟩) hP hD hS hA wLaw_CM (fun _ => rfl) (fun r u H locs hw hP hD hS => ?_)
  subst hw
  have hP : va_P (gD g) zCl (wLaw g ad qd st sv isS hst spare undo seen dbef drec ptx plen ppos pcnt cmds stE stF lch llen zo4.2 jd mm masd msav misS mpst mchg merr mfai zo8.2.1 minp minM mUp zo8.2.2 mcam mahd magn mltr mbeg mcmd mcmM mpl msz mwr mlin mliM) H := Eq.mp (congrArg (fun w => va_P (gD g) zCl w H) wLaw_SM) hP
  have hD : va_D A (wLaw g ad qd st sv isS hst spare undo seen dbef drec ptx plen ppos pcnt cmds stE stF lch llen zo4.2 jd mm masd msav misS mpst mchg merr mfai zo8.2.1 minp minM mUp zo8.2.2 mcam mahd magn mltr mbeg mcmd mcmM mpl msz mwr mlin mliM) := Eq.mp (congrArg (fun w => va_D A w) wLaw_SM) hD
  refine lv_iload hx hb dL_law_1556 (lv_at hl 1 rfl) ?_
  refine lv_icmp_eq (tgt := 1563) hx hb dL_law_1558 (by decide) (fun zc10 => ?_) (fun zc10 => ?_)
  · have hF := z_pos hF zc10
    refine lv_iload hx hb dL_law_1563 (lv_at hl 1 rfl) ?_
    refine lv_if_ne (tgt := 1580) hx hb dL_law_1565 (by decide) (fun zc11 => ?_) (fun zc11 => ?_)
    · have hF := z_neg hF zc11
      refine lv_goto (tgt := 2792) hx hb dL_law_1580 (by decide) ?_
      have ho := (Option.some.inj hF).symm
      subst ho
      refine W.widen (k := cells + 51) (n := slots + 306) (by omega) (by omega) ?_
      exact kj _ _ _ (lv_sub hl [2, 3, 4, 5, 6, 7] rfl) hP hD hS
    · have hF := z_pos hF zc11
      refine lv_aload_n hx hb dL_law_1568 rfl (lv_at hl 4 rfl) ?_
      refine lv_iconst (v := 0) hx hb dL_law_1569 (by decide) ?_
      refine va_lald hx hb hK hP 74 2 rfl rfl (by unfold vp_in; decide) dL_law_1570 ?_
      refine lv_iload hx hb dL_law_1571 (lv_at hl 0 rfl) ?_
      refine lv_i2l (v := (Int32.toInt64 zo8.1)) hx hb dL_law_1573 rfl ?_
      refine z_lcmp_eq (tgt := 1580) hx hb dL_law_1574 dL_law_1575 (by decide) (fun zc12 => ?_) (fun zc12 => ?_)
      · have hF := z_pos hF zc12
        refine lv_goto (tgt := 2792) hx hb dL_law_1580 (by decide) ?_
        have ho := (Option.some.inj hF).symm
        subst ho
        refine W.widen (k := cells + 51) (n := slots + 306) (by omega) (by omega) ?_
        exact kj _ _ _ (lv_sub hl [2, 3, 4, 5, 6, 7] rfl) hP hD hS
      · have hF := z_neg hF zc12
        refine lv_iconst (v := 0) hx hb dL_law_1578 (by decide) ?_
        exact absurd hF (by simp)
  · have hF := z_neg hF zc10
    refine lv_iconst (v := 0) hx hb dL_law_1561 (by decide) ?_
    exact absurd hF (by simp)
set_option maxHeartbeats 4000000 in
set_option maxRecDepth 100000 in
theorem k_law_1583 {p : Program} {e : Env} {s : State} {m : MethodId} {below : List Frame} {meth : Method} {c : Code} (l : Launch) (hl0 : l.stackTraces = false) {b L : Nat} {xs : Nat → Int32} (hx : p.tables.exec = Jvm.exec) (hb : c.code = cL_law) (hml : c.maxLocals = 9) (hown : s.vm.findClass RL = some m.cls) (hts : ∀ w ∈ wU, w.before #[Value.ref b] s = true) (hX : va_X b L xs s s.heap) (hbl : b < s.heap.size) {A : Nat → Prop} (hbA : ¬ A b) (hA : ∀ q, s.heap.size ≤ q → A q) (g : GG) (ad qd : Nat → Nat) (st : SS) (sv : SS) (isS : Int32) (hst : Nat → SS) (spare : Int32) (undo : Int32) (seen : Nat → Int32) (dbef : Int32) (drec : Int32) (ptx : Nat → Int32) (plen : Int32) (ppos : Int32) (pcnt : Int32) (cmds : Nat → CC) (stE : Int32) (stF : Int32) (lch : Nat → Int32) (llen : Int32) (jo : Nat → Int64) (jd : Nat → UInt64) (mm : Nat → Int64) (masd : Nat → Int64) (msav : Nat → Int64) (misS : Int32) (mpst : Nat → Int64) (mchg : Int32) (merr : Int32) (mfai : Int32) (mthr : Int32) (minp : Nat → Int32) (minM : Int32) (mUp : Nat → Int32) (mcar : Nat → Int32) (mcam : Nat → Int32) (mahd : Int32) (magn : Int32) (mltr : Nat → Int32) (mbeg : Nat → Int32) (mcmd : Nat → Int32) (mcmM : Int32) (mpl : Int32) (msz : Int32) (mwr : Int32) (mlin : Nat → Int32) (mliM : Int32) (hK : va_K (gD g) zCl (gT g) s) (hB : KB g A s s.heap) (fu : Nat) (i : Int32) (u : (Nat → Int64) × Int32 × (Nat → Int32)) (hF : G_law_1583 fu st jo mm mthr mcar L xs i = some u) {H : Heap} {locs : List Loc} {ls : Array Slot} {cells slots : Nat} (hc : cells + 51 ≤ 603072) (hsl : slots + 306 ≤ 7170153) (hl : lv_has ls 9 [(5, .int i), (4, .ref (ad 75)), (3, .ref (ad 74)), (2, .ref (qd 0)), (1, .ref (ad 0)), (0, .ref b)]) (hP : va_P (gD g) zCl (wLaw g ad qd st sv isS hst spare undo seen dbef drec ptx plen ppos pcnt cmds stE stF lch llen jo jd mm masd msav misS mpst mchg merr mfai mthr minp minM mUp mcar mcam mahd magn mltr mbeg mcmd mcmM mpl msz mwr mlin mliM) H) (hD : va_D A (wLaw g ad qd st sv isS hst spare undo seen dbef drec ptx plen ppos pcnt cmds stE stF lch llen jo jd mm masd msav misS mpst mchg merr mfai mthr minp minM mUp mcar mcam mahd magn mltr mbeg mcmd mcmM mpl msz mwr mlin mliM)) (hS : va_S A s.heap H locs)
    (kj : ∀ (H : Heap) (locs : List Loc) (ls : Array Slot), lv_has ls 9 [(5, .int i), (4, .ref (ad 75)), (3, .ref (ad 74)), (2, .ref (qd 0)), (1, .ref (ad 0)), (0, .ref b)] → va_P (gD g) zCl (wLaw g ad qd st sv isS hst spare undo seen dbef drec ptx plen ppos pcnt cmds stE stF lch llen u.1 jd mm masd msav misS mpst mchg merr mfai u.2.1 minp minM mUp u.2.2 mcam mahd magn mltr mbeg mcmd mcmM mpl msz mwr mlin mliM) H → va_D A (wLaw g ad qd st sv isS hst spare undo seen dbef drec ptx plen ppos pcnt cmds stE stF lch llen u.1 jd mm masd msav misS mpst mchg merr mfai u.2.1 minp minM mUp u.2.2 mcam mahd magn mltr mbeg mcmd mcmM mpl msz mwr mlin mliM) → va_S A s.heap H locs → W p l e room_1 s m #[Value.ref b] below meth c H locs (cells + 51) (slots + 306) (lw_Z below #[Value.ref b] s) (F0 m 2792 ls [])) : W p l e room_1 s m #[Value.ref b] below meth c H locs cells slots (lw_Z below #[Value.ref b] s) (F0 m 1583 ls []) := by
  have hc : cells + 51 ≤ room_1.cells := hc
  have hsl : slots + 306 ≤ room_1.slots := hsl
  unfold G_law_1583 at hF
  refine lv_aload_n hx hb dL_law_1583 rfl (lv_at hl 4 rfl) ?_
  refine lv_aload_n hx hb dL_law_1584 rfl (lv_at hl 5 rfl) ?_
  refine lv_iload hx hb dL_law_1585 (lv_at hl 0 rfl) ?_
  refine lv_iconst (v := 1) hx hb dL_law_1587 (by decide) ?_
  refine lv_iadd hx hb dL_law_1588 ?_
  obtain ⟨zg1, hF⟩ := z_grd hF
  refine va_sld hx hb hX hbl hbA hS zg1 dL_law_1589 ?_
  refine lv_aload_n hx hb dL_law_1590 rfl (lv_at hl 5 rfl) ?_
  refine lv_iload hx hb dL_law_1591 (lv_at hl 0 rfl) ?_
  refine lv_iconst (v := 2) hx hb dL_law_1593 (by decide) ?_
  refine lv_iadd hx hb dL_law_1594 ?_
  obtain ⟨zg2, hF⟩ := z_grd hF
  refine va_sld hx hb hX hbl hbA hS zg2 dL_law_1595 ?_
  refine lv_aload_n hx hb dL_law_1596 rfl (lv_at hl 5 rfl) ?_
  refine lv_iload hx hb dL_law_1597 (lv_at hl 0 rfl) ?_
  refine lv_iconst (v := 3) hx hb dL_law_1599 (by decide) ?_
  refine lv_iadd hx hb dL_law_1600 ?_
  obtain ⟨zg3, hF⟩ := z_grd hF
  refine va_sld hx hb hX hbl hbA hS zg3 dL_law_1601 ?_
  refine lv_aload_n hx hb dL_law_1602 rfl (lv_at hl 2 rfl) ?_
  obtain ⟨zo4, hzo4, hF⟩ := z_bind hF
  refine z_calli (fun (u : (Nat → Int64)) => (wRootJ g ad st sv isS hst spare undo seen dbef drec ptx plen ppos pcnt cmds stE stF lch llen u)) zLJ (vx_runSW (As := [.ref (ad 0), .int (xs (Int32.toNatClampNeg (i + 1))), .int (xs (Int32.toNatClampNeg (i + 2))), .int (xs (Int32.toNatClampNeg (i + 3))), .ref (ad 74)]) (rest := []) ⟨hx, hb, hml, hown, hts⟩ (c_L_longestCarry l hl0 g ad st sv isS hst spare undo seen dbef drec ptx plen ppos pcnt cmds stE stF lch llen jo _ (xs (Int32.toNatClampNeg (i + 1))) (xs (Int32.toNatClampNeg (i + 2))) (xs (Int32.toNatClampNeg (i + 3))) fu _ hzo4) (vx_cwSW 5 hts (gdS mU_920 mU_921 mU_65 mU_922) rfl rfl rfl (by decide +kernel) ⟨Nat.le_of_ble_eq_true rfl, Nat.le_of_ble_eq_true rfl⟩) ⟨z_blind _ _ _ _, fun U hU hW => z_pre zLJ hP hD hK hB hS hA wLaw_CJ wLaw_NJ hU hW⟩ rfl rfl hl.1 rfl (lv_room (Nat.le_of_ble_eq_true rfl)) dL_law_1603 ⟨by omega, by omega⟩) hP hD hS hA wLaw_CJ (fun _ => rfl) (fun r u H locs hw hP hD hS => ?_)
  obtain ⟨rfl, rfl⟩ := hw
  have hP : va_P (gD g) zCl (wLaw g ad qd st sv isS hst spare undo seen dbef drec ptx plen ppos pcnt cmds stE stF lch llen zo4.2 jd mm masd msav misS mpst mchg merr mfai mthr minp minM mUp mcar mcam mahd magn mltr mbeg mcmd mcmM mpl msz mwr mlin mliM) H := Eq.mp (congrArg (fun w => va_P (gD g) zCl w H) wLaw_SJ) hP
  have hD : va_D A (wLaw g ad qd st sv isS hst spare undo seen dbef drec ptx plen ppos pcnt cmds stE stF lch llen zo4.2 jd mm masd msav misS mpst mchg merr mfai mthr minp minM mUp mcar mcam mahd magn mltr mbeg mcmd mcmM mpl msz mwr mlin mliM) := Eq.mp (congrArg (fun w => va_D A w) wLaw_SJ) hD
  refine lv_istore (lv' := [(6, .int zo4.1), (5, .int i), (4, .ref (ad 75)), (3, .ref (ad 74)), (2, .ref (qd 0)), (1, .ref (ad 0)), (0, .ref b)]) hx hb dL_law_1606 hl (by decide) rfl (fun ls hl => ?_)
  refine lv_aload_n hx hb dL_law_1608 rfl (lv_at hl 4 rfl) ?_
  refine lv_aload_n hx hb dL_law_1609 rfl (lv_at hl 6 rfl) ?_
  refine lv_iload hx hb dL_law_1610 (lv_at hl 1 rfl) ?_
  refine lv_iconst (v := 1) hx hb dL_law_1612 (by decide) ?_
  refine lv_iadd hx hb dL_law_1613 ?_
  obtain ⟨zg5, hF⟩ := z_grd hF
  refine va_sld hx hb hX hbl hbA hS zg5 dL_law_1614 ?_
  refine lv_aload_n hx hb dL_law_1615 rfl (lv_at hl 6 rfl) ?_
  refine lv_iload hx hb dL_law_1616 (lv_at hl 1 rfl) ?_
  refine lv_iconst (v := 2) hx hb dL_law_1618 (by decide) ?_
  refine lv_iadd hx hb dL_law_1619 ?_
  obtain ⟨zg6, hF⟩ := z_grd hF
  refine va_sld hx hb hX hbl hbA hS zg6 dL_law_1620 ?_
  refine lv_aload_n hx hb dL_law_1621 rfl (lv_at hl 6 rfl) ?_
  refine lv_iload hx hb dL_law_1622 (lv_at hl 1 rfl) ?_
  refine lv_iconst (v := 3) hx hb dL_law_1624 (by decide) ?_
  refine lv_iadd hx hb dL_law_1625 ?_
  obtain ⟨zg7, hF⟩ := z_grd hF
  refine va_sld hx hb hX hbl hbA hS zg7 dL_law_1626 ?_
  obtain ⟨zo8, hzo8, hF⟩ := z_bind hF
  refine z_calli (fun (u : Int32 × (Nat → Int32)) => (wModel g (qd 0) (qd 1) (qd 2) (qd 3) (qd 4) (qd 5) (qd 6) (qd 7) (qd 8) (qd 9) (qd 10) (qd 11) (qd 12) mm masd msav misS mpst mchg merr mfai u.1 minp minM mUp u.2 mcam mahd magn mltr mbeg mcmd mcmM mpl msz mwr mlin mliM)) zLM (va_runV (As := [.int (xs (Int32.toNatClampNeg (i + 1))), .int (xs (Int32.toNatClampNeg (i + 2))), .int (xs (Int32.toNatClampNeg (i + 3)))]) (rest := []) ⟨hx, hb, hml, hown, hts⟩ (c_X11_longestCarry l g (qd 0) (qd 1) (qd 2) (qd 3) (qd 4) (qd 5) (qd 6) (qd 7) (qd 8) (qd 9) (qd 10) (qd 11) (qd 12) mm masd msav misS mpst mchg merr mfai mthr minp minM mUp mcar mcam mahd magn mltr mbeg mcmd mcmM mpl msz mwr mlin mliM _ (xs (Int32.toNatClampNeg (i + 1))) (xs (Int32.toNatClampNeg (i + 2))) (xs (Int32.toNatClampNeg (i + 3))) fu _ hzo8) (cwV 3 hts (gdV mU_1533 mU_1534 mU_1535 mU_75 mU_1536) rfl rfl rfl (by decide +kernel) ⟨Nat.le_of_ble_eq_true rfl, Nat.le_of_ble_eq_true rfl⟩) ⟨z_blind _ _ _ _, va_recv hK hP (ci := 7) (q0 := 76) rfl rfl, fun U hU hW => z_pre zLM hP hD hK hB hS hA wLaw_CM wLaw_NM hU hW⟩ rfl rfl hl.1 rfl (lv_room (Nat.le_of_ble_eq_true rfl)) dL_law_1627 ⟨by omega, by omega⟩) hP hD hS hA wLaw_CM (fun _ => rfl) (fun r u H locs hw hP hD hS => ?_)
  obtain ⟨rfl, rfl⟩ := hw
  have hP : va_P (gD g) zCl (wLaw g ad qd st sv isS hst spare undo seen dbef drec ptx plen ppos pcnt cmds stE stF lch llen zo4.2 jd mm masd msav misS mpst mchg merr mfai zo8.2.1 minp minM mUp zo8.2.2 mcam mahd magn mltr mbeg mcmd mcmM mpl msz mwr mlin mliM) H := Eq.mp (congrArg (fun w => va_P (gD g) zCl w H) wLaw_SM) hP
  have hD : va_D A (wLaw g ad qd st sv isS hst spare undo seen dbef drec ptx plen ppos pcnt cmds stE stF lch llen zo4.2 jd mm masd msav misS mpst mchg merr mfai zo8.2.1 minp minM mUp zo8.2.2 mcam mahd magn mltr mbeg mcmd mcmM mpl msz mwr mlin mliM) := Eq.mp (congrArg (fun w => va_D A w) wLaw_SM) hD
  refine lv_istore (lv' := [(7, .int zo8.1), (6, .int zo4.1), (5, .int i), (4, .ref (ad 75)), (3, .ref (ad 74)), (2, .ref (qd 0)), (1, .ref (ad 0)), (0, .ref b)]) hx hb dL_law_1630 hl (by decide) rfl (fun ls hl => ?_)
  refine lv_aload_n hx hb dL_law_1632 rfl (lv_at hl 5 rfl) ?_
  obtain ⟨zo9, hzo9, hF⟩ := z_bind hF
  refine z_calli (fun (_ : Unit) => (wModel g (qd 0) (qd 1) (qd 2) (qd 3) (qd 4) (qd 5) (qd 6) (qd 7) (qd 8) (qd 9) (qd 10) (qd 11) (qd 12) mm masd msav misS mpst mchg merr mfai zo8.2.1 minp minM mUp zo8.2.2 mcam mahd magn mltr mbeg mcmd mcmM mpl msz mwr mlin mliM)) zLM (va_runV (As := []) (rest := []) ⟨hx, hb, hml, hown, hts⟩ (c_X11_thrown l g (qd 0) (qd 1) (qd 2) (qd 3) (qd 4) (qd 5) (qd 6) (qd 7) (qd 8) (qd 9) (qd 10) (qd 11) (qd 12) mm masd msav misS mpst mchg merr mfai zo8.2.1 minp minM mUp zo8.2.2 mcam mahd magn mltr mbeg mcmd mcmM mpl msz mwr mlin mliM _ _ hzo9) (cwV 0 hts (gdV mU_1321 mU_1322 mU_1323 mU_75 mU_1324) rfl rfl rfl (by decide +kernel) ⟨Nat.le_of_ble_eq_true rfl, Nat.le_of_ble_eq_true rfl⟩) ⟨z_blind _ _ _ _, va_recv hK hP (ci := 7) (q0 := 76) rfl rfl, fun U hU hW => z_pre zLM hP hD hK hB hS hA wLaw_CM wLaw_NM hU hW⟩ rfl rfl hl.1 rfl (lv_room (Nat.le_of_ble_eq_true rfl)) dL_law_1633 ⟨by omega, by omega⟩) hP hD hS hA wLaw_CM (fun _ => rfl) (fun r u H locs hw hP hD hS => ?_)
  subst hw
  have hP : va_P (gD g) zCl (wLaw g ad qd st sv isS hst spare undo seen dbef drec ptx plen ppos pcnt cmds stE stF lch llen zo4.2 jd mm masd msav misS mpst mchg merr mfai zo8.2.1 minp minM mUp zo8.2.2 mcam mahd magn mltr mbeg mcmd mcmM mpl msz mwr mlin mliM) H := Eq.mp (congrArg (fun w => va_P (gD g) zCl w H) wLaw_SM) hP
  have hD : va_D A (wLaw g ad qd st sv isS hst spare undo seen dbef drec ptx plen ppos pcnt cmds stE stF lch llen zo4.2 jd mm masd msav misS mpst mchg merr mfai zo8.2.1 minp minM mUp zo8.2.2 mcam mahd magn mltr mbeg mcmd mcmM mpl msz mwr mlin mliM) := Eq.mp (congrArg (fun w => va_D A w) wLaw_SM) hD
  refine lv_iload hx hb dL_law_1636 (lv_at hl 1 rfl) ?_
  refine lv_icmp_eq (tgt := 1643) hx hb dL_law_1638 (by decide) (fun zc10 => ?_) (fun zc10 => ?_)
  · have hF := z_pos hF zc10
    refine lv_iload hx hb dL_law_1643 (lv_at hl 1 rfl) ?_
    refine lv_if_ne (tgt := 1660) hx hb dL_law_1645 (by decide) (fun zc11 => ?_) (fun zc11 => ?_)
    · have hF := z_neg hF zc11
      refine lv_goto (tgt := 2792) hx hb dL_law_1660 (by decide) ?_
      have ho := (Option.some.inj hF).symm
      subst ho
      refine W.widen (k := cells + 51) (n := slots + 306) (by omega) (by omega) ?_
      exact kj _ _ _ (lv_sub hl [2, 3, 4, 5, 6, 7] rfl) hP hD hS
    · have hF := z_pos hF zc11
      refine lv_aload_n hx hb dL_law_1648 rfl (lv_at hl 4 rfl) ?_
      refine lv_iconst (v := 0) hx hb dL_law_1649 (by decide) ?_
      refine va_lald hx hb hK hP 74 2 rfl rfl (by unfold vp_in; decide) dL_law_1650 ?_
      refine lv_iload hx hb dL_law_1651 (lv_at hl 0 rfl) ?_
      refine lv_i2l (v := (Int32.toInt64 zo8.1)) hx hb dL_law_1653 rfl ?_
      refine z_lcmp_eq (tgt := 1660) hx hb dL_law_1654 dL_law_1655 (by decide) (fun zc12 => ?_) (fun zc12 => ?_)
      · have hF := z_pos hF zc12
        refine lv_goto (tgt := 2792) hx hb dL_law_1660 (by decide) ?_
        have ho := (Option.some.inj hF).symm
        subst ho
        refine W.widen (k := cells + 51) (n := slots + 306) (by omega) (by omega) ?_
        exact kj _ _ _ (lv_sub hl [2, 3, 4, 5, 6, 7] rfl) hP hD hS
      · have hF := z_neg hF zc12
        refine lv_iconst (v := 0) hx hb dL_law_1658 (by decide) ?_
        exact absurd hF (by simp)
  · have hF := z_neg hF zc10
    refine lv_iconst (v := 0) hx hb dL_law_1641 (by decide) ?_
    exact absurd hF (by simp)
set_option maxHeartbeats 4000000 in
set_option maxRecDepth 100000 in
theorem k_law_1663 {p : Program} {e : Env} {s : State} {m : MethodId} {below : List Frame} {meth : Method} {c : Code} (l : Launch) (hl0 : l.stackTraces = false) {b L : Nat} {xs : Nat → Int32} (hx : p.tables.exec = Jvm.exec) (hb : c.code = cL_law) (hml : c.maxLocals = 9) (hown : s.vm.findClass RL = some m.cls) (hts : ∀ w ∈ wU, w.before #[Value.ref b] s = true) (hX : va_X b L xs s s.heap) (hbl : b < s.heap.size) {A : Nat → Prop} (hbA : ¬ A b) (hA : ∀ q, s.heap.size ≤ q → A q) (g : GG) (ad qd : Nat → Nat) (st : SS) (sv : SS) (isS : Int32) (hst : Nat → SS) (spare : Int32) (undo : Int32) (seen : Nat → Int32) (dbef : Int32) (drec : Int32) (ptx : Nat → Int32) (plen : Int32) (ppos : Int32) (pcnt : Int32) (cmds : Nat → CC) (stE : Int32) (stF : Int32) (lch : Nat → Int32) (llen : Int32) (jo : Nat → Int64) (jd : Nat → UInt64) (mm : Nat → Int64) (masd : Nat → Int64) (msav : Nat → Int64) (misS : Int32) (mpst : Nat → Int64) (mchg : Int32) (merr : Int32) (mfai : Int32) (mthr : Int32) (minp : Nat → Int32) (minM : Int32) (mUp : Nat → Int32) (mcar : Nat → Int32) (mcam : Nat → Int32) (mahd : Int32) (magn : Int32) (mltr : Nat → Int32) (mbeg : Nat → Int32) (mcmd : Nat → Int32) (mcmM : Int32) (mpl : Int32) (msz : Int32) (mwr : Int32) (mlin : Nat → Int32) (mliM : Int32) (hK : va_K (gD g) zCl (gT g) s) (hB : KB g A s s.heap) (fu : Nat) (i : Int32) (u : (Nat → Int64) × Int32 × (Nat → Int32)) (hF : G_law_1663 fu st jo mm mthr mUp L xs i = some u) {H : Heap} {locs : List Loc} {ls : Array Slot} {cells slots : Nat} (hc : cells + 51 ≤ 603072) (hsl : slots + 306 ≤ 7170153) (hl : lv_has ls 9 [(5, .int i), (4, .ref (ad 75)), (3, .ref (ad 74)), (2, .ref (qd 0)), (1, .ref (ad 0)), (0, .ref b)]) (hP : va_P (gD g) zCl (wLaw g ad qd st sv isS hst spare undo seen dbef drec ptx plen ppos pcnt cmds stE stF lch llen jo jd mm masd msav misS mpst mchg merr mfai mthr minp minM mUp mcar mcam mahd magn mltr mbeg mcmd mcmM mpl msz mwr mlin mliM) H) (hD : va_D A (wLaw g ad qd st sv isS hst spare undo seen dbef drec ptx plen ppos pcnt cmds stE stF lch llen jo jd mm masd msav misS mpst mchg merr mfai mthr minp minM mUp mcar mcam mahd magn mltr mbeg mcmd mcmM mpl msz mwr mlin mliM)) (hS : va_S A s.heap H locs)
    (kj : ∀ (H : Heap) (locs : List Loc) (ls : Array Slot), lv_has ls 9 [(5, .int i), (4, .ref (ad 75)), (3, .ref (ad 74)), (2, .ref (qd 0)), (1, .ref (ad 0)), (0, .ref b)] → va_P (gD g) zCl (wLaw g ad qd st sv isS hst spare undo seen dbef drec ptx plen ppos pcnt cmds stE stF lch llen u.1 jd mm masd msav misS mpst mchg merr mfai u.2.1 minp minM u.2.2 mcar mcam mahd magn mltr mbeg mcmd mcmM mpl msz mwr mlin mliM) H → va_D A (wLaw g ad qd st sv isS hst spare undo seen dbef drec ptx plen ppos pcnt cmds stE stF lch llen u.1 jd mm masd msav misS mpst mchg merr mfai u.2.1 minp minM u.2.2 mcar mcam mahd magn mltr mbeg mcmd mcmM mpl msz mwr mlin mliM) → va_S A s.heap H locs → W p l e room_1 s m #[Value.ref b] below meth c H locs (cells + 51) (slots + 306) (lw_Z below #[Value.ref b] s) (F0 m 2792 ls [])) : W p l e room_1 s m #[Value.ref b] below meth c H locs cells slots (lw_Z below #[Value.ref b] s) (F0 m 1663 ls []) := by
  have hc : cells + 51 ≤ room_1.cells := hc
  have hsl : slots + 306 ≤ room_1.slots := hsl
  unfold G_law_1663 at hF
  refine lv_aload_n hx hb dL_law_1663 rfl (lv_at hl 4 rfl) ?_
  refine lv_aload_n hx hb dL_law_1664 rfl (lv_at hl 5 rfl) ?_
  refine lv_iload hx hb dL_law_1665 (lv_at hl 0 rfl) ?_
  refine lv_iconst (v := 1) hx hb dL_law_1667 (by decide) ?_
  refine lv_iadd hx hb dL_law_1668 ?_
  obtain ⟨zg1, hF⟩ := z_grd hF
  refine va_sld hx hb hX hbl hbA hS zg1 dL_law_1669 ?_
  refine lv_aload_n hx hb dL_law_1670 rfl (lv_at hl 2 rfl) ?_
  obtain ⟨zo2, hzo2, hF⟩ := z_bind hF
  refine z_calli (fun (u : (Nat → Int64)) => (wRootJ g ad st sv isS hst spare undo seen dbef drec ptx plen ppos pcnt cmds stE stF lch llen u)) zLJ (vx_runSW (As := [.ref (ad 0), .int (xs (Int32.toNatClampNeg (i + 1))), .ref (ad 74)]) (rest := []) ⟨hx, hb, hml, hown, hts⟩ (c_L_togetherError l hl0 g ad st sv isS hst spare undo seen dbef drec ptx plen ppos pcnt cmds stE stF lch llen jo _ (xs (Int32.toNatClampNeg (i + 1))) fu _ hzo2) (vx_cwSW 3 hts (gdS mU_928 mU_929 mU_65 mU_930) rfl rfl rfl (by decide +kernel) ⟨Nat.le_of_ble_eq_true rfl, Nat.le_of_ble_eq_true rfl⟩) ⟨z_blind _ _ _ _, fun U hU hW => z_pre zLJ hP hD hK hB hS hA wLaw_CJ wLaw_NJ hU hW⟩ rfl rfl hl.1 rfl (lv_room (Nat.le_of_ble_eq_true rfl)) dL_law_1671 ⟨by omega, by omega⟩) hP hD hS hA wLaw_CJ (fun _ => rfl) (fun r u H locs hw hP hD hS => ?_)
  obtain ⟨rfl, rfl⟩ := hw
  have hP : va_P (gD g) zCl (wLaw g ad qd st sv isS hst spare undo seen dbef drec ptx plen ppos pcnt cmds stE stF lch llen zo2.2 jd mm masd msav misS mpst mchg merr mfai mthr minp minM mUp mcar mcam mahd magn mltr mbeg mcmd mcmM mpl msz mwr mlin mliM) H := Eq.mp (congrArg (fun w => va_P (gD g) zCl w H) wLaw_SJ) hP
  have hD : va_D A (wLaw g ad qd st sv isS hst spare undo seen dbef drec ptx plen ppos pcnt cmds stE stF lch llen zo2.2 jd mm masd msav misS mpst mchg merr mfai mthr minp minM mUp mcar mcam mahd magn mltr mbeg mcmd mcmM mpl msz mwr mlin mliM) := Eq.mp (congrArg (fun w => va_D A w) wLaw_SJ) hD
  refine lv_istore (lv' := [(6, .int zo2.1), (5, .int i), (4, .ref (ad 75)), (3, .ref (ad 74)), (2, .ref (qd 0)), (1, .ref (ad 0)), (0, .ref b)]) hx hb dL_law_1674 hl (by decide) rfl (fun ls hl => ?_)
  refine lv_aload_n hx hb dL_law_1676 rfl (lv_at hl 4 rfl) ?_
  refine lv_aload_n hx hb dL_law_1677 rfl (lv_at hl 6 rfl) ?_
  refine lv_iload hx hb dL_law_1678 (lv_at hl 1 rfl) ?_
  refine lv_iconst (v := 1) hx hb dL_law_1680 (by decide) ?_
  refine lv_iadd hx hb dL_law_1681 ?_
  obtain ⟨zg3, hF⟩ := z_grd hF
  refine va_sld hx hb hX hbl hbA hS zg3 dL_law_1682 ?_
  obtain ⟨zo4, hzo4, hF⟩ := z_bind hF
  refine z_calll (fun (u : Int32 × (Nat → Int32)) => (wModel g (qd 0) (qd 1) (qd 2) (qd 3) (qd 4) (qd 5) (qd 6) (qd 7) (qd 8) (qd 9) (qd 10) (qd 11) (qd 12) mm masd msav misS mpst mchg merr mfai u.1 minp minM u.2 mcar mcam mahd magn mltr mbeg mcmd mcmM mpl msz mwr mlin mliM)) zLM (va_runV (As := [.int (xs (Int32.toNatClampNeg (i + 1)))]) (rest := []) ⟨hx, hb, hml, hown, hts⟩ (c_X11_togetherError l g (qd 0) (qd 1) (qd 2) (qd 3) (qd 4) (qd 5) (qd 6) (qd 7) (qd 8) (qd 9) (qd 10) (qd 11) (qd 12) mm masd msav misS mpst mchg merr mfai mthr minp minM mUp mcar mcam mahd magn mltr mbeg mcmd mcmM mpl msz mwr mlin mliM _ (xs (Int32.toNatClampNeg (i + 1))) fu _ hzo4) (cwV 1 hts (gdV mU_1538 mU_1539 mU_1540 mU_75 mU_1541) rfl rfl rfl (by decide +kernel) ⟨Nat.le_of_ble_eq_true rfl, Nat.le_of_ble_eq_true rfl⟩) ⟨z_blind _ _ _ _, va_recv hK hP (ci := 7) (q0 := 76) rfl rfl, fun U hU hW => z_pre zLM hP hD hK hB hS hA wLaw_CM wLaw_NM hU hW⟩ rfl rfl hl.1 rfl (lv_room (Nat.le_of_ble_eq_true rfl)) dL_law_1683 ⟨by omega, by omega⟩) hP hD hS hA wLaw_CM (fun _ => rfl) (fun r u H locs hw hP hD hS => ?_)
  obtain ⟨rfl, rfl⟩ := hw
  have hP : va_P (gD g) zCl (wLaw g ad qd st sv isS hst spare undo seen dbef drec ptx plen ppos pcnt cmds stE stF lch llen zo2.2 jd mm masd msav misS mpst mchg merr mfai zo4.2.1 minp minM zo4.2.2 mcar mcam mahd magn mltr mbeg mcmd mcmM mpl msz mwr mlin mliM) H := Eq.mp (congrArg (fun w => va_P (gD g) zCl w H) wLaw_SM) hP
  have hD : va_D A (wLaw g ad qd st sv isS hst spare undo seen dbef drec ptx plen ppos pcnt cmds stE stF lch llen zo2.2 jd mm masd msav misS mpst mchg merr mfai zo4.2.1 minp minM zo4.2.2 mcar mcam mahd magn mltr mbeg mcmd mcmM mpl msz mwr mlin mliM) := Eq.mp (congrArg (fun w => va_D A w) wLaw_SM) hD
  refine lv_lstore (lv' := [(7, .long zo4.1), (6, .int zo2.1), (5, .int i), (4, .ref (ad 75)), (3, .ref (ad 74)), (2, .ref (qd 0)), (1, .ref (ad 0)), (0, .ref b)]) hx hb dL_law_1686 hl (by decide) rfl (fun ls hl => ?_)
  refine lv_aload_n hx hb dL_law_1688 rfl (lv_at hl 5 rfl) ?_
  obtain ⟨zo5, hzo5, hF⟩ := z_bind hF
  refine z_calli (fun (_ : Unit) => (wModel g (qd 0) (qd 1) (qd 2) (qd 3) (qd 4) (qd 5) (qd 6) (qd 7) (qd 8) (qd 9) (qd 10) (qd 11) (qd 12) mm masd msav misS mpst mchg merr mfai zo4.2.1 minp minM zo4.2.2 mcar mcam mahd magn mltr mbeg mcmd mcmM mpl msz mwr mlin mliM)) zLM (va_runV (As := []) (rest := []) ⟨hx, hb, hml, hown, hts⟩ (c_X11_thrown l g (qd 0) (qd 1) (qd 2) (qd 3) (qd 4) (qd 5) (qd 6) (qd 7) (qd 8) (qd 9) (qd 10) (qd 11) (qd 12) mm masd msav misS mpst mchg merr mfai zo4.2.1 minp minM zo4.2.2 mcar mcam mahd magn mltr mbeg mcmd mcmM mpl msz mwr mlin mliM _ _ hzo5) (cwV 0 hts (gdV mU_1321 mU_1322 mU_1323 mU_75 mU_1324) rfl rfl rfl (by decide +kernel) ⟨Nat.le_of_ble_eq_true rfl, Nat.le_of_ble_eq_true rfl⟩) ⟨z_blind _ _ _ _, va_recv hK hP (ci := 7) (q0 := 76) rfl rfl, fun U hU hW => z_pre zLM hP hD hK hB hS hA wLaw_CM wLaw_NM hU hW⟩ rfl rfl hl.1 rfl (lv_room (Nat.le_of_ble_eq_true rfl)) dL_law_1689 ⟨by omega, by omega⟩) hP hD hS hA wLaw_CM (fun _ => rfl) (fun r u H locs hw hP hD hS => ?_)
  subst hw
  have hP : va_P (gD g) zCl (wLaw g ad qd st sv isS hst spare undo seen dbef drec ptx plen ppos pcnt cmds stE stF lch llen zo2.2 jd mm masd msav misS mpst mchg merr mfai zo4.2.1 minp minM zo4.2.2 mcar mcam mahd magn mltr mbeg mcmd mcmM mpl msz mwr mlin mliM) H := Eq.mp (congrArg (fun w => va_P (gD g) zCl w H) wLaw_SM) hP
  have hD : va_D A (wLaw g ad qd st sv isS hst spare undo seen dbef drec ptx plen ppos pcnt cmds stE stF lch llen zo2.2 jd mm masd msav misS mpst mchg merr mfai zo4.2.1 minp minM zo4.2.2 mcar mcam mahd magn mltr mbeg mcmd mcmM mpl msz mwr mlin mliM) := Eq.mp (congrArg (fun w => va_D A w) wLaw_SM) hD
  refine lv_iload hx hb dL_law_1692 (lv_at hl 1 rfl) ?_
  refine lv_icmp_eq (tgt := 1699) hx hb dL_law_1694 (by decide) (fun zc6 => ?_) (fun zc6 => ?_)
  · have hF := z_pos hF zc6
    refine lv_iload hx hb dL_law_1699 (lv_at hl 1 rfl) ?_
    refine lv_if_ne (tgt := 1715) hx hb dL_law_1701 (by decide) (fun zc7 => ?_) (fun zc7 => ?_)
    · have hF := z_neg hF zc7
      refine lv_goto (tgt := 2792) hx hb dL_law_1715 (by decide) ?_
      have ho := (Option.some.inj hF).symm
      subst ho
      refine W.widen (k := cells + 51) (n := slots + 306) (by omega) (by omega) ?_
      exact kj _ _ _ (lv_sub hl [2, 3, 4, 5, 6, 7] rfl) hP hD hS
    · have hF := z_pos hF zc7
      refine lv_aload_n hx hb dL_law_1704 rfl (lv_at hl 4 rfl) ?_
      refine lv_iconst (v := 0) hx hb dL_law_1705 (by decide) ?_
      refine va_lald hx hb hK hP 74 2 rfl rfl (by unfold vp_in; decide) dL_law_1706 ?_
      refine lv_lload hx hb dL_law_1707 (lv_at hl 0 rfl) ?_
      refine z_lcmp_eq (tgt := 1715) hx hb dL_law_1709 dL_law_1710 (by decide) (fun zc8 => ?_) (fun zc8 => ?_)
      · have hF := z_pos hF zc8
        refine lv_goto (tgt := 2792) hx hb dL_law_1715 (by decide) ?_
        have ho := (Option.some.inj hF).symm
        subst ho
        refine W.widen (k := cells + 51) (n := slots + 306) (by omega) (by omega) ?_
        exact kj _ _ _ (lv_sub hl [2, 3, 4, 5, 6, 7] rfl) hP hD hS
      · have hF := z_neg hF zc8
        refine lv_iconst (v := 0) hx hb dL_law_1713 (by decide) ?_
        exact absurd hF (by simp)
  · have hF := z_neg hF zc6
    refine lv_iconst (v := 0) hx hb dL_law_1697 (by decide) ?_
    exact absurd hF (by simp)
set_option maxHeartbeats 4000000 in
set_option maxRecDepth 100000 in
theorem k_law_1718 {p : Program} {e : Env} {s : State} {m : MethodId} {below : List Frame} {meth : Method} {c : Code} (l : Launch) (hl0 : l.stackTraces = false) {b L : Nat} {xs : Nat → Int32} (hx : p.tables.exec = Jvm.exec) (hb : c.code = cL_law) (hml : c.maxLocals = 9) (hown : s.vm.findClass RL = some m.cls) (hts : ∀ w ∈ wU, w.before #[Value.ref b] s = true) (hX : va_X b L xs s s.heap) (hbl : b < s.heap.size) {A : Nat → Prop} (hbA : ¬ A b) (hA : ∀ q, s.heap.size ≤ q → A q) (g : GG) (ad qd : Nat → Nat) (st : SS) (sv : SS) (isS : Int32) (hst : Nat → SS) (spare : Int32) (undo : Int32) (seen : Nat → Int32) (dbef : Int32) (drec : Int32) (ptx : Nat → Int32) (plen : Int32) (ppos : Int32) (pcnt : Int32) (cmds : Nat → CC) (stE : Int32) (stF : Int32) (lch : Nat → Int32) (llen : Int32) (jo : Nat → Int64) (jd : Nat → UInt64) (mm : Nat → Int64) (masd : Nat → Int64) (msav : Nat → Int64) (misS : Int32) (mpst : Nat → Int64) (mchg : Int32) (merr : Int32) (mfai : Int32) (mthr : Int32) (minp : Nat → Int32) (minM : Int32) (mUp : Nat → Int32) (mcar : Nat → Int32) (mcam : Nat → Int32) (mahd : Int32) (magn : Int32) (mltr : Nat → Int32) (mbeg : Nat → Int32) (mcmd : Nat → Int32) (mcmM : Int32) (mpl : Int32) (msz : Int32) (mwr : Int32) (mlin : Nat → Int32) (mliM : Int32) (hK : va_K (gD g) zCl (gT g) s) (hB : KB g A s s.heap) (fu : Nat) (i : Int32) (u : (Nat → Int64) × Int32 × (Nat → Int32)) (hF : G_law_1718 fu st jo mm mthr mUp L xs i = some u) {H : Heap} {locs : List Loc} {ls : Array Slot} {cells slots : Nat} (hc : cells + 51 ≤ 603072) (hsl : slots + 306 ≤ 7170153) (hl : lv_has ls 9 [(5, .int i), (4, .ref (ad 75)), (3, .ref (ad 74)), (2, .ref (qd 0)), (1, .ref (ad 0)), (0, .ref b)]) (hP : va_P (gD g) zCl (wLaw g ad qd st sv isS hst spare undo seen dbef drec ptx plen ppos pcnt cmds stE stF lch llen jo jd mm masd msav misS mpst mchg merr mfai mthr minp minM mUp mcar mcam mahd magn mltr mbeg mcmd mcmM mpl msz mwr mlin mliM) H) (hD : va_D A (wLaw g ad qd st sv isS hst spare undo seen dbef drec ptx plen ppos pcnt cmds stE stF lch llen jo jd mm masd msav misS mpst mchg merr mfai mthr minp minM mUp mcar mcam mahd magn mltr mbeg mcmd mcmM mpl msz mwr mlin mliM)) (hS : va_S A s.heap H locs)
    (kj : ∀ (H : Heap) (locs : List Loc) (ls : Array Slot), lv_has ls 9 [(5, .int i), (4, .ref (ad 75)), (3, .ref (ad 74)), (2, .ref (qd 0)), (1, .ref (ad 0)), (0, .ref b)] → va_P (gD g) zCl (wLaw g ad qd st sv isS hst spare undo seen dbef drec ptx plen ppos pcnt cmds stE stF lch llen u.1 jd mm masd msav misS mpst mchg merr mfai u.2.1 minp minM u.2.2 mcar mcam mahd magn mltr mbeg mcmd mcmM mpl msz mwr mlin mliM) H → va_D A (wLaw g ad qd st sv isS hst spare undo seen dbef drec ptx plen ppos pcnt cmds stE stF lch llen u.1 jd mm masd msav misS mpst mchg merr mfai u.2.1 minp minM u.2.2 mcar mcam mahd magn mltr mbeg mcmd mcmM mpl msz mwr mlin mliM) → va_S A s.heap H locs → W p l e room_1 s m #[Value.ref b] below meth c H locs (cells + 51) (slots + 306) (lw_Z below #[Value.ref b] s) (F0 m 2792 ls [])) : W p l e room_1 s m #[Value.ref b] below meth c H locs cells slots (lw_Z below #[Value.ref b] s) (F0 m 1718 ls []) := by
  have hc : cells + 51 ≤ room_1.cells := hc
  have hsl : slots + 306 ≤ room_1.slots := hsl
  unfold G_law_1718 at hF
  refine lv_aload_n hx hb dL_law_1718 rfl (lv_at hl 4 rfl) ?_
  refine lv_aload_n hx hb dL_law_1719 rfl (lv_at hl 5 rfl) ?_
  refine lv_iload hx hb dL_law_1720 (lv_at hl 0 rfl) ?_
  refine lv_iconst (v := 1) hx hb dL_law_1722 (by decide) ?_
  refine lv_iadd hx hb dL_law_1723 ?_
  obtain ⟨zg1, hF⟩ := z_grd hF
  refine va_sld hx hb hX hbl hbA hS zg1 dL_law_1724 ?_
  refine lv_aload_n hx hb dL_law_1725 rfl (lv_at hl 2 rfl) ?_
  obtain ⟨zo2, hzo2, hF⟩ := z_bind hF
  refine z_calli (fun (u : (Nat → Int64)) => (wRootJ g ad st sv isS hst spare undo seen dbef drec ptx plen ppos pcnt cmds stE stF lch llen u)) zLJ (vx_runSW (As := [.ref (ad 0), .int (xs (Int32.toNatClampNeg (i + 1))), .ref (ad 74)]) (rest := []) ⟨hx, hb, hml, hown, hts⟩ (c_L_togetherErrorBySets l hl0 g ad st sv isS hst spare undo seen dbef drec ptx plen ppos pcnt cmds stE stF lch llen jo _ (xs (Int32.toNatClampNeg (i + 1))) fu _ hzo2) (vx_cwSW 3 hts (gdS mU_935 mU_936 mU_65 mU_937) rfl rfl rfl (by decide +kernel) ⟨Nat.le_of_ble_eq_true rfl, Nat.le_of_ble_eq_true rfl⟩) ⟨z_blind _ _ _ _, fun U hU hW => z_pre zLJ hP hD hK hB hS hA wLaw_CJ wLaw_NJ hU hW⟩ rfl rfl hl.1 rfl (lv_room (Nat.le_of_ble_eq_true rfl)) dL_law_1726 ⟨by omega, by omega⟩) hP hD hS hA wLaw_CJ (fun _ => rfl) (fun r u H locs hw hP hD hS => ?_)
  obtain ⟨rfl, rfl⟩ := hw
  have hP : va_P (gD g) zCl (wLaw g ad qd st sv isS hst spare undo seen dbef drec ptx plen ppos pcnt cmds stE stF lch llen zo2.2 jd mm masd msav misS mpst mchg merr mfai mthr minp minM mUp mcar mcam mahd magn mltr mbeg mcmd mcmM mpl msz mwr mlin mliM) H := Eq.mp (congrArg (fun w => va_P (gD g) zCl w H) wLaw_SJ) hP
  have hD : va_D A (wLaw g ad qd st sv isS hst spare undo seen dbef drec ptx plen ppos pcnt cmds stE stF lch llen zo2.2 jd mm masd msav misS mpst mchg merr mfai mthr minp minM mUp mcar mcam mahd magn mltr mbeg mcmd mcmM mpl msz mwr mlin mliM) := Eq.mp (congrArg (fun w => va_D A w) wLaw_SJ) hD
  refine lv_istore (lv' := [(6, .int zo2.1), (5, .int i), (4, .ref (ad 75)), (3, .ref (ad 74)), (2, .ref (qd 0)), (1, .ref (ad 0)), (0, .ref b)]) hx hb dL_law_1729 hl (by decide) rfl (fun ls hl => ?_)
  refine lv_aload_n hx hb dL_law_1731 rfl (lv_at hl 4 rfl) ?_
  refine lv_aload_n hx hb dL_law_1732 rfl (lv_at hl 6 rfl) ?_
  refine lv_iload hx hb dL_law_1733 (lv_at hl 1 rfl) ?_
  refine lv_iconst (v := 1) hx hb dL_law_1735 (by decide) ?_
  refine lv_iadd hx hb dL_law_1736 ?_
  obtain ⟨zg3, hF⟩ := z_grd hF
  refine va_sld hx hb hX hbl hbA hS zg3 dL_law_1737 ?_
  obtain ⟨zo4, hzo4, hF⟩ := z_bind hF
  refine z_calll (fun (u : Int32 × (Nat → Int32)) => (wModel g (qd 0) (qd 1) (qd 2) (qd 3) (qd 4) (qd 5) (qd 6) (qd 7) (qd 8) (qd 9) (qd 10) (qd 11) (qd 12) mm masd msav misS mpst mchg merr mfai u.1 minp minM u.2 mcar mcam mahd magn mltr mbeg mcmd mcmM mpl msz mwr mlin mliM)) zLM (va_runV (As := [.int (xs (Int32.toNatClampNeg (i + 1)))]) (rest := []) ⟨hx, hb, hml, hown, hts⟩ (c_X11_togetherErrorBySets l g (qd 0) (qd 1) (qd 2) (qd 3) (qd 4) (qd 5) (qd 6) (qd 7) (qd 8) (qd 9) (qd 10) (qd 11) (qd 12) mm masd msav misS mpst mchg merr mfai mthr minp minM mUp mcar mcam mahd magn mltr mbeg mcmd mcmM mpl msz mwr mlin mliM _ (xs (Int32.toNatClampNeg (i + 1))) fu _ hzo4) (cwV 1 hts (gdV mU_1542 mU_1543 mU_1544 mU_75 mU_1545) rfl rfl rfl (by decide +kernel) ⟨Nat.le_of_ble_eq_true rfl, Nat.le_of_ble_eq_true rfl⟩) ⟨z_blind _ _ _ _, va_recv hK hP (ci := 7) (q0 := 76) rfl rfl, fun U hU hW => z_pre zLM hP hD hK hB hS hA wLaw_CM wLaw_NM hU hW⟩ rfl rfl hl.1 rfl (lv_room (Nat.le_of_ble_eq_true rfl)) dL_law_1738 ⟨by omega, by omega⟩) hP hD hS hA wLaw_CM (fun _ => rfl) (fun r u H locs hw hP hD hS => ?_)
  obtain ⟨rfl, rfl⟩ := hw
  have hP : va_P (gD g) zCl (wLaw g ad qd st sv isS hst spare undo seen dbef drec ptx plen ppos pcnt cmds stE stF lch llen zo2.2 jd mm masd msav misS mpst mchg merr mfai zo4.2.1 minp minM zo4.2.2 mcar mcam mahd magn mltr mbeg mcmd mcmM mpl msz mwr mlin mliM) H := Eq.mp (congrArg (fun w => va_P (gD g) zCl w H) wLaw_SM) hP
  have hD : va_D A (wLaw g ad qd st sv isS hst spare undo seen dbef drec ptx plen ppos pcnt cmds stE stF lch llen zo2.2 jd mm masd msav misS mpst mchg merr mfai zo4.2.1 minp minM zo4.2.2 mcar mcam mahd magn mltr mbeg mcmd mcmM mpl msz mwr mlin mliM) := Eq.mp (congrArg (fun w => va_D A w) wLaw_SM) hD
  refine lv_lstore (lv' := [(7, .long zo4.1), (6, .int zo2.1), (5, .int i), (4, .ref (ad 75)), (3, .ref (ad 74)), (2, .ref (qd 0)), (1, .ref (ad 0)), (0, .ref b)]) hx hb dL_law_1741 hl (by decide) rfl (fun ls hl => ?_)
  refine lv_aload_n hx hb dL_law_1743 rfl (lv_at hl 5 rfl) ?_
  obtain ⟨zo5, hzo5, hF⟩ := z_bind hF
  refine z_calli (fun (_ : Unit) => (wModel g (qd 0) (qd 1) (qd 2) (qd 3) (qd 4) (qd 5) (qd 6) (qd 7) (qd 8) (qd 9) (qd 10) (qd 11) (qd 12) mm masd msav misS mpst mchg merr mfai zo4.2.1 minp minM zo4.2.2 mcar mcam mahd magn mltr mbeg mcmd mcmM mpl msz mwr mlin mliM)) zLM (va_runV (As := []) (rest := []) ⟨hx, hb, hml, hown, hts⟩ (c_X11_thrown l g (qd 0) (qd 1) (qd 2) (qd 3) (qd 4) (qd 5) (qd 6) (qd 7) (qd 8) (qd 9) (qd 10) (qd 11) (qd 12) mm masd msav misS mpst mchg merr mfai zo4.2.1 minp minM zo4.2.2 mcar mcam mahd magn mltr mbeg mcmd mcmM mpl msz mwr mlin mliM _ _ hzo5) (cwV 0 hts (gdV mU_1321 mU_1322 mU_1323 mU_75 mU_1324) rfl rfl rfl (by decide +kernel) ⟨Nat.le_of_ble_eq_true rfl, Nat.le_of_ble_eq_true rfl⟩) ⟨z_blind _ _ _ _, va_recv hK hP (ci := 7) (q0 := 76) rfl rfl, fun U hU hW => z_pre zLM hP hD hK hB hS hA wLaw_CM wLaw_NM hU hW⟩ rfl rfl hl.1 rfl (lv_room (Nat.le_of_ble_eq_true rfl)) dL_law_1744 ⟨by omega, by omega⟩) hP hD hS hA wLaw_CM (fun _ => rfl) (fun r u H locs hw hP hD hS => ?_)
  subst hw
  have hP : va_P (gD g) zCl (wLaw g ad qd st sv isS hst spare undo seen dbef drec ptx plen ppos pcnt cmds stE stF lch llen zo2.2 jd mm masd msav misS mpst mchg merr mfai zo4.2.1 minp minM zo4.2.2 mcar mcam mahd magn mltr mbeg mcmd mcmM mpl msz mwr mlin mliM) H := Eq.mp (congrArg (fun w => va_P (gD g) zCl w H) wLaw_SM) hP
  have hD : va_D A (wLaw g ad qd st sv isS hst spare undo seen dbef drec ptx plen ppos pcnt cmds stE stF lch llen zo2.2 jd mm masd msav misS mpst mchg merr mfai zo4.2.1 minp minM zo4.2.2 mcar mcam mahd magn mltr mbeg mcmd mcmM mpl msz mwr mlin mliM) := Eq.mp (congrArg (fun w => va_D A w) wLaw_SM) hD
  refine lv_iload hx hb dL_law_1747 (lv_at hl 1 rfl) ?_
  refine lv_icmp_eq (tgt := 1754) hx hb dL_law_1749 (by decide) (fun zc6 => ?_) (fun zc6 => ?_)
  · have hF := z_pos hF zc6
    refine lv_iload hx hb dL_law_1754 (lv_at hl 1 rfl) ?_
    refine lv_if_ne (tgt := 1770) hx hb dL_law_1756 (by decide) (fun zc7 => ?_) (fun zc7 => ?_)
    · have hF := z_neg hF zc7
      refine lv_goto (tgt := 2792) hx hb dL_law_1770 (by decide) ?_
      have ho := (Option.some.inj hF).symm
      subst ho
      refine W.widen (k := cells + 51) (n := slots + 306) (by omega) (by omega) ?_
      exact kj _ _ _ (lv_sub hl [2, 3, 4, 5, 6, 7] rfl) hP hD hS
    · have hF := z_pos hF zc7
      refine lv_aload_n hx hb dL_law_1759 rfl (lv_at hl 4 rfl) ?_
      refine lv_iconst (v := 0) hx hb dL_law_1760 (by decide) ?_
      refine va_lald hx hb hK hP 74 2 rfl rfl (by unfold vp_in; decide) dL_law_1761 ?_
      refine lv_lload hx hb dL_law_1762 (lv_at hl 0 rfl) ?_
      refine z_lcmp_eq (tgt := 1770) hx hb dL_law_1764 dL_law_1765 (by decide) (fun zc8 => ?_) (fun zc8 => ?_)
      · have hF := z_pos hF zc8
        refine lv_goto (tgt := 2792) hx hb dL_law_1770 (by decide) ?_
        have ho := (Option.some.inj hF).symm
        subst ho
        refine W.widen (k := cells + 51) (n := slots + 306) (by omega) (by omega) ?_
        exact kj _ _ _ (lv_sub hl [2, 3, 4, 5, 6, 7] rfl) hP hD hS
      · have hF := z_neg hF zc8
        refine lv_iconst (v := 0) hx hb dL_law_1768 (by decide) ?_
        exact absurd hF (by simp)
  · have hF := z_neg hF zc6
    refine lv_iconst (v := 0) hx hb dL_law_1752 (by decide) ?_
    exact absurd hF (by simp)
set_option maxHeartbeats 4000000 in
set_option maxRecDepth 100000 in
theorem k_law_1773 {p : Program} {e : Env} {s : State} {m : MethodId} {below : List Frame} {meth : Method} {c : Code} (l : Launch) (hl0 : l.stackTraces = false) {b L : Nat} {xs : Nat → Int32} (hx : p.tables.exec = Jvm.exec) (hb : c.code = cL_law) (hml : c.maxLocals = 9) (hown : s.vm.findClass RL = some m.cls) (hts : ∀ w ∈ wU, w.before #[Value.ref b] s = true) (hX : va_X b L xs s s.heap) (hbl : b < s.heap.size) {A : Nat → Prop} (hbA : ¬ A b) (hA : ∀ q, s.heap.size ≤ q → A q) (g : GG) (ad qd : Nat → Nat) (st : SS) (sv : SS) (isS : Int32) (hst : Nat → SS) (spare : Int32) (undo : Int32) (seen : Nat → Int32) (dbef : Int32) (drec : Int32) (ptx : Nat → Int32) (plen : Int32) (ppos : Int32) (pcnt : Int32) (cmds : Nat → CC) (stE : Int32) (stF : Int32) (lch : Nat → Int32) (llen : Int32) (jo : Nat → Int64) (jd : Nat → UInt64) (mm : Nat → Int64) (masd : Nat → Int64) (msav : Nat → Int64) (misS : Int32) (mpst : Nat → Int64) (mchg : Int32) (merr : Int32) (mfai : Int32) (mthr : Int32) (minp : Nat → Int32) (minM : Int32) (mUp : Nat → Int32) (mcar : Nat → Int32) (mcam : Nat → Int32) (mahd : Int32) (magn : Int32) (mltr : Nat → Int32) (mbeg : Nat → Int32) (mcmd : Nat → Int32) (mcmM : Int32) (mpl : Int32) (msz : Int32) (mwr : Int32) (mlin : Nat → Int32) (mliM : Int32) (hK : va_K (gD g) zCl (gT g) s) (hB : KB g A s s.heap) (fu : Nat) (i : Int32) (u : (Nat → Int64) × Int32 × (Nat → Int32)) (hF : G_law_1773 fu st jo mm mthr mUp L xs i = some u) {H : Heap} {locs : List Loc} {ls : Array Slot} {cells slots : Nat} (hc : cells + 51 ≤ 603072) (hsl : slots + 306 ≤ 7170153) (hl : lv_has ls 9 [(5, .int i), (4, .ref (ad 75)), (3, .ref (ad 74)), (2, .ref (qd 0)), (1, .ref (ad 0)), (0, .ref b)]) (hP : va_P (gD g) zCl (wLaw g ad qd st sv isS hst spare undo seen dbef drec ptx plen ppos pcnt cmds stE stF lch llen jo jd mm masd msav misS mpst mchg merr mfai mthr minp minM mUp mcar mcam mahd magn mltr mbeg mcmd mcmM mpl msz mwr mlin mliM) H) (hD : va_D A (wLaw g ad qd st sv isS hst spare undo seen dbef drec ptx plen ppos pcnt cmds stE stF lch llen jo jd mm masd msav misS mpst mchg merr mfai mthr minp minM mUp mcar mcam mahd magn mltr mbeg mcmd mcmM mpl msz mwr mlin mliM)) (hS : va_S A s.heap H locs)
    (kj : ∀ (H : Heap) (locs : List Loc) (ls : Array Slot), lv_has ls 9 [(5, .int i), (4, .ref (ad 75)), (3, .ref (ad 74)), (2, .ref (qd 0)), (1, .ref (ad 0)), (0, .ref b)] → va_P (gD g) zCl (wLaw g ad qd st sv isS hst spare undo seen dbef drec ptx plen ppos pcnt cmds stE stF lch llen u.1 jd mm masd msav misS mpst mchg merr mfai u.2.1 minp minM u.2.2 mcar mcam mahd magn mltr mbeg mcmd mcmM mpl msz mwr mlin mliM) H → va_D A (wLaw g ad qd st sv isS hst spare undo seen dbef drec ptx plen ppos pcnt cmds stE stF lch llen u.1 jd mm masd msav misS mpst mchg merr mfai u.2.1 minp minM u.2.2 mcar mcam mahd magn mltr mbeg mcmd mcmM mpl msz mwr mlin mliM) → va_S A s.heap H locs → W p l e room_1 s m #[Value.ref b] below meth c H locs (cells + 51) (slots + 306) (lw_Z below #[Value.ref b] s) (F0 m 2792 ls [])) : W p l e room_1 s m #[Value.ref b] below meth c H locs cells slots (lw_Z below #[Value.ref b] s) (F0 m 1773 ls []) := by
  have hc : cells + 51 ≤ room_1.cells := hc
  have hsl : slots + 306 ≤ room_1.slots := hsl
  unfold G_law_1773 at hF
  refine lv_aload_n hx hb dL_law_1773 rfl (lv_at hl 4 rfl) ?_
  refine lv_aload_n hx hb dL_law_1774 rfl (lv_at hl 5 rfl) ?_
  refine lv_iload hx hb dL_law_1775 (lv_at hl 0 rfl) ?_
  refine lv_iconst (v := 1) hx hb dL_law_1777 (by decide) ?_
  refine lv_iadd hx hb dL_law_1778 ?_
  obtain ⟨zg1, hF⟩ := z_grd hF
  refine va_sld hx hb hX hbl hbA hS zg1 dL_law_1779 ?_
  refine lv_aload_n hx hb dL_law_1780 rfl (lv_at hl 5 rfl) ?_
  refine lv_iload hx hb dL_law_1781 (lv_at hl 0 rfl) ?_
  refine lv_iconst (v := 2) hx hb dL_law_1783 (by decide) ?_
  refine lv_iadd hx hb dL_law_1784 ?_
  obtain ⟨zg2, hF⟩ := z_grd hF
  refine va_sld hx hb hX hbl hbA hS zg2 dL_law_1785 ?_
  refine lv_aload_n hx hb dL_law_1786 rfl (lv_at hl 2 rfl) ?_
  obtain ⟨zo3, hzo3, hF⟩ := z_bind hF
  refine z_calli (fun (u : (Nat → Int64)) => (wRootJ g ad st sv isS hst spare undo seen dbef drec ptx plen ppos pcnt cmds stE stF lch llen u)) zLJ (vx_runSW (As := [.ref (ad 0), .int (xs (Int32.toNatClampNeg (i + 1))), .int (xs (Int32.toNatClampNeg (i + 2))), .ref (ad 74)]) (rest := []) ⟨hx, hb, hml, hown, hts⟩ (c_L_goesUp l hl0 g ad st sv isS hst spare undo seen dbef drec ptx plen ppos pcnt cmds stE stF lch llen jo _ (xs (Int32.toNatClampNeg (i + 1))) (xs (Int32.toNatClampNeg (i + 2))) fu _ hzo3) (vx_cwSW 4 hts (gdS mU_942 mU_943 mU_65 mU_944) rfl rfl rfl (by decide +kernel) ⟨Nat.le_of_ble_eq_true rfl, Nat.le_of_ble_eq_true rfl⟩) ⟨z_blind _ _ _ _, fun U hU hW => z_pre zLJ hP hD hK hB hS hA wLaw_CJ wLaw_NJ hU hW⟩ rfl rfl hl.1 rfl (lv_room (Nat.le_of_ble_eq_true rfl)) dL_law_1787 ⟨by omega, by omega⟩) hP hD hS hA wLaw_CJ (fun _ => rfl) (fun r u H locs hw hP hD hS => ?_)
  obtain ⟨rfl, rfl⟩ := hw
  have hP : va_P (gD g) zCl (wLaw g ad qd st sv isS hst spare undo seen dbef drec ptx plen ppos pcnt cmds stE stF lch llen zo3.2 jd mm masd msav misS mpst mchg merr mfai mthr minp minM mUp mcar mcam mahd magn mltr mbeg mcmd mcmM mpl msz mwr mlin mliM) H := Eq.mp (congrArg (fun w => va_P (gD g) zCl w H) wLaw_SJ) hP
  have hD : va_D A (wLaw g ad qd st sv isS hst spare undo seen dbef drec ptx plen ppos pcnt cmds stE stF lch llen zo3.2 jd mm masd msav misS mpst mchg merr mfai mthr minp minM mUp mcar mcam mahd magn mltr mbeg mcmd mcmM mpl msz mwr mlin mliM) := Eq.mp (congrArg (fun w => va_D A w) wLaw_SJ) hD
  refine lv_istore (lv' := [(6, .int zo3.1), (5, .int i), (4, .ref (ad 75)), (3, .ref (ad 74)), (2, .ref (qd 0)), (1, .ref (ad 0)), (0, .ref b)]) hx hb dL_law_1790 hl (by decide) rfl (fun ls hl => ?_)
  refine lv_aload_n hx hb dL_law_1792 rfl (lv_at hl 4 rfl) ?_
  refine lv_aload_n hx hb dL_law_1793 rfl (lv_at hl 6 rfl) ?_
  refine lv_iload hx hb dL_law_1794 (lv_at hl 1 rfl) ?_
  refine lv_iconst (v := 1) hx hb dL_law_1796 (by decide) ?_
  refine lv_iadd hx hb dL_law_1797 ?_
  obtain ⟨zg4, hF⟩ := z_grd hF
  refine va_sld hx hb hX hbl hbA hS zg4 dL_law_1798 ?_
  refine lv_aload_n hx hb dL_law_1799 rfl (lv_at hl 6 rfl) ?_
  refine lv_iload hx hb dL_law_1800 (lv_at hl 1 rfl) ?_
  refine lv_iconst (v := 2) hx hb dL_law_1802 (by decide) ?_
  refine lv_iadd hx hb dL_law_1803 ?_
  obtain ⟨zg5, hF⟩ := z_grd hF
  refine va_sld hx hb hX hbl hbA hS zg5 dL_law_1804 ?_
  obtain ⟨zo6, hzo6, hF⟩ := z_bind hF
  refine z_calli (fun (u : Int32 × (Nat → Int32)) => (wModel g (qd 0) (qd 1) (qd 2) (qd 3) (qd 4) (qd 5) (qd 6) (qd 7) (qd 8) (qd 9) (qd 10) (qd 11) (qd 12) mm masd msav misS mpst mchg merr mfai u.1 minp minM u.2 mcar mcam mahd magn mltr mbeg mcmd mcmM mpl msz mwr mlin mliM)) zLM (va_runV (As := [.int (xs (Int32.toNatClampNeg (i + 1))), .int (xs (Int32.toNatClampNeg (i + 2)))]) (rest := []) ⟨hx, hb, hml, hown, hts⟩ (c_X11_goesUp l g (qd 0) (qd 1) (qd 2) (qd 3) (qd 4) (qd 5) (qd 6) (qd 7) (qd 8) (qd 9) (qd 10) (qd 11) (qd 12) mm masd msav misS mpst mchg merr mfai mthr minp minM mUp mcar mcam mahd magn mltr mbeg mcmd mcmM mpl msz mwr mlin mliM _ (xs (Int32.toNatClampNeg (i + 1))) (xs (Int32.toNatClampNeg (i + 2))) fu _ hzo6) (cwV 2 hts (gdV mU_1547 mU_1548 mU_1549 mU_75 mU_1550) rfl rfl rfl (by decide +kernel) ⟨Nat.le_of_ble_eq_true rfl, Nat.le_of_ble_eq_true rfl⟩) ⟨z_blind _ _ _ _, va_recv hK hP (ci := 7) (q0 := 76) rfl rfl, fun U hU hW => z_pre zLM hP hD hK hB hS hA wLaw_CM wLaw_NM hU hW⟩ rfl rfl hl.1 rfl (lv_room (Nat.le_of_ble_eq_true rfl)) dL_law_1805 ⟨by omega, by omega⟩) hP hD hS hA wLaw_CM (fun _ => rfl) (fun r u H locs hw hP hD hS => ?_)
  obtain ⟨rfl, rfl⟩ := hw
  have hP : va_P (gD g) zCl (wLaw g ad qd st sv isS hst spare undo seen dbef drec ptx plen ppos pcnt cmds stE stF lch llen zo3.2 jd mm masd msav misS mpst mchg merr mfai zo6.2.1 minp minM zo6.2.2 mcar mcam mahd magn mltr mbeg mcmd mcmM mpl msz mwr mlin mliM) H := Eq.mp (congrArg (fun w => va_P (gD g) zCl w H) wLaw_SM) hP
  have hD : va_D A (wLaw g ad qd st sv isS hst spare undo seen dbef drec ptx plen ppos pcnt cmds stE stF lch llen zo3.2 jd mm masd msav misS mpst mchg merr mfai zo6.2.1 minp minM zo6.2.2 mcar mcam mahd magn mltr mbeg mcmd mcmM mpl msz mwr mlin mliM) := Eq.mp (congrArg (fun w => va_D A w) wLaw_SM) hD
  refine lv_istore (lv' := [(7, .int zo6.1), (6, .int zo3.1), (5, .int i), (4, .ref (ad 75)), (3, .ref (ad 74)), (2, .ref (qd 0)), (1, .ref (ad 0)), (0, .ref b)]) hx hb dL_law_1808 hl (by decide) rfl (fun ls hl => ?_)
  refine lv_aload_n hx hb dL_law_1810 rfl (lv_at hl 5 rfl) ?_
  obtain ⟨zo7, hzo7, hF⟩ := z_bind hF
  refine z_calli (fun (_ : Unit) => (wModel g (qd 0) (qd 1) (qd 2) (qd 3) (qd 4) (qd 5) (qd 6) (qd 7) (qd 8) (qd 9) (qd 10) (qd 11) (qd 12) mm masd msav misS mpst mchg merr mfai zo6.2.1 minp minM zo6.2.2 mcar mcam mahd magn mltr mbeg mcmd mcmM mpl msz mwr mlin mliM)) zLM (va_runV (As := []) (rest := []) ⟨hx, hb, hml, hown, hts⟩ (c_X11_thrown l g (qd 0) (qd 1) (qd 2) (qd 3) (qd 4) (qd 5) (qd 6) (qd 7) (qd 8) (qd 9) (qd 10) (qd 11) (qd 12) mm masd msav misS mpst mchg merr mfai zo6.2.1 minp minM zo6.2.2 mcar mcam mahd magn mltr mbeg mcmd mcmM mpl msz mwr mlin mliM _ _ hzo7) (cwV 0 hts (gdV mU_1321 mU_1322 mU_1323 mU_75 mU_1324) rfl rfl rfl (by decide +kernel) ⟨Nat.le_of_ble_eq_true rfl, Nat.le_of_ble_eq_true rfl⟩) ⟨z_blind _ _ _ _, va_recv hK hP (ci := 7) (q0 := 76) rfl rfl, fun U hU hW => z_pre zLM hP hD hK hB hS hA wLaw_CM wLaw_NM hU hW⟩ rfl rfl hl.1 rfl (lv_room (Nat.le_of_ble_eq_true rfl)) dL_law_1811 ⟨by omega, by omega⟩) hP hD hS hA wLaw_CM (fun _ => rfl) (fun r u H locs hw hP hD hS => ?_)
  subst hw
  have hP : va_P (gD g) zCl (wLaw g ad qd st sv isS hst spare undo seen dbef drec ptx plen ppos pcnt cmds stE stF lch llen zo3.2 jd mm masd msav misS mpst mchg merr mfai zo6.2.1 minp minM zo6.2.2 mcar mcam mahd magn mltr mbeg mcmd mcmM mpl msz mwr mlin mliM) H := Eq.mp (congrArg (fun w => va_P (gD g) zCl w H) wLaw_SM) hP
  have hD : va_D A (wLaw g ad qd st sv isS hst spare undo seen dbef drec ptx plen ppos pcnt cmds stE stF lch llen zo3.2 jd mm masd msav misS mpst mchg merr mfai zo6.2.1 minp minM zo6.2.2 mcar mcam mahd magn mltr mbeg mcmd mcmM mpl msz mwr mlin mliM) := Eq.mp (congrArg (fun w => va_D A w) wLaw_SM) hD
  refine lv_iload hx hb dL_law_1814 (lv_at hl 1 rfl) ?_
  refine lv_icmp_eq (tgt := 1821) hx hb dL_law_1816 (by decide) (fun zc8 => ?_) (fun zc8 => ?_)
  · have hF := z_pos hF zc8
    refine lv_iload hx hb dL_law_1821 (lv_at hl 1 rfl) ?_
    refine lv_if_ne (tgt := 1845) hx hb dL_law_1823 (by decide) (fun zc9 => ?_) (fun zc9 => ?_)
    · have hF := z_neg hF zc9
      refine lv_goto (tgt := 2792) hx hb dL_law_1845 (by decide) ?_
      have ho := (Option.some.inj hF).symm
      subst ho
      refine W.widen (k := cells + 51) (n := slots + 306) (by omega) (by omega) ?_
      exact kj _ _ _ (lv_sub hl [2, 3, 4, 5, 6, 7] rfl) hP hD hS
    · have hF := z_pos hF zc9
      refine lv_aload_n hx hb dL_law_1826 rfl (lv_at hl 4 rfl) ?_
      refine lv_iconst (v := 0) hx hb dL_law_1827 (by decide) ?_
      refine va_lald hx hb hK hP 74 2 rfl rfl (by unfold vp_in; decide) dL_law_1828 ?_
      refine lv_iload hx hb dL_law_1829 (lv_at hl 0 rfl) ?_
      refine lv_if_eq (tgt := 1838) hx hb dL_law_1831 (by decide) (fun zc10 => ?_) (fun zc10 => ?_)
      · have hF := z_pos hF zc10
        refine lv_lconst (v := 0) hx hb dL_law_1838 (by decide) ?_
        refine z_lcmp_eq (tgt := 1845) hx hb dL_law_1839 dL_law_1840 (by decide) (fun zc11 => ?_) (fun zc11 => ?_)
        · have hF := z_pos hF zc11
          refine lv_goto (tgt := 2792) hx hb dL_law_1845 (by decide) ?_
          have ho := (Option.some.inj hF).symm
          subst ho
          refine W.widen (k := cells + 51) (n := slots + 306) (by omega) (by omega) ?_
          exact kj _ _ _ (lv_sub hl [2, 3, 4, 5, 6, 7] rfl) hP hD hS
        · have hF := z_neg hF zc11
          refine lv_iconst (v := 0) hx hb dL_law_1843 (by decide) ?_
          exact absurd hF (by simp)
      · have hF := z_neg hF zc10
        refine lv_lconst (v := 1) hx hb dL_law_1834 (by decide) ?_
        refine lv_goto (tgt := 1839) hx hb dL_law_1835 (by decide) ?_
        refine z_lcmp_eq (tgt := 1845) hx hb dL_law_1839 dL_law_1840 (by decide) (fun zc12 => ?_) (fun zc12 => ?_)
        · have hF := z_pos hF zc12
          refine lv_goto (tgt := 2792) hx hb dL_law_1845 (by decide) ?_
          have ho := (Option.some.inj hF).symm
          subst ho
          refine W.widen (k := cells + 51) (n := slots + 306) (by omega) (by omega) ?_
          exact kj _ _ _ (lv_sub hl [2, 3, 4, 5, 6, 7] rfl) hP hD hS
        · have hF := z_neg hF zc12
          refine lv_iconst (v := 0) hx hb dL_law_1843 (by decide) ?_
          exact absurd hF (by simp)
  · have hF := z_neg hF zc8
    refine lv_iconst (v := 0) hx hb dL_law_1819 (by decide) ?_
    exact absurd hF (by simp)
set_option maxHeartbeats 4000000 in
set_option maxRecDepth 100000 in
theorem k_law_1848 {p : Program} {e : Env} {s : State} {m : MethodId} {below : List Frame} {meth : Method} {c : Code} (l : Launch) (hl0 : l.stackTraces = false) {b L : Nat} {xs : Nat → Int32} (hx : p.tables.exec = Jvm.exec) (hb : c.code = cL_law) (hml : c.maxLocals = 9) (hown : s.vm.findClass RL = some m.cls) (hts : ∀ w ∈ wU, w.before #[Value.ref b] s = true) (hX : va_X b L xs s s.heap) (hbl : b < s.heap.size) {A : Nat → Prop} (hbA : ¬ A b) (hA : ∀ q, s.heap.size ≤ q → A q) (g : GG) (ad qd : Nat → Nat) (st : SS) (sv : SS) (isS : Int32) (hst : Nat → SS) (spare : Int32) (undo : Int32) (seen : Nat → Int32) (dbef : Int32) (drec : Int32) (ptx : Nat → Int32) (plen : Int32) (ppos : Int32) (pcnt : Int32) (cmds : Nat → CC) (stE : Int32) (stF : Int32) (lch : Nat → Int32) (llen : Int32) (jo : Nat → Int64) (jd : Nat → UInt64) (mm : Nat → Int64) (masd : Nat → Int64) (msav : Nat → Int64) (misS : Int32) (mpst : Nat → Int64) (mchg : Int32) (merr : Int32) (mfai : Int32) (mthr : Int32) (minp : Nat → Int32) (minM : Int32) (mUp : Nat → Int32) (mcar : Nat → Int32) (mcam : Nat → Int32) (mahd : Int32) (magn : Int32) (mltr : Nat → Int32) (mbeg : Nat → Int32) (mcmd : Nat → Int32) (mcmM : Int32) (mpl : Int32) (msz : Int32) (mwr : Int32) (mlin : Nat → Int32) (mliM : Int32) (hK : va_K (gD g) zCl (gT g) s) (hB : KB g A s s.heap) (fu : Nat) (i : Int32) (u : (Nat → Int64) × Int32) (hF : G_law_1848 fu jo mthr L xs i = some u) {H : Heap} {locs : List Loc} {ls : Array Slot} {cells slots : Nat} (hc : cells + 51 ≤ 603072) (hsl : slots + 306 ≤ 7170153) (hl : lv_has ls 9 [(5, .int i), (4, .ref (ad 75)), (3, .ref (ad 74)), (2, .ref (qd 0)), (1, .ref (ad 0)), (0, .ref b)]) (hP : va_P (gD g) zCl (wLaw g ad qd st sv isS hst spare undo seen dbef drec ptx plen ppos pcnt cmds stE stF lch llen jo jd mm masd msav misS mpst mchg merr mfai mthr minp minM mUp mcar mcam mahd magn mltr mbeg mcmd mcmM mpl msz mwr mlin mliM) H) (hD : va_D A (wLaw g ad qd st sv isS hst spare undo seen dbef drec ptx plen ppos pcnt cmds stE stF lch llen jo jd mm masd msav misS mpst mchg merr mfai mthr minp minM mUp mcar mcam mahd magn mltr mbeg mcmd mcmM mpl msz mwr mlin mliM)) (hS : va_S A s.heap H locs)
    (kj : ∀ (H : Heap) (locs : List Loc) (ls : Array Slot), lv_has ls 9 [(5, .int i), (4, .ref (ad 75)), (3, .ref (ad 74)), (2, .ref (qd 0)), (1, .ref (ad 0)), (0, .ref b)] → va_P (gD g) zCl (wLaw g ad qd st sv isS hst spare undo seen dbef drec ptx plen ppos pcnt cmds stE stF lch llen u.1 jd mm masd msav misS mpst mchg merr mfai u.2 minp minM mUp mcar mcam mahd magn mltr mbeg mcmd mcmM mpl msz mwr mlin mliM) H → va_D A (wLaw g ad qd st sv isS hst spare undo seen dbef drec ptx plen ppos pcnt cmds stE stF lch llen u.1 jd mm masd msav misS mpst mchg merr mfai u.2 minp minM mUp mcar mcam mahd magn mltr mbeg mcmd mcmM mpl msz mwr mlin mliM) → va_S A s.heap H locs → W p l e room_1 s m #[Value.ref b] below meth c H locs (cells + 51) (slots + 306) (lw_Z below #[Value.ref b] s) (F0 m 2792 ls [])) : W p l e room_1 s m #[Value.ref b] below meth c H locs cells slots (lw_Z below #[Value.ref b] s) (F0 m 1848 ls []) := by
  have hc : cells + 51 ≤ room_1.cells := hc
  have hsl : slots + 306 ≤ room_1.slots := hsl
  unfold G_law_1848 at hF
  refine lv_aload_n hx hb dL_law_1848 rfl (lv_at hl 4 rfl) ?_
  refine lv_aload_n hx hb dL_law_1849 rfl (lv_at hl 5 rfl) ?_
  refine lv_iload hx hb dL_law_1850 (lv_at hl 0 rfl) ?_
  refine lv_iconst (v := 1) hx hb dL_law_1852 (by decide) ?_
  refine lv_iadd hx hb dL_law_1853 ?_
  obtain ⟨zg1, hF⟩ := z_grd hF
  refine va_sld hx hb hX hbl hbA hS zg1 dL_law_1854 ?_
  refine lv_aload_n hx hb dL_law_1855 rfl (lv_at hl 5 rfl) ?_
  refine lv_iload hx hb dL_law_1856 (lv_at hl 0 rfl) ?_
  refine lv_iconst (v := 2) hx hb dL_law_1858 (by decide) ?_
  refine lv_iadd hx hb dL_law_1859 ?_
  obtain ⟨zg2, hF⟩ := z_grd hF
  refine va_sld hx hb hX hbl hbA hS zg2 dL_law_1860 ?_
  refine lv_aload_n hx hb dL_law_1861 rfl (lv_at hl 5 rfl) ?_
  refine lv_iload hx hb dL_law_1862 (lv_at hl 0 rfl) ?_
  refine lv_iconst (v := 3) hx hb dL_law_1864 (by decide) ?_
  refine lv_iadd hx hb dL_law_1865 ?_
  obtain ⟨zg3, hF⟩ := z_grd hF
  refine va_sld hx hb hX hbl hbA hS zg3 dL_law_1866 ?_
  refine lv_aload_n hx hb dL_law_1867 rfl (lv_at hl 2 rfl) ?_
  obtain ⟨zo4, hzo4, hF⟩ := z_bind hF
  refine z_calli (fun (u : (Nat → Int64)) => (wRootJ g ad st sv isS hst spare undo seen dbef drec ptx plen ppos pcnt cmds stE stF lch llen u)) zLJ (vx_runSW (As := [.ref (ad 0), .int (xs (Int32.toNatClampNeg (i + 1))), .int (xs (Int32.toNatClampNeg (i + 2))), .int (xs (Int32.toNatClampNeg (i + 3))), .ref (ad 74)]) (rest := []) ⟨hx, hb, hml, hown, hts⟩ (c_L_quotientDigit l hl0 g ad st sv isS hst spare undo seen dbef drec ptx plen ppos pcnt cmds stE stF lch llen jo _ (xs (Int32.toNatClampNeg (i + 1))) (xs (Int32.toNatClampNeg (i + 2))) (xs (Int32.toNatClampNeg (i + 3))) fu _ hzo4) (vx_cwSW 5 hts (gdS mU_950 mU_951 mU_65 mU_952) rfl rfl rfl (by decide +kernel) ⟨Nat.le_of_ble_eq_true rfl, Nat.le_of_ble_eq_true rfl⟩) ⟨z_blind _ _ _ _, fun U hU hW => z_pre zLJ hP hD hK hB hS hA wLaw_CJ wLaw_NJ hU hW⟩ rfl rfl hl.1 rfl (lv_room (Nat.le_of_ble_eq_true rfl)) dL_law_1868 ⟨by omega, by omega⟩) hP hD hS hA wLaw_CJ (fun _ => rfl) (fun r u H locs hw hP hD hS => ?_)
  obtain ⟨rfl, rfl⟩ := hw
  have hP : va_P (gD g) zCl (wLaw g ad qd st sv isS hst spare undo seen dbef drec ptx plen ppos pcnt cmds stE stF lch llen zo4.2 jd mm masd msav misS mpst mchg merr mfai mthr minp minM mUp mcar mcam mahd magn mltr mbeg mcmd mcmM mpl msz mwr mlin mliM) H := Eq.mp (congrArg (fun w => va_P (gD g) zCl w H) wLaw_SJ) hP
  have hD : va_D A (wLaw g ad qd st sv isS hst spare undo seen dbef drec ptx plen ppos pcnt cmds stE stF lch llen zo4.2 jd mm masd msav misS mpst mchg merr mfai mthr minp minM mUp mcar mcam mahd magn mltr mbeg mcmd mcmM mpl msz mwr mlin mliM) := Eq.mp (congrArg (fun w => va_D A w) wLaw_SJ) hD
  refine lv_istore (lv' := [(6, .int zo4.1), (5, .int i), (4, .ref (ad 75)), (3, .ref (ad 74)), (2, .ref (qd 0)), (1, .ref (ad 0)), (0, .ref b)]) hx hb dL_law_1871 hl (by decide) rfl (fun ls hl => ?_)
  refine lv_aload_n hx hb dL_law_1873 rfl (lv_at hl 4 rfl) ?_
  refine lv_aload_n hx hb dL_law_1874 rfl (lv_at hl 6 rfl) ?_
  refine lv_iload hx hb dL_law_1875 (lv_at hl 1 rfl) ?_
  refine lv_iconst (v := 1) hx hb dL_law_1877 (by decide) ?_
  refine lv_iadd hx hb dL_law_1878 ?_
  obtain ⟨zg5, hF⟩ := z_grd hF
  refine va_sld hx hb hX hbl hbA hS zg5 dL_law_1879 ?_
  refine lv_aload_n hx hb dL_law_1880 rfl (lv_at hl 6 rfl) ?_
  refine lv_iload hx hb dL_law_1881 (lv_at hl 1 rfl) ?_
  refine lv_iconst (v := 2) hx hb dL_law_1883 (by decide) ?_
  refine lv_iadd hx hb dL_law_1884 ?_
  obtain ⟨zg6, hF⟩ := z_grd hF
  refine va_sld hx hb hX hbl hbA hS zg6 dL_law_1885 ?_
  refine lv_aload_n hx hb dL_law_1886 rfl (lv_at hl 6 rfl) ?_
  refine lv_iload hx hb dL_law_1887 (lv_at hl 1 rfl) ?_
  refine lv_iconst (v := 3) hx hb dL_law_1889 (by decide) ?_
  refine lv_iadd hx hb dL_law_1890 ?_
  obtain ⟨zg7, hF⟩ := z_grd hF
  refine va_sld hx hb hX hbl hbA hS zg7 dL_law_1891 ?_
  obtain ⟨zo8, hzo8, hF⟩ := z_bind hF
  refine z_calli (fun (u : Int32) => (wModel g (qd 0) (qd 1) (qd 2) (qd 3) (qd 4) (qd 5) (qd 6) (qd 7) (qd 8) (qd 9) (qd 10) (qd 11) (qd 12) mm masd msav misS mpst mchg merr mfai u minp minM mUp mcar mcam mahd magn mltr mbeg mcmd mcmM mpl msz mwr mlin mliM)) zLM (va_runV (As := [.int (xs (Int32.toNatClampNeg (i + 1))), .int (xs (Int32.toNatClampNeg (i + 2))), .int (xs (Int32.toNatClampNeg (i + 3)))]) (rest := []) ⟨hx, hb, hml, hown, hts⟩ (c_X11_quotientDigit l g (qd 0) (qd 1) (qd 2) (qd 3) (qd 4) (qd 5) (qd 6) (qd 7) (qd 8) (qd 9) (qd 10) (qd 11) (qd 12) mm masd msav misS mpst mchg merr mfai mthr minp minM mUp mcar mcam mahd magn mltr mbeg mcmd mcmM mpl msz mwr mlin mliM _ (xs (Int32.toNatClampNeg (i + 1))) (xs (Int32.toNatClampNeg (i + 2))) (xs (Int32.toNatClampNeg (i + 3))) fu _ hzo8) (cwV 3 hts (gdV mU_1551 mU_1552 mU_1553 mU_75 mU_1554) rfl rfl rfl (by decide +kernel) ⟨Nat.le_of_ble_eq_true rfl, Nat.le_of_ble_eq_true rfl⟩) ⟨z_blind _ _ _ _, va_recv hK hP (ci := 7) (q0 := 76) rfl rfl, fun U hU hW => z_pre zLM hP hD hK hB hS hA wLaw_CM wLaw_NM hU hW⟩ rfl rfl hl.1 rfl (lv_room (Nat.le_of_ble_eq_true rfl)) dL_law_1892 ⟨by omega, by omega⟩) hP hD hS hA wLaw_CM (fun _ => rfl) (fun r u H locs hw hP hD hS => ?_)
  obtain ⟨rfl, rfl⟩ := hw
  have hP : va_P (gD g) zCl (wLaw g ad qd st sv isS hst spare undo seen dbef drec ptx plen ppos pcnt cmds stE stF lch llen zo4.2 jd mm masd msav misS mpst mchg merr mfai zo8.2 minp minM mUp mcar mcam mahd magn mltr mbeg mcmd mcmM mpl msz mwr mlin mliM) H := Eq.mp (congrArg (fun w => va_P (gD g) zCl w H) wLaw_SM) hP
  have hD : va_D A (wLaw g ad qd st sv isS hst spare undo seen dbef drec ptx plen ppos pcnt cmds stE stF lch llen zo4.2 jd mm masd msav misS mpst mchg merr mfai zo8.2 minp minM mUp mcar mcam mahd magn mltr mbeg mcmd mcmM mpl msz mwr mlin mliM) := Eq.mp (congrArg (fun w => va_D A w) wLaw_SM) hD
  refine lv_istore (lv' := [(7, .int zo8.1), (6, .int zo4.1), (5, .int i), (4, .ref (ad 75)), (3, .ref (ad 74)), (2, .ref (qd 0)), (1, .ref (ad 0)), (0, .ref b)]) hx hb dL_law_1895 hl (by decide) rfl (fun ls hl => ?_)
  refine lv_aload_n hx hb dL_law_1897 rfl (lv_at hl 5 rfl) ?_
  obtain ⟨zo9, hzo9, hF⟩ := z_bind hF
  refine z_calli (fun (_ : Unit) => (wModel g (qd 0) (qd 1) (qd 2) (qd 3) (qd 4) (qd 5) (qd 6) (qd 7) (qd 8) (qd 9) (qd 10) (qd 11) (qd 12) mm masd msav misS mpst mchg merr mfai zo8.2 minp minM mUp mcar mcam mahd magn mltr mbeg mcmd mcmM mpl msz mwr mlin mliM)) zLM (va_runV (As := []) (rest := []) ⟨hx, hb, hml, hown, hts⟩ (c_X11_thrown l g (qd 0) (qd 1) (qd 2) (qd 3) (qd 4) (qd 5) (qd 6) (qd 7) (qd 8) (qd 9) (qd 10) (qd 11) (qd 12) mm masd msav misS mpst mchg merr mfai zo8.2 minp minM mUp mcar mcam mahd magn mltr mbeg mcmd mcmM mpl msz mwr mlin mliM _ _ hzo9) (cwV 0 hts (gdV mU_1321 mU_1322 mU_1323 mU_75 mU_1324) rfl rfl rfl (by decide +kernel) ⟨Nat.le_of_ble_eq_true rfl, Nat.le_of_ble_eq_true rfl⟩) ⟨z_blind _ _ _ _, va_recv hK hP (ci := 7) (q0 := 76) rfl rfl, fun U hU hW => z_pre zLM hP hD hK hB hS hA wLaw_CM wLaw_NM hU hW⟩ rfl rfl hl.1 rfl (lv_room (Nat.le_of_ble_eq_true rfl)) dL_law_1898 ⟨by omega, by omega⟩) hP hD hS hA wLaw_CM (fun _ => rfl) (fun r u H locs hw hP hD hS => ?_)
  subst hw
  have hP : va_P (gD g) zCl (wLaw g ad qd st sv isS hst spare undo seen dbef drec ptx plen ppos pcnt cmds stE stF lch llen zo4.2 jd mm masd msav misS mpst mchg merr mfai zo8.2 minp minM mUp mcar mcam mahd magn mltr mbeg mcmd mcmM mpl msz mwr mlin mliM) H := Eq.mp (congrArg (fun w => va_P (gD g) zCl w H) wLaw_SM) hP
  have hD : va_D A (wLaw g ad qd st sv isS hst spare undo seen dbef drec ptx plen ppos pcnt cmds stE stF lch llen zo4.2 jd mm masd msav misS mpst mchg merr mfai zo8.2 minp minM mUp mcar mcam mahd magn mltr mbeg mcmd mcmM mpl msz mwr mlin mliM) := Eq.mp (congrArg (fun w => va_D A w) wLaw_SM) hD
  refine lv_iload hx hb dL_law_1901 (lv_at hl 1 rfl) ?_
  refine lv_icmp_eq (tgt := 1908) hx hb dL_law_1903 (by decide) (fun zc10 => ?_) (fun zc10 => ?_)
  · have hF := z_pos hF zc10
    refine lv_iload hx hb dL_law_1908 (lv_at hl 1 rfl) ?_
    refine lv_if_ne (tgt := 1925) hx hb dL_law_1910 (by decide) (fun zc11 => ?_) (fun zc11 => ?_)
    · have hF := z_neg hF zc11
      refine lv_goto (tgt := 2792) hx hb dL_law_1925 (by decide) ?_
      have ho := (Option.some.inj hF).symm
      subst ho
      refine W.widen (k := cells + 51) (n := slots + 306) (by omega) (by omega) ?_
      exact kj _ _ _ (lv_sub hl [2, 3, 4, 5, 6, 7] rfl) hP hD hS
    · have hF := z_pos hF zc11
      refine lv_aload_n hx hb dL_law_1913 rfl (lv_at hl 4 rfl) ?_
      refine lv_iconst (v := 0) hx hb dL_law_1914 (by decide) ?_
      refine va_lald hx hb hK hP 74 2 rfl rfl (by unfold vp_in; decide) dL_law_1915 ?_
      refine lv_iload hx hb dL_law_1916 (lv_at hl 0 rfl) ?_
      refine lv_i2l (v := (Int32.toInt64 zo8.1)) hx hb dL_law_1918 rfl ?_
      refine z_lcmp_eq (tgt := 1925) hx hb dL_law_1919 dL_law_1920 (by decide) (fun zc12 => ?_) (fun zc12 => ?_)
      · have hF := z_pos hF zc12
        refine lv_goto (tgt := 2792) hx hb dL_law_1925 (by decide) ?_
        have ho := (Option.some.inj hF).symm
        subst ho
        refine W.widen (k := cells + 51) (n := slots + 306) (by omega) (by omega) ?_
        exact kj _ _ _ (lv_sub hl [2, 3, 4, 5, 6, 7] rfl) hP hD hS
      · have hF := z_neg hF zc12
        refine lv_iconst (v := 0) hx hb dL_law_1923 (by decide) ?_
        exact absurd hF (by simp)
  · have hF := z_neg hF zc10
    refine lv_iconst (v := 0) hx hb dL_law_1906 (by decide) ?_
    exact absurd hF (by simp)
set_option maxHeartbeats 4000000 in
set_option maxRecDepth 100000 in
theorem k_law_1928 {p : Program} {e : Env} {s : State} {m : MethodId} {below : List Frame} {meth : Method} {c : Code} (l : Launch) (hl0 : l.stackTraces = false) {b L : Nat} {xs : Nat → Int32} (hx : p.tables.exec = Jvm.exec) (hb : c.code = cL_law) (hml : c.maxLocals = 9) (hown : s.vm.findClass RL = some m.cls) (hts : ∀ w ∈ wU, w.before #[Value.ref b] s = true) (hX : va_X b L xs s s.heap) (hbl : b < s.heap.size) {A : Nat → Prop} (hbA : ¬ A b) (hA : ∀ q, s.heap.size ≤ q → A q) (g : GG) (ad qd : Nat → Nat) (st : SS) (sv : SS) (isS : Int32) (hst : Nat → SS) (spare : Int32) (undo : Int32) (seen : Nat → Int32) (dbef : Int32) (drec : Int32) (ptx : Nat → Int32) (plen : Int32) (ppos : Int32) (pcnt : Int32) (cmds : Nat → CC) (stE : Int32) (stF : Int32) (lch : Nat → Int32) (llen : Int32) (jo : Nat → Int64) (jd : Nat → UInt64) (mm : Nat → Int64) (masd : Nat → Int64) (msav : Nat → Int64) (misS : Int32) (mpst : Nat → Int64) (mchg : Int32) (merr : Int32) (mfai : Int32) (mthr : Int32) (minp : Nat → Int32) (minM : Int32) (mUp : Nat → Int32) (mcar : Nat → Int32) (mcam : Nat → Int32) (mahd : Int32) (magn : Int32) (mltr : Nat → Int32) (mbeg : Nat → Int32) (mcmd : Nat → Int32) (mcmM : Int32) (mpl : Int32) (msz : Int32) (mwr : Int32) (mlin : Nat → Int32) (mliM : Int32) (hK : va_K (gD g) zCl (gT g) s) (hB : KB g A s s.heap) (fu : Nat) (i : Int32) (u : (Nat → Int32) × Int32 × Int32 × (Nat → Int64) × Int32 × (Nat → Int32) × Int32 × Int32) (hF : G_law_1928 fu seen dbef drec jo mthr mcam mahd magn L xs i = some u) {H : Heap} {locs : List Loc} {ls : Array Slot} {cells slots : Nat} (hc : cells + 51 ≤ 603072) (hsl : slots + 306 ≤ 7170153) (hl : lv_has ls 9 [(5, .int i), (4, .ref (ad 75)), (3, .ref (ad 74)), (2, .ref (qd 0)), (1, .ref (ad 0)), (0, .ref b)]) (hP : va_P (gD g) zCl (wLaw g ad qd st sv isS hst spare undo seen dbef drec ptx plen ppos pcnt cmds stE stF lch llen jo jd mm masd msav misS mpst mchg merr mfai mthr minp minM mUp mcar mcam mahd magn mltr mbeg mcmd mcmM mpl msz mwr mlin mliM) H) (hD : va_D A (wLaw g ad qd st sv isS hst spare undo seen dbef drec ptx plen ppos pcnt cmds stE stF lch llen jo jd mm masd msav misS mpst mchg merr mfai mthr minp minM mUp mcar mcam mahd magn mltr mbeg mcmd mcmM mpl msz mwr mlin mliM)) (hS : va_S A s.heap H locs)
    (kj : ∀ (H : Heap) (locs : List Loc) (ls : Array Slot), lv_has ls 9 [(5, .int i), (4, .ref (ad 75)), (3, .ref (ad 74)), (2, .ref (qd 0)), (1, .ref (ad 0)), (0, .ref b)] → va_P (gD g) zCl (wLaw g ad qd st sv isS hst spare undo u.1 u.2.1 u.2.2.1 ptx plen ppos pcnt cmds stE stF lch llen u.2.2.2.1 jd mm masd msav misS mpst mchg merr mfai u.2.2.2.2.1 minp minM mUp mcar u.2.2.2.2.2.1 u.2.2.2.2.2.2.1 u.2.2.2.2.2.2.2 mltr mbeg mcmd mcmM mpl msz mwr mlin mliM) H → va_D A (wLaw g ad qd st sv isS hst spare undo u.1 u.2.1 u.2.2.1 ptx plen ppos pcnt cmds stE stF lch llen u.2.2.2.1 jd mm masd msav misS mpst mchg merr mfai u.2.2.2.2.1 minp minM mUp mcar u.2.2.2.2.2.1 u.2.2.2.2.2.2.1 u.2.2.2.2.2.2.2 mltr mbeg mcmd mcmM mpl msz mwr mlin mliM) → va_S A s.heap H locs → W p l e room_1 s m #[Value.ref b] below meth c H locs (cells + 51) (slots + 306) (lw_Z below #[Value.ref b] s) (F0 m 2792 ls [])) : W p l e room_1 s m #[Value.ref b] below meth c H locs cells slots (lw_Z below #[Value.ref b] s) (F0 m 1928 ls []) := by
  have hc : cells + 51 ≤ room_1.cells := hc
  have hsl : slots + 306 ≤ room_1.slots := hsl
  unfold G_law_1928 at hF
  refine lv_aload_n hx hb dL_law_1928 rfl (lv_at hl 4 rfl) ?_
  refine lv_aload_n hx hb dL_law_1929 rfl (lv_at hl 5 rfl) ?_
  refine lv_iload hx hb dL_law_1930 (lv_at hl 0 rfl) ?_
  refine lv_iconst (v := 1) hx hb dL_law_1932 (by decide) ?_
  refine lv_iadd hx hb dL_law_1933 ?_
  obtain ⟨zg1, hF⟩ := z_grd hF
  refine va_sld hx hb hX hbl hbA hS zg1 dL_law_1934 ?_
  refine lv_aload_n hx hb dL_law_1935 rfl (lv_at hl 5 rfl) ?_
  refine lv_iload hx hb dL_law_1936 (lv_at hl 0 rfl) ?_
  refine lv_iconst (v := 2) hx hb dL_law_1938 (by decide) ?_
  refine lv_iadd hx hb dL_law_1939 ?_
  obtain ⟨zg2, hF⟩ := z_grd hF
  refine va_sld hx hb hX hbl hbA hS zg2 dL_law_1940 ?_
  refine lv_aload_n hx hb dL_law_1941 rfl (lv_at hl 2 rfl) ?_
  obtain ⟨zo3, hzo3, hF⟩ := z_bind hF
  refine z_calli (fun (u : (Nat → Int32) × Int32 × Int32 × (Nat → Int64)) => (wRootJ g ad st sv isS hst spare undo u.1 u.2.1 u.2.2.1 ptx plen ppos pcnt cmds stE stF lch llen u.2.2.2)) zLJ (vx_runSW (As := [.ref (ad 0), .int (xs (Int32.toNatClampNeg (i + 1))), .int (xs (Int32.toNatClampNeg (i + 2))), .ref (ad 74)]) (rest := []) ⟨hx, hb, hml, hown, hts⟩ (c_L_preperiod l hl0 g ad st sv isS hst spare undo seen dbef drec ptx plen ppos pcnt cmds stE stF lch llen jo _ (xs (Int32.toNatClampNeg (i + 1))) (xs (Int32.toNatClampNeg (i + 2))) fu _ hzo3) (vx_cwSW 4 hts (gdS mU_958 mU_959 mU_65 mU_960) rfl rfl rfl (by decide +kernel) ⟨Nat.le_of_ble_eq_true rfl, Nat.le_of_ble_eq_true rfl⟩) ⟨z_blind _ _ _ _, fun U hU hW => z_pre zLJ hP hD hK hB hS hA wLaw_CJ wLaw_NJ hU hW⟩ rfl rfl hl.1 rfl (lv_room (Nat.le_of_ble_eq_true rfl)) dL_law_1942 ⟨by omega, by omega⟩) hP hD hS hA wLaw_CJ (fun _ => rfl) (fun r u H locs hw hP hD hS => ?_)
  obtain ⟨rfl, rfl⟩ := hw
  have hP : va_P (gD g) zCl (wLaw g ad qd st sv isS hst spare undo zo3.2.1 zo3.2.2.1 zo3.2.2.2.1 ptx plen ppos pcnt cmds stE stF lch llen zo3.2.2.2.2 jd mm masd msav misS mpst mchg merr mfai mthr minp minM mUp mcar mcam mahd magn mltr mbeg mcmd mcmM mpl msz mwr mlin mliM) H := Eq.mp (congrArg (fun w => va_P (gD g) zCl w H) wLaw_SJ) hP
  have hD : va_D A (wLaw g ad qd st sv isS hst spare undo zo3.2.1 zo3.2.2.1 zo3.2.2.2.1 ptx plen ppos pcnt cmds stE stF lch llen zo3.2.2.2.2 jd mm masd msav misS mpst mchg merr mfai mthr minp minM mUp mcar mcam mahd magn mltr mbeg mcmd mcmM mpl msz mwr mlin mliM) := Eq.mp (congrArg (fun w => va_D A w) wLaw_SJ) hD
  refine lv_istore (lv' := [(6, .int zo3.1), (5, .int i), (4, .ref (ad 75)), (3, .ref (ad 74)), (2, .ref (qd 0)), (1, .ref (ad 0)), (0, .ref b)]) hx hb dL_law_1945 hl (by decide) rfl (fun ls hl => ?_)
  refine lv_aload_n hx hb dL_law_1947 rfl (lv_at hl 4 rfl) ?_
  refine lv_aload_n hx hb dL_law_1948 rfl (lv_at hl 6 rfl) ?_
  refine lv_iload hx hb dL_law_1949 (lv_at hl 1 rfl) ?_
  refine lv_iconst (v := 1) hx hb dL_law_1951 (by decide) ?_
  refine lv_iadd hx hb dL_law_1952 ?_
  obtain ⟨zg4, hF⟩ := z_grd hF
  refine va_sld hx hb hX hbl hbA hS zg4 dL_law_1953 ?_
  refine lv_aload_n hx hb dL_law_1954 rfl (lv_at hl 6 rfl) ?_
  refine lv_iload hx hb dL_law_1955 (lv_at hl 1 rfl) ?_
  refine lv_iconst (v := 2) hx hb dL_law_1957 (by decide) ?_
  refine lv_iadd hx hb dL_law_1958 ?_
  obtain ⟨zg5, hF⟩ := z_grd hF
  refine va_sld hx hb hX hbl hbA hS zg5 dL_law_1959 ?_
  obtain ⟨zo6, hzo6, hF⟩ := z_bind hF
  refine z_calli (fun (u : Int32 × (Nat → Int32) × Int32 × Int32) => (wModel g (qd 0) (qd 1) (qd 2) (qd 3) (qd 4) (qd 5) (qd 6) (qd 7) (qd 8) (qd 9) (qd 10) (qd 11) (qd 12) mm masd msav misS mpst mchg merr mfai u.1 minp minM mUp mcar u.2.1 u.2.2.1 u.2.2.2 mltr mbeg mcmd mcmM mpl msz mwr mlin mliM)) zLM (va_runV (As := [.int (xs (Int32.toNatClampNeg (i + 1))), .int (xs (Int32.toNatClampNeg (i + 2)))]) (rest := []) ⟨hx, hb, hml, hown, hts⟩ (c_X11_preperiod l g (qd 0) (qd 1) (qd 2) (qd 3) (qd 4) (qd 5) (qd 6) (qd 7) (qd 8) (qd 9) (qd 10) (qd 11) (qd 12) mm masd msav misS mpst mchg merr mfai mthr minp minM mUp mcar mcam mahd magn mltr mbeg mcmd mcmM mpl msz mwr mlin mliM _ (xs (Int32.toNatClampNeg (i + 1))) (xs (Int32.toNatClampNeg (i + 2))) fu _ hzo6) (cwV 2 hts (gdV mU_1561 mU_1562 mU_1563 mU_75 mU_1564) rfl rfl rfl (by decide +kernel) ⟨Nat.le_of_ble_eq_true rfl, Nat.le_of_ble_eq_true rfl⟩) ⟨z_blind _ _ _ _, va_recv hK hP (ci := 7) (q0 := 76) rfl rfl, fun U hU hW => z_pre zLM hP hD hK hB hS hA wLaw_CM wLaw_NM hU hW⟩ rfl rfl hl.1 rfl (lv_room (Nat.le_of_ble_eq_true rfl)) dL_law_1960 ⟨by omega, by omega⟩) hP hD hS hA wLaw_CM (fun _ => rfl) (fun r u H locs hw hP hD hS => ?_)
  obtain ⟨rfl, rfl⟩ := hw
  have hP : va_P (gD g) zCl (wLaw g ad qd st sv isS hst spare undo zo3.2.1 zo3.2.2.1 zo3.2.2.2.1 ptx plen ppos pcnt cmds stE stF lch llen zo3.2.2.2.2 jd mm masd msav misS mpst mchg merr mfai zo6.2.1 minp minM mUp mcar zo6.2.2.1 zo6.2.2.2.1 zo6.2.2.2.2 mltr mbeg mcmd mcmM mpl msz mwr mlin mliM) H := Eq.mp (congrArg (fun w => va_P (gD g) zCl w H) wLaw_SM) hP
  have hD : va_D A (wLaw g ad qd st sv isS hst spare undo zo3.2.1 zo3.2.2.1 zo3.2.2.2.1 ptx plen ppos pcnt cmds stE stF lch llen zo3.2.2.2.2 jd mm masd msav misS mpst mchg merr mfai zo6.2.1 minp minM mUp mcar zo6.2.2.1 zo6.2.2.2.1 zo6.2.2.2.2 mltr mbeg mcmd mcmM mpl msz mwr mlin mliM) := Eq.mp (congrArg (fun w => va_D A w) wLaw_SM) hD
  refine lv_istore (lv' := [(7, .int zo6.1), (6, .int zo3.1), (5, .int i), (4, .ref (ad 75)), (3, .ref (ad 74)), (2, .ref (qd 0)), (1, .ref (ad 0)), (0, .ref b)]) hx hb dL_law_1963 hl (by decide) rfl (fun ls hl => ?_)
  refine lv_aload_n hx hb dL_law_1965 rfl (lv_at hl 5 rfl) ?_
  obtain ⟨zo7, hzo7, hF⟩ := z_bind hF
  refine z_calli (fun (_ : Unit) => (wModel g (qd 0) (qd 1) (qd 2) (qd 3) (qd 4) (qd 5) (qd 6) (qd 7) (qd 8) (qd 9) (qd 10) (qd 11) (qd 12) mm masd msav misS mpst mchg merr mfai zo6.2.1 minp minM mUp mcar zo6.2.2.1 zo6.2.2.2.1 zo6.2.2.2.2 mltr mbeg mcmd mcmM mpl msz mwr mlin mliM)) zLM (va_runV (As := []) (rest := []) ⟨hx, hb, hml, hown, hts⟩ (c_X11_thrown l g (qd 0) (qd 1) (qd 2) (qd 3) (qd 4) (qd 5) (qd 6) (qd 7) (qd 8) (qd 9) (qd 10) (qd 11) (qd 12) mm masd msav misS mpst mchg merr mfai zo6.2.1 minp minM mUp mcar zo6.2.2.1 zo6.2.2.2.1 zo6.2.2.2.2 mltr mbeg mcmd mcmM mpl msz mwr mlin mliM _ _ hzo7) (cwV 0 hts (gdV mU_1321 mU_1322 mU_1323 mU_75 mU_1324) rfl rfl rfl (by decide +kernel) ⟨Nat.le_of_ble_eq_true rfl, Nat.le_of_ble_eq_true rfl⟩) ⟨z_blind _ _ _ _, va_recv hK hP (ci := 7) (q0 := 76) rfl rfl, fun U hU hW => z_pre zLM hP hD hK hB hS hA wLaw_CM wLaw_NM hU hW⟩ rfl rfl hl.1 rfl (lv_room (Nat.le_of_ble_eq_true rfl)) dL_law_1966 ⟨by omega, by omega⟩) hP hD hS hA wLaw_CM (fun _ => rfl) (fun r u H locs hw hP hD hS => ?_)
  subst hw
  have hP : va_P (gD g) zCl (wLaw g ad qd st sv isS hst spare undo zo3.2.1 zo3.2.2.1 zo3.2.2.2.1 ptx plen ppos pcnt cmds stE stF lch llen zo3.2.2.2.2 jd mm masd msav misS mpst mchg merr mfai zo6.2.1 minp minM mUp mcar zo6.2.2.1 zo6.2.2.2.1 zo6.2.2.2.2 mltr mbeg mcmd mcmM mpl msz mwr mlin mliM) H := Eq.mp (congrArg (fun w => va_P (gD g) zCl w H) wLaw_SM) hP
  have hD : va_D A (wLaw g ad qd st sv isS hst spare undo zo3.2.1 zo3.2.2.1 zo3.2.2.2.1 ptx plen ppos pcnt cmds stE stF lch llen zo3.2.2.2.2 jd mm masd msav misS mpst mchg merr mfai zo6.2.1 minp minM mUp mcar zo6.2.2.1 zo6.2.2.2.1 zo6.2.2.2.2 mltr mbeg mcmd mcmM mpl msz mwr mlin mliM) := Eq.mp (congrArg (fun w => va_D A w) wLaw_SM) hD
  refine lv_iload hx hb dL_law_1969 (lv_at hl 1 rfl) ?_
  refine lv_icmp_eq (tgt := 1976) hx hb dL_law_1971 (by decide) (fun zc8 => ?_) (fun zc8 => ?_)
  · have hF := z_pos hF zc8
    refine lv_iload hx hb dL_law_1976 (lv_at hl 1 rfl) ?_
    refine lv_if_ne (tgt := 1993) hx hb dL_law_1978 (by decide) (fun zc9 => ?_) (fun zc9 => ?_)
    · have hF := z_neg hF zc9
      refine lv_goto (tgt := 2792) hx hb dL_law_1993 (by decide) ?_
      have ho := (Option.some.inj hF).symm
      subst ho
      refine W.widen (k := cells + 51) (n := slots + 306) (by omega) (by omega) ?_
      exact kj _ _ _ (lv_sub hl [2, 3, 4, 5, 6, 7] rfl) hP hD hS
    · have hF := z_pos hF zc9
      refine lv_aload_n hx hb dL_law_1981 rfl (lv_at hl 4 rfl) ?_
      refine lv_iconst (v := 0) hx hb dL_law_1982 (by decide) ?_
      refine va_lald hx hb hK hP 74 2 rfl rfl (by unfold vp_in; decide) dL_law_1983 ?_
      refine lv_iload hx hb dL_law_1984 (lv_at hl 0 rfl) ?_
      refine lv_i2l (v := (Int32.toInt64 zo6.1)) hx hb dL_law_1986 rfl ?_
      refine z_lcmp_eq (tgt := 1993) hx hb dL_law_1987 dL_law_1988 (by decide) (fun zc10 => ?_) (fun zc10 => ?_)
      · have hF := z_pos hF zc10
        refine lv_goto (tgt := 2792) hx hb dL_law_1993 (by decide) ?_
        have ho := (Option.some.inj hF).symm
        subst ho
        refine W.widen (k := cells + 51) (n := slots + 306) (by omega) (by omega) ?_
        exact kj _ _ _ (lv_sub hl [2, 3, 4, 5, 6, 7] rfl) hP hD hS
      · have hF := z_neg hF zc10
        refine lv_iconst (v := 0) hx hb dL_law_1991 (by decide) ?_
        exact absurd hF (by simp)
  · have hF := z_neg hF zc8
    refine lv_iconst (v := 0) hx hb dL_law_1974 (by decide) ?_
    exact absurd hF (by simp)
set_option maxHeartbeats 4000000 in
set_option maxRecDepth 100000 in
theorem k_law_1996 {p : Program} {e : Env} {s : State} {m : MethodId} {below : List Frame} {meth : Method} {c : Code} (l : Launch) (hl0 : l.stackTraces = false) {b L : Nat} {xs : Nat → Int32} (hx : p.tables.exec = Jvm.exec) (hb : c.code = cL_law) (hml : c.maxLocals = 9) (hown : s.vm.findClass RL = some m.cls) (hts : ∀ w ∈ wU, w.before #[Value.ref b] s = true) (hX : va_X b L xs s s.heap) (hbl : b < s.heap.size) {A : Nat → Prop} (hbA : ¬ A b) (hA : ∀ q, s.heap.size ≤ q → A q) (g : GG) (ad qd : Nat → Nat) (st : SS) (sv : SS) (isS : Int32) (hst : Nat → SS) (spare : Int32) (undo : Int32) (seen : Nat → Int32) (dbef : Int32) (drec : Int32) (ptx : Nat → Int32) (plen : Int32) (ppos : Int32) (pcnt : Int32) (cmds : Nat → CC) (stE : Int32) (stF : Int32) (lch : Nat → Int32) (llen : Int32) (jo : Nat → Int64) (jd : Nat → UInt64) (mm : Nat → Int64) (masd : Nat → Int64) (msav : Nat → Int64) (misS : Int32) (mpst : Nat → Int64) (mchg : Int32) (merr : Int32) (mfai : Int32) (mthr : Int32) (minp : Nat → Int32) (minM : Int32) (mUp : Nat → Int32) (mcar : Nat → Int32) (mcam : Nat → Int32) (mahd : Int32) (magn : Int32) (mltr : Nat → Int32) (mbeg : Nat → Int32) (mcmd : Nat → Int32) (mcmM : Int32) (mpl : Int32) (msz : Int32) (mwr : Int32) (mlin : Nat → Int32) (mliM : Int32) (hK : va_K (gD g) zCl (gT g) s) (hB : KB g A s s.heap) (fu : Nat) (i : Int32) (u : (Nat → Int32) × Int32 × Int32 × (Nat → Int64) × Int32 × (Nat → Int32) × Int32 × Int32) (hF : G_law_1996 fu seen dbef drec jo mthr mcam mahd magn L xs i = some u) {H : Heap} {locs : List Loc} {ls : Array Slot} {cells slots : Nat} (hc : cells + 51 ≤ 603072) (hsl : slots + 306 ≤ 7170153) (hl : lv_has ls 9 [(5, .int i), (4, .ref (ad 75)), (3, .ref (ad 74)), (2, .ref (qd 0)), (1, .ref (ad 0)), (0, .ref b)]) (hP : va_P (gD g) zCl (wLaw g ad qd st sv isS hst spare undo seen dbef drec ptx plen ppos pcnt cmds stE stF lch llen jo jd mm masd msav misS mpst mchg merr mfai mthr minp minM mUp mcar mcam mahd magn mltr mbeg mcmd mcmM mpl msz mwr mlin mliM) H) (hD : va_D A (wLaw g ad qd st sv isS hst spare undo seen dbef drec ptx plen ppos pcnt cmds stE stF lch llen jo jd mm masd msav misS mpst mchg merr mfai mthr minp minM mUp mcar mcam mahd magn mltr mbeg mcmd mcmM mpl msz mwr mlin mliM)) (hS : va_S A s.heap H locs)
    (kj : ∀ (H : Heap) (locs : List Loc) (ls : Array Slot), lv_has ls 9 [(5, .int i), (4, .ref (ad 75)), (3, .ref (ad 74)), (2, .ref (qd 0)), (1, .ref (ad 0)), (0, .ref b)] → va_P (gD g) zCl (wLaw g ad qd st sv isS hst spare undo u.1 u.2.1 u.2.2.1 ptx plen ppos pcnt cmds stE stF lch llen u.2.2.2.1 jd mm masd msav misS mpst mchg merr mfai u.2.2.2.2.1 minp minM mUp mcar u.2.2.2.2.2.1 u.2.2.2.2.2.2.1 u.2.2.2.2.2.2.2 mltr mbeg mcmd mcmM mpl msz mwr mlin mliM) H → va_D A (wLaw g ad qd st sv isS hst spare undo u.1 u.2.1 u.2.2.1 ptx plen ppos pcnt cmds stE stF lch llen u.2.2.2.1 jd mm masd msav misS mpst mchg merr mfai u.2.2.2.2.1 minp minM mUp mcar u.2.2.2.2.2.1 u.2.2.2.2.2.2.1 u.2.2.2.2.2.2.2 mltr mbeg mcmd mcmM mpl msz mwr mlin mliM) → va_S A s.heap H locs → W p l e room_1 s m #[Value.ref b] below meth c H locs (cells + 51) (slots + 306) (lw_Z below #[Value.ref b] s) (F0 m 2792 ls [])) : W p l e room_1 s m #[Value.ref b] below meth c H locs cells slots (lw_Z below #[Value.ref b] s) (F0 m 1996 ls []) := by
  have hc : cells + 51 ≤ room_1.cells := hc
  have hsl : slots + 306 ≤ room_1.slots := hsl
  unfold G_law_1996 at hF
  refine lv_aload_n hx hb dL_law_1996 rfl (lv_at hl 4 rfl) ?_
  refine lv_aload_n hx hb dL_law_1997 rfl (lv_at hl 5 rfl) ?_
  refine lv_iload hx hb dL_law_1998 (lv_at hl 0 rfl) ?_
  refine lv_iconst (v := 1) hx hb dL_law_2000 (by decide) ?_
  refine lv_iadd hx hb dL_law_2001 ?_
  obtain ⟨zg1, hF⟩ := z_grd hF
  refine va_sld hx hb hX hbl hbA hS zg1 dL_law_2002 ?_
  refine lv_aload_n hx hb dL_law_2003 rfl (lv_at hl 5 rfl) ?_
  refine lv_iload hx hb dL_law_2004 (lv_at hl 0 rfl) ?_
  refine lv_iconst (v := 2) hx hb dL_law_2006 (by decide) ?_
  refine lv_iadd hx hb dL_law_2007 ?_
  obtain ⟨zg2, hF⟩ := z_grd hF
  refine va_sld hx hb hX hbl hbA hS zg2 dL_law_2008 ?_
  refine lv_aload_n hx hb dL_law_2009 rfl (lv_at hl 2 rfl) ?_
  obtain ⟨zo3, hzo3, hF⟩ := z_bind hF
  refine z_calli (fun (u : (Nat → Int32) × Int32 × Int32 × (Nat → Int64)) => (wRootJ g ad st sv isS hst spare undo u.1 u.2.1 u.2.2.1 ptx plen ppos pcnt cmds stE stF lch llen u.2.2.2)) zLJ (vx_runSW (As := [.ref (ad 0), .int (xs (Int32.toNatClampNeg (i + 1))), .int (xs (Int32.toNatClampNeg (i + 2))), .ref (ad 74)]) (rest := []) ⟨hx, hb, hml, hown, hts⟩ (c_L_period l hl0 g ad st sv isS hst spare undo seen dbef drec ptx plen ppos pcnt cmds stE stF lch llen jo _ (xs (Int32.toNatClampNeg (i + 1))) (xs (Int32.toNatClampNeg (i + 2))) fu _ hzo3) (vx_cwSW 4 hts (gdS mU_972 mU_973 mU_65 mU_974) rfl rfl rfl (by decide +kernel) ⟨Nat.le_of_ble_eq_true rfl, Nat.le_of_ble_eq_true rfl⟩) ⟨z_blind _ _ _ _, fun U hU hW => z_pre zLJ hP hD hK hB hS hA wLaw_CJ wLaw_NJ hU hW⟩ rfl rfl hl.1 rfl (lv_room (Nat.le_of_ble_eq_true rfl)) dL_law_2010 ⟨by omega, by omega⟩) hP hD hS hA wLaw_CJ (fun _ => rfl) (fun r u H locs hw hP hD hS => ?_)
  obtain ⟨rfl, rfl⟩ := hw
  have hP : va_P (gD g) zCl (wLaw g ad qd st sv isS hst spare undo zo3.2.1 zo3.2.2.1 zo3.2.2.2.1 ptx plen ppos pcnt cmds stE stF lch llen zo3.2.2.2.2 jd mm masd msav misS mpst mchg merr mfai mthr minp minM mUp mcar mcam mahd magn mltr mbeg mcmd mcmM mpl msz mwr mlin mliM) H := Eq.mp (congrArg (fun w => va_P (gD g) zCl w H) wLaw_SJ) hP
  have hD : va_D A (wLaw g ad qd st sv isS hst spare undo zo3.2.1 zo3.2.2.1 zo3.2.2.2.1 ptx plen ppos pcnt cmds stE stF lch llen zo3.2.2.2.2 jd mm masd msav misS mpst mchg merr mfai mthr minp minM mUp mcar mcam mahd magn mltr mbeg mcmd mcmM mpl msz mwr mlin mliM) := Eq.mp (congrArg (fun w => va_D A w) wLaw_SJ) hD
  refine lv_istore (lv' := [(6, .int zo3.1), (5, .int i), (4, .ref (ad 75)), (3, .ref (ad 74)), (2, .ref (qd 0)), (1, .ref (ad 0)), (0, .ref b)]) hx hb dL_law_2013 hl (by decide) rfl (fun ls hl => ?_)
  refine lv_aload_n hx hb dL_law_2015 rfl (lv_at hl 4 rfl) ?_
  refine lv_aload_n hx hb dL_law_2016 rfl (lv_at hl 6 rfl) ?_
  refine lv_iload hx hb dL_law_2017 (lv_at hl 1 rfl) ?_
  refine lv_iconst (v := 1) hx hb dL_law_2019 (by decide) ?_
  refine lv_iadd hx hb dL_law_2020 ?_
  obtain ⟨zg4, hF⟩ := z_grd hF
  refine va_sld hx hb hX hbl hbA hS zg4 dL_law_2021 ?_
  refine lv_aload_n hx hb dL_law_2022 rfl (lv_at hl 6 rfl) ?_
  refine lv_iload hx hb dL_law_2023 (lv_at hl 1 rfl) ?_
  refine lv_iconst (v := 2) hx hb dL_law_2025 (by decide) ?_
  refine lv_iadd hx hb dL_law_2026 ?_
  obtain ⟨zg5, hF⟩ := z_grd hF
  refine va_sld hx hb hX hbl hbA hS zg5 dL_law_2027 ?_
  obtain ⟨zo6, hzo6, hF⟩ := z_bind hF
  refine z_calli (fun (u : Int32 × (Nat → Int32) × Int32 × Int32) => (wModel g (qd 0) (qd 1) (qd 2) (qd 3) (qd 4) (qd 5) (qd 6) (qd 7) (qd 8) (qd 9) (qd 10) (qd 11) (qd 12) mm masd msav misS mpst mchg merr mfai u.1 minp minM mUp mcar u.2.1 u.2.2.1 u.2.2.2 mltr mbeg mcmd mcmM mpl msz mwr mlin mliM)) zLM (va_runV (As := [.int (xs (Int32.toNatClampNeg (i + 1))), .int (xs (Int32.toNatClampNeg (i + 2)))]) (rest := []) ⟨hx, hb, hml, hown, hts⟩ (c_X11_period l g (qd 0) (qd 1) (qd 2) (qd 3) (qd 4) (qd 5) (qd 6) (qd 7) (qd 8) (qd 9) (qd 10) (qd 11) (qd 12) mm masd msav misS mpst mchg merr mfai mthr minp minM mUp mcar mcam mahd magn mltr mbeg mcmd mcmM mpl msz mwr mlin mliM _ (xs (Int32.toNatClampNeg (i + 1))) (xs (Int32.toNatClampNeg (i + 2))) fu _ hzo6) (cwV 2 hts (gdV mU_1569 mU_1570 mU_1571 mU_75 mU_1572) rfl rfl rfl (by decide +kernel) ⟨Nat.le_of_ble_eq_true rfl, Nat.le_of_ble_eq_true rfl⟩) ⟨z_blind _ _ _ _, va_recv hK hP (ci := 7) (q0 := 76) rfl rfl, fun U hU hW => z_pre zLM hP hD hK hB hS hA wLaw_CM wLaw_NM hU hW⟩ rfl rfl hl.1 rfl (lv_room (Nat.le_of_ble_eq_true rfl)) dL_law_2028 ⟨by omega, by omega⟩) hP hD hS hA wLaw_CM (fun _ => rfl) (fun r u H locs hw hP hD hS => ?_)
  obtain ⟨rfl, rfl⟩ := hw
  have hP : va_P (gD g) zCl (wLaw g ad qd st sv isS hst spare undo zo3.2.1 zo3.2.2.1 zo3.2.2.2.1 ptx plen ppos pcnt cmds stE stF lch llen zo3.2.2.2.2 jd mm masd msav misS mpst mchg merr mfai zo6.2.1 minp minM mUp mcar zo6.2.2.1 zo6.2.2.2.1 zo6.2.2.2.2 mltr mbeg mcmd mcmM mpl msz mwr mlin mliM) H := Eq.mp (congrArg (fun w => va_P (gD g) zCl w H) wLaw_SM) hP
  have hD : va_D A (wLaw g ad qd st sv isS hst spare undo zo3.2.1 zo3.2.2.1 zo3.2.2.2.1 ptx plen ppos pcnt cmds stE stF lch llen zo3.2.2.2.2 jd mm masd msav misS mpst mchg merr mfai zo6.2.1 minp minM mUp mcar zo6.2.2.1 zo6.2.2.2.1 zo6.2.2.2.2 mltr mbeg mcmd mcmM mpl msz mwr mlin mliM) := Eq.mp (congrArg (fun w => va_D A w) wLaw_SM) hD
  refine lv_istore (lv' := [(7, .int zo6.1), (6, .int zo3.1), (5, .int i), (4, .ref (ad 75)), (3, .ref (ad 74)), (2, .ref (qd 0)), (1, .ref (ad 0)), (0, .ref b)]) hx hb dL_law_2031 hl (by decide) rfl (fun ls hl => ?_)
  refine lv_aload_n hx hb dL_law_2033 rfl (lv_at hl 5 rfl) ?_
  obtain ⟨zo7, hzo7, hF⟩ := z_bind hF
  refine z_calli (fun (_ : Unit) => (wModel g (qd 0) (qd 1) (qd 2) (qd 3) (qd 4) (qd 5) (qd 6) (qd 7) (qd 8) (qd 9) (qd 10) (qd 11) (qd 12) mm masd msav misS mpst mchg merr mfai zo6.2.1 minp minM mUp mcar zo6.2.2.1 zo6.2.2.2.1 zo6.2.2.2.2 mltr mbeg mcmd mcmM mpl msz mwr mlin mliM)) zLM (va_runV (As := []) (rest := []) ⟨hx, hb, hml, hown, hts⟩ (c_X11_thrown l g (qd 0) (qd 1) (qd 2) (qd 3) (qd 4) (qd 5) (qd 6) (qd 7) (qd 8) (qd 9) (qd 10) (qd 11) (qd 12) mm masd msav misS mpst mchg merr mfai zo6.2.1 minp minM mUp mcar zo6.2.2.1 zo6.2.2.2.1 zo6.2.2.2.2 mltr mbeg mcmd mcmM mpl msz mwr mlin mliM _ _ hzo7) (cwV 0 hts (gdV mU_1321 mU_1322 mU_1323 mU_75 mU_1324) rfl rfl rfl (by decide +kernel) ⟨Nat.le_of_ble_eq_true rfl, Nat.le_of_ble_eq_true rfl⟩) ⟨z_blind _ _ _ _, va_recv hK hP (ci := 7) (q0 := 76) rfl rfl, fun U hU hW => z_pre zLM hP hD hK hB hS hA wLaw_CM wLaw_NM hU hW⟩ rfl rfl hl.1 rfl (lv_room (Nat.le_of_ble_eq_true rfl)) dL_law_2034 ⟨by omega, by omega⟩) hP hD hS hA wLaw_CM (fun _ => rfl) (fun r u H locs hw hP hD hS => ?_)
  subst hw
  have hP : va_P (gD g) zCl (wLaw g ad qd st sv isS hst spare undo zo3.2.1 zo3.2.2.1 zo3.2.2.2.1 ptx plen ppos pcnt cmds stE stF lch llen zo3.2.2.2.2 jd mm masd msav misS mpst mchg merr mfai zo6.2.1 minp minM mUp mcar zo6.2.2.1 zo6.2.2.2.1 zo6.2.2.2.2 mltr mbeg mcmd mcmM mpl msz mwr mlin mliM) H := Eq.mp (congrArg (fun w => va_P (gD g) zCl w H) wLaw_SM) hP
  have hD : va_D A (wLaw g ad qd st sv isS hst spare undo zo3.2.1 zo3.2.2.1 zo3.2.2.2.1 ptx plen ppos pcnt cmds stE stF lch llen zo3.2.2.2.2 jd mm masd msav misS mpst mchg merr mfai zo6.2.1 minp minM mUp mcar zo6.2.2.1 zo6.2.2.2.1 zo6.2.2.2.2 mltr mbeg mcmd mcmM mpl msz mwr mlin mliM) := Eq.mp (congrArg (fun w => va_D A w) wLaw_SM) hD
  refine lv_iload hx hb dL_law_2037 (lv_at hl 1 rfl) ?_
  refine lv_icmp_eq (tgt := 2044) hx hb dL_law_2039 (by decide) (fun zc8 => ?_) (fun zc8 => ?_)
  · have hF := z_pos hF zc8
    refine lv_iload hx hb dL_law_2044 (lv_at hl 1 rfl) ?_
    refine lv_if_ne (tgt := 2061) hx hb dL_law_2046 (by decide) (fun zc9 => ?_) (fun zc9 => ?_)
    · have hF := z_neg hF zc9
      refine lv_goto (tgt := 2792) hx hb dL_law_2061 (by decide) ?_
      have ho := (Option.some.inj hF).symm
      subst ho
      refine W.widen (k := cells + 51) (n := slots + 306) (by omega) (by omega) ?_
      exact kj _ _ _ (lv_sub hl [2, 3, 4, 5, 6, 7] rfl) hP hD hS
    · have hF := z_pos hF zc9
      refine lv_aload_n hx hb dL_law_2049 rfl (lv_at hl 4 rfl) ?_
      refine lv_iconst (v := 0) hx hb dL_law_2050 (by decide) ?_
      refine va_lald hx hb hK hP 74 2 rfl rfl (by unfold vp_in; decide) dL_law_2051 ?_
      refine lv_iload hx hb dL_law_2052 (lv_at hl 0 rfl) ?_
      refine lv_i2l (v := (Int32.toInt64 zo6.1)) hx hb dL_law_2054 rfl ?_
      refine z_lcmp_eq (tgt := 2061) hx hb dL_law_2055 dL_law_2056 (by decide) (fun zc10 => ?_) (fun zc10 => ?_)
      · have hF := z_pos hF zc10
        refine lv_goto (tgt := 2792) hx hb dL_law_2061 (by decide) ?_
        have ho := (Option.some.inj hF).symm
        subst ho
        refine W.widen (k := cells + 51) (n := slots + 306) (by omega) (by omega) ?_
        exact kj _ _ _ (lv_sub hl [2, 3, 4, 5, 6, 7] rfl) hP hD hS
      · have hF := z_neg hF zc10
        refine lv_iconst (v := 0) hx hb dL_law_2059 (by decide) ?_
        exact absurd hF (by simp)
  · have hF := z_neg hF zc8
    refine lv_iconst (v := 0) hx hb dL_law_2042 (by decide) ?_
    exact absurd hF (by simp)
