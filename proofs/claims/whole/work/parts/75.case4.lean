set_option maxHeartbeats 4000000 in
set_option maxRecDepth 100000 in
theorem k_law_2401 {p : Program} {e : Env} {s : State} {m : MethodId} {below : List Frame} {meth : Method} {c : Code} (l : Launch) (hl0 : l.stackTraces = false) {b L : Nat} {xs : Nat → Int32} (hx : p.tables.exec = Jvm.exec) (hb : c.code = cL_law) (hml : c.maxLocals = 9) (hown : s.vm.findClass RL = some m.cls) (hts : ∀ w ∈ wU, w.before #[Value.ref b] s = true) (hX : va_X b L xs s s.heap) (hbl : b < s.heap.size) {A : Nat → Prop} (hbA : ¬ A b) (hA : ∀ q, s.heap.size ≤ q → A q) (g : GG) (ad qd : Nat → Nat) (st : SS) (sv : SS) (isS : Int32) (hst : Nat → SS) (spare : Int32) (undo : Int32) (seen : Nat → Int32) (dbef : Int32) (drec : Int32) (ptx : Nat → Int32) (plen : Int32) (ppos : Int32) (pcnt : Int32) (cmds : Nat → CC) (stE : Int32) (stF : Int32) (lch : Nat → Int32) (llen : Int32) (jo : Nat → Int64) (jd : Nat → UInt64) (mm : Nat → Int64) (masd : Nat → Int64) (msav : Nat → Int64) (misS : Int32) (mpst : Nat → Int64) (mchg : Int32) (merr : Int32) (mfai : Int32) (mthr : Int32) (minp : Nat → Int32) (minM : Int32) (mUp : Nat → Int32) (mcar : Nat → Int32) (mcam : Nat → Int32) (mahd : Int32) (magn : Int32) (mltr : Nat → Int32) (mbeg : Nat → Int32) (mcmd : Nat → Int32) (mcmM : Int32) (mpl : Int32) (msz : Int32) (mwr : Int32) (mlin : Nat → Int32) (mliM : Int32) (hK : va_K (gD g) zCl (gT g) s) (hB : KB g A s s.heap) (fu : Nat) (i : Int32) (u : SS × (Nat → SS) × Int32 × Int32 × Int32 × Int32 × Int32 × (Nat → CC) × Int32 × Int32 × (Nat → Int64) × (Nat → Int64) × (Nat → Int64) × (Nat → Int64) × Int32 × Int32 × Int32 × Int32 × Int32 × (Nat → Int32) × (Nat → Int32) × Int32 × Int32 × Int32 × Int32) (hF : G_law_2401 fu st hst spare undo ptx plen ppos pcnt cmds stE stF jo mm masd mpst mchg merr mfai mthr minp minM mUp mltr mbeg mcmd mcmM mpl msz mwr L xs i = some u) {H : Heap} {locs : List Loc} {ls : Array Slot} {cells slots : Nat} (hc : cells + 51 ≤ 603072) (hsl : slots + 306 ≤ 7170153) (hl : lv_has ls 9 [(5, .int i), (4, .ref (ad 75)), (3, .ref (ad 74)), (2, .ref (qd 0)), (1, .ref (ad 0)), (0, .ref b)]) (hP : va_P (gD g) zCl (wLaw g ad qd st sv isS hst spare undo seen dbef drec ptx plen ppos pcnt cmds stE stF lch llen jo jd mm masd msav misS mpst mchg merr mfai mthr minp minM mUp mcar mcam mahd magn mltr mbeg mcmd mcmM mpl msz mwr mlin mliM) H) (hD : va_D A (wLaw g ad qd st sv isS hst spare undo seen dbef drec ptx plen ppos pcnt cmds stE stF lch llen jo jd mm masd msav misS mpst mchg merr mfai mthr minp minM mUp mcar mcam mahd magn mltr mbeg mcmd mcmM mpl msz mwr mlin mliM)) (hS : va_S A s.heap H locs)
    (kj : ∀ (H : Heap) (locs : List Loc) (ls : Array Slot), lv_has ls 9 [(5, .int i), (4, .ref (ad 75)), (3, .ref (ad 74)), (2, .ref (qd 0)), (1, .ref (ad 0)), (0, .ref b)] → va_P (gD g) zCl (wLaw g ad qd u.1 sv isS u.2.1 u.2.2.1 u.2.2.2.1 seen dbef drec ptx u.2.2.2.2.1 u.2.2.2.2.2.1 u.2.2.2.2.2.2.1 u.2.2.2.2.2.2.2.1 u.2.2.2.2.2.2.2.2.1 u.2.2.2.2.2.2.2.2.2.1 lch llen u.2.2.2.2.2.2.2.2.2.2.1 jd u.2.2.2.2.2.2.2.2.2.2.2.1 u.2.2.2.2.2.2.2.2.2.2.2.2.1 msav misS u.2.2.2.2.2.2.2.2.2.2.2.2.2.1 u.2.2.2.2.2.2.2.2.2.2.2.2.2.2.1 u.2.2.2.2.2.2.2.2.2.2.2.2.2.2.2.1 u.2.2.2.2.2.2.2.2.2.2.2.2.2.2.2.2.1 u.2.2.2.2.2.2.2.2.2.2.2.2.2.2.2.2.2.1 minp u.2.2.2.2.2.2.2.2.2.2.2.2.2.2.2.2.2.2.1 u.2.2.2.2.2.2.2.2.2.2.2.2.2.2.2.2.2.2.2.1 mcar mcam mahd magn mltr mbeg u.2.2.2.2.2.2.2.2.2.2.2.2.2.2.2.2.2.2.2.2.1 u.2.2.2.2.2.2.2.2.2.2.2.2.2.2.2.2.2.2.2.2.2.1 u.2.2.2.2.2.2.2.2.2.2.2.2.2.2.2.2.2.2.2.2.2.2.1 u.2.2.2.2.2.2.2.2.2.2.2.2.2.2.2.2.2.2.2.2.2.2.2.1 u.2.2.2.2.2.2.2.2.2.2.2.2.2.2.2.2.2.2.2.2.2.2.2.2 mlin mliM) H → va_D A (wLaw g ad qd u.1 sv isS u.2.1 u.2.2.1 u.2.2.2.1 seen dbef drec ptx u.2.2.2.2.1 u.2.2.2.2.2.1 u.2.2.2.2.2.2.1 u.2.2.2.2.2.2.2.1 u.2.2.2.2.2.2.2.2.1 u.2.2.2.2.2.2.2.2.2.1 lch llen u.2.2.2.2.2.2.2.2.2.2.1 jd u.2.2.2.2.2.2.2.2.2.2.2.1 u.2.2.2.2.2.2.2.2.2.2.2.2.1 msav misS u.2.2.2.2.2.2.2.2.2.2.2.2.2.1 u.2.2.2.2.2.2.2.2.2.2.2.2.2.2.1 u.2.2.2.2.2.2.2.2.2.2.2.2.2.2.2.1 u.2.2.2.2.2.2.2.2.2.2.2.2.2.2.2.2.1 u.2.2.2.2.2.2.2.2.2.2.2.2.2.2.2.2.2.1 minp u.2.2.2.2.2.2.2.2.2.2.2.2.2.2.2.2.2.2.1 u.2.2.2.2.2.2.2.2.2.2.2.2.2.2.2.2.2.2.2.1 mcar mcam mahd magn mltr mbeg u.2.2.2.2.2.2.2.2.2.2.2.2.2.2.2.2.2.2.2.2.1 u.2.2.2.2.2.2.2.2.2.2.2.2.2.2.2.2.2.2.2.2.2.1 u.2.2.2.2.2.2.2.2.2.2.2.2.2.2.2.2.2.2.2.2.2.2.1 u.2.2.2.2.2.2.2.2.2.2.2.2.2.2.2.2.2.2.2.2.2.2.2.1 u.2.2.2.2.2.2.2.2.2.2.2.2.2.2.2.2.2.2.2.2.2.2.2.2 mlin mliM) → va_S A s.heap H locs → W p l e room_1 s m #[Value.ref b] below meth c H locs (cells + 51) (slots + 306) (lw_Z below #[Value.ref b] s) (F0 m 2792 ls [])) : W p l e room_1 s m #[Value.ref b] below meth c H locs cells slots (lw_Z below #[Value.ref b] s) (F0 m 2401 ls []) := by
  have hc : cells + 51 ≤ room_1.cells := hc
  have hsl : slots + 306 ≤ room_1.slots := hsl
  unfold G_law_2401 at hF
  refine lv_aload_n hx hb dL_law_2401 rfl (lv_at hl 4 rfl) ?_
  refine lv_aload_n hx hb dL_law_2402 rfl (lv_at hl 2 rfl) ?_
  obtain ⟨zo1, hzo1, hF⟩ := z_bind hF
  refine z_calli (fun (u : SS × (Nat → SS) × Int32 × Int32 × Int32 × Int32 × Int32 × (Nat → CC) × Int32 × Int32 × (Nat → Int64)) => (wRootJ g ad u.1 sv isS u.2.1 u.2.2.1 u.2.2.2.1 seen dbef drec ptx u.2.2.2.2.1 u.2.2.2.2.2.1 u.2.2.2.2.2.2.1 u.2.2.2.2.2.2.2.1 u.2.2.2.2.2.2.2.2.1 u.2.2.2.2.2.2.2.2.2.1 lch llen u.2.2.2.2.2.2.2.2.2.2)) zLJ (vx_runSW (As := [.ref (ad 0), .ref (ad 74)]) (rest := []) ⟨hx, hb, hml, hown, hts⟩ (c_L_run l hl0 g ad st sv isS hst spare undo seen dbef drec ptx plen ppos pcnt cmds stE stF lch llen jo _ fu _ hzo1) (vx_cwSW 2 hts (gdS mU_1047 mU_1048 mU_65 mU_1049) rfl rfl rfl (by decide +kernel) ⟨Nat.le_of_ble_eq_true rfl, Nat.le_of_ble_eq_true rfl⟩) ⟨z_blind _ _ _ _, fun U hU hW => z_pre zLJ hP hD hK hB hS hA wLaw_CJ wLaw_NJ hU hW⟩ rfl rfl hl.1 rfl (lv_room (Nat.le_of_ble_eq_true rfl)) dL_law_2403 ⟨by omega, by omega⟩) hP hD hS hA wLaw_CJ (fun _ => rfl) (fun r u H locs hw hP hD hS => ?_)
  obtain ⟨rfl, rfl⟩ := hw
  have hP : va_P (gD g) zCl (wLaw g ad qd zo1.2.1 sv isS zo1.2.2.1 zo1.2.2.2.1 zo1.2.2.2.2.1 seen dbef drec ptx zo1.2.2.2.2.2.1 zo1.2.2.2.2.2.2.1 zo1.2.2.2.2.2.2.2.1 zo1.2.2.2.2.2.2.2.2.1 zo1.2.2.2.2.2.2.2.2.2.1 zo1.2.2.2.2.2.2.2.2.2.2.1 lch llen zo1.2.2.2.2.2.2.2.2.2.2.2 jd mm masd msav misS mpst mchg merr mfai mthr minp minM mUp mcar mcam mahd magn mltr mbeg mcmd mcmM mpl msz mwr mlin mliM) H := Eq.mp (congrArg (fun w => va_P (gD g) zCl w H) wLaw_SJ) hP
  have hD : va_D A (wLaw g ad qd zo1.2.1 sv isS zo1.2.2.1 zo1.2.2.2.1 zo1.2.2.2.2.1 seen dbef drec ptx zo1.2.2.2.2.2.1 zo1.2.2.2.2.2.2.1 zo1.2.2.2.2.2.2.2.1 zo1.2.2.2.2.2.2.2.2.1 zo1.2.2.2.2.2.2.2.2.2.1 zo1.2.2.2.2.2.2.2.2.2.2.1 lch llen zo1.2.2.2.2.2.2.2.2.2.2.2 jd mm masd msav misS mpst mchg merr mfai mthr minp minM mUp mcar mcam mahd magn mltr mbeg mcmd mcmM mpl msz mwr mlin mliM) := Eq.mp (congrArg (fun w => va_D A w) wLaw_SJ) hD
  refine lv_istore (lv' := [(6, .int zo1.1), (5, .int i), (4, .ref (ad 75)), (3, .ref (ad 74)), (2, .ref (qd 0)), (1, .ref (ad 0)), (0, .ref b)]) hx hb dL_law_2406 hl (by decide) rfl (fun ls hl => ?_)
  refine lv_aload_n hx hb dL_law_2408 rfl (lv_at hl 4 rfl) ?_
  obtain ⟨zo2, hzo2, hF⟩ := z_bind hF
  refine z_calli (fun (u : (Nat → Int64) × (Nat → Int64) × (Nat → Int64) × Int32 × Int32 × Int32 × Int32 × Int32 × (Nat → Int32) × (Nat → Int32) × Int32 × Int32 × Int32 × Int32) => (wModel g (qd 0) (qd 1) (qd 2) (qd 3) (qd 4) (qd 5) (qd 6) (qd 7) (qd 8) (qd 9) (qd 10) (qd 11) (qd 12) u.1 u.2.1 msav misS u.2.2.1 u.2.2.2.1 u.2.2.2.2.1 u.2.2.2.2.2.1 u.2.2.2.2.2.2.1 minp u.2.2.2.2.2.2.2.1 u.2.2.2.2.2.2.2.2.1 mcar mcam mahd magn mltr mbeg u.2.2.2.2.2.2.2.2.2.1 u.2.2.2.2.2.2.2.2.2.2.1 u.2.2.2.2.2.2.2.2.2.2.2.1 u.2.2.2.2.2.2.2.2.2.2.2.2.1 u.2.2.2.2.2.2.2.2.2.2.2.2.2 mlin mliM)) zLM (va_runV (As := []) (rest := []) ⟨hx, hb, hml, hown, hts⟩ (c_X11_run l g (qd 0) (qd 1) (qd 2) (qd 3) (qd 4) (qd 5) (qd 6) (qd 7) (qd 8) (qd 9) (qd 10) (qd 11) (qd 12) mm masd msav misS mpst mchg merr mfai mthr minp minM mUp mcar mcam mahd magn mltr mbeg mcmd mcmM mpl msz mwr mlin mliM _ fu _ hzo2) (cwV 0 hts (gdV mU_1612 mU_1613 mU_1614 mU_75 mU_1615) rfl rfl rfl (by decide +kernel) ⟨Nat.le_of_ble_eq_true rfl, Nat.le_of_ble_eq_true rfl⟩) ⟨z_blind _ _ _ _, va_recv hK hP (ci := 7) (q0 := 76) rfl rfl, fun U hU hW => z_pre zLM hP hD hK hB hS hA wLaw_CM wLaw_NM hU hW⟩ rfl rfl hl.1 rfl (lv_room (Nat.le_of_ble_eq_true rfl)) dL_law_2409 ⟨by omega, by omega⟩) hP hD hS hA wLaw_CM (fun _ => rfl) (fun r u H locs hw hP hD hS => ?_)
  obtain ⟨rfl, rfl⟩ := hw
  have hP : va_P (gD g) zCl (wLaw g ad qd zo1.2.1 sv isS zo1.2.2.1 zo1.2.2.2.1 zo1.2.2.2.2.1 seen dbef drec ptx zo1.2.2.2.2.2.1 zo1.2.2.2.2.2.2.1 zo1.2.2.2.2.2.2.2.1 zo1.2.2.2.2.2.2.2.2.1 zo1.2.2.2.2.2.2.2.2.2.1 zo1.2.2.2.2.2.2.2.2.2.2.1 lch llen zo1.2.2.2.2.2.2.2.2.2.2.2 jd zo2.2.1 zo2.2.2.1 msav misS zo2.2.2.2.1 zo2.2.2.2.2.1 zo2.2.2.2.2.2.1 zo2.2.2.2.2.2.2.1 zo2.2.2.2.2.2.2.2.1 minp zo2.2.2.2.2.2.2.2.2.1 zo2.2.2.2.2.2.2.2.2.2.1 mcar mcam mahd magn mltr mbeg zo2.2.2.2.2.2.2.2.2.2.2.1 zo2.2.2.2.2.2.2.2.2.2.2.2.1 zo2.2.2.2.2.2.2.2.2.2.2.2.2.1 zo2.2.2.2.2.2.2.2.2.2.2.2.2.2.1 zo2.2.2.2.2.2.2.2.2.2.2.2.2.2.2 mlin mliM) H := Eq.mp (congrArg (fun w => va_P (gD g) zCl w H) wLaw_SM) hP
  have hD : va_D A (wLaw g ad qd zo1.2.1 sv isS zo1.2.2.1 zo1.2.2.2.1 zo1.2.2.2.2.1 seen dbef drec ptx zo1.2.2.2.2.2.1 zo1.2.2.2.2.2.2.1 zo1.2.2.2.2.2.2.2.1 zo1.2.2.2.2.2.2.2.2.1 zo1.2.2.2.2.2.2.2.2.2.1 zo1.2.2.2.2.2.2.2.2.2.2.1 lch llen zo1.2.2.2.2.2.2.2.2.2.2.2 jd zo2.2.1 zo2.2.2.1 msav misS zo2.2.2.2.1 zo2.2.2.2.2.1 zo2.2.2.2.2.2.1 zo2.2.2.2.2.2.2.1 zo2.2.2.2.2.2.2.2.1 minp zo2.2.2.2.2.2.2.2.2.1 zo2.2.2.2.2.2.2.2.2.2.1 mcar mcam mahd magn mltr mbeg zo2.2.2.2.2.2.2.2.2.2.2.1 zo2.2.2.2.2.2.2.2.2.2.2.2.1 zo2.2.2.2.2.2.2.2.2.2.2.2.2.1 zo2.2.2.2.2.2.2.2.2.2.2.2.2.2.1 zo2.2.2.2.2.2.2.2.2.2.2.2.2.2.2 mlin mliM) := Eq.mp (congrArg (fun w => va_D A w) wLaw_SM) hD
  refine lv_istore (lv' := [(7, .int zo2.1), (6, .int zo1.1), (5, .int i), (4, .ref (ad 75)), (3, .ref (ad 74)), (2, .ref (qd 0)), (1, .ref (ad 0)), (0, .ref b)]) hx hb dL_law_2412 hl (by decide) rfl (fun ls hl => ?_)
  refine lv_aload_n hx hb dL_law_2414 rfl (lv_at hl 5 rfl) ?_
  obtain ⟨zo3, hzo3, hF⟩ := z_bind hF
  refine z_calli (fun (_ : Unit) => (wModel g (qd 0) (qd 1) (qd 2) (qd 3) (qd 4) (qd 5) (qd 6) (qd 7) (qd 8) (qd 9) (qd 10) (qd 11) (qd 12) zo2.2.1 zo2.2.2.1 msav misS zo2.2.2.2.1 zo2.2.2.2.2.1 zo2.2.2.2.2.2.1 zo2.2.2.2.2.2.2.1 zo2.2.2.2.2.2.2.2.1 minp zo2.2.2.2.2.2.2.2.2.1 zo2.2.2.2.2.2.2.2.2.2.1 mcar mcam mahd magn mltr mbeg zo2.2.2.2.2.2.2.2.2.2.2.1 zo2.2.2.2.2.2.2.2.2.2.2.2.1 zo2.2.2.2.2.2.2.2.2.2.2.2.2.1 zo2.2.2.2.2.2.2.2.2.2.2.2.2.2.1 zo2.2.2.2.2.2.2.2.2.2.2.2.2.2.2 mlin mliM)) zLM (va_runV (As := []) (rest := []) ⟨hx, hb, hml, hown, hts⟩ (c_X11_thrown l g (qd 0) (qd 1) (qd 2) (qd 3) (qd 4) (qd 5) (qd 6) (qd 7) (qd 8) (qd 9) (qd 10) (qd 11) (qd 12) zo2.2.1 zo2.2.2.1 msav misS zo2.2.2.2.1 zo2.2.2.2.2.1 zo2.2.2.2.2.2.1 zo2.2.2.2.2.2.2.1 zo2.2.2.2.2.2.2.2.1 minp zo2.2.2.2.2.2.2.2.2.1 zo2.2.2.2.2.2.2.2.2.2.1 mcar mcam mahd magn mltr mbeg zo2.2.2.2.2.2.2.2.2.2.2.1 zo2.2.2.2.2.2.2.2.2.2.2.2.1 zo2.2.2.2.2.2.2.2.2.2.2.2.2.1 zo2.2.2.2.2.2.2.2.2.2.2.2.2.2.1 zo2.2.2.2.2.2.2.2.2.2.2.2.2.2.2 mlin mliM _ _ hzo3) (cwV 0 hts (gdV mU_1321 mU_1322 mU_1323 mU_75 mU_1324) rfl rfl rfl (by decide +kernel) ⟨Nat.le_of_ble_eq_true rfl, Nat.le_of_ble_eq_true rfl⟩) ⟨z_blind _ _ _ _, va_recv hK hP (ci := 7) (q0 := 76) rfl rfl, fun U hU hW => z_pre zLM hP hD hK hB hS hA wLaw_CM wLaw_NM hU hW⟩ rfl rfl hl.1 rfl (lv_room (Nat.le_of_ble_eq_true rfl)) dL_law_2415 ⟨by omega, by omega⟩) hP hD hS hA wLaw_CM (fun _ => rfl) (fun r u H locs hw hP hD hS => ?_)
  subst hw
  have hP : va_P (gD g) zCl (wLaw g ad qd zo1.2.1 sv isS zo1.2.2.1 zo1.2.2.2.1 zo1.2.2.2.2.1 seen dbef drec ptx zo1.2.2.2.2.2.1 zo1.2.2.2.2.2.2.1 zo1.2.2.2.2.2.2.2.1 zo1.2.2.2.2.2.2.2.2.1 zo1.2.2.2.2.2.2.2.2.2.1 zo1.2.2.2.2.2.2.2.2.2.2.1 lch llen zo1.2.2.2.2.2.2.2.2.2.2.2 jd zo2.2.1 zo2.2.2.1 msav misS zo2.2.2.2.1 zo2.2.2.2.2.1 zo2.2.2.2.2.2.1 zo2.2.2.2.2.2.2.1 zo2.2.2.2.2.2.2.2.1 minp zo2.2.2.2.2.2.2.2.2.1 zo2.2.2.2.2.2.2.2.2.2.1 mcar mcam mahd magn mltr mbeg zo2.2.2.2.2.2.2.2.2.2.2.1 zo2.2.2.2.2.2.2.2.2.2.2.2.1 zo2.2.2.2.2.2.2.2.2.2.2.2.2.1 zo2.2.2.2.2.2.2.2.2.2.2.2.2.2.1 zo2.2.2.2.2.2.2.2.2.2.2.2.2.2.2 mlin mliM) H := Eq.mp (congrArg (fun w => va_P (gD g) zCl w H) wLaw_SM) hP
  have hD : va_D A (wLaw g ad qd zo1.2.1 sv isS zo1.2.2.1 zo1.2.2.2.1 zo1.2.2.2.2.1 seen dbef drec ptx zo1.2.2.2.2.2.1 zo1.2.2.2.2.2.2.1 zo1.2.2.2.2.2.2.2.1 zo1.2.2.2.2.2.2.2.2.1 zo1.2.2.2.2.2.2.2.2.2.1 zo1.2.2.2.2.2.2.2.2.2.2.1 lch llen zo1.2.2.2.2.2.2.2.2.2.2.2 jd zo2.2.1 zo2.2.2.1 msav misS zo2.2.2.2.1 zo2.2.2.2.2.1 zo2.2.2.2.2.2.1 zo2.2.2.2.2.2.2.1 zo2.2.2.2.2.2.2.2.1 minp zo2.2.2.2.2.2.2.2.2.1 zo2.2.2.2.2.2.2.2.2.2.1 mcar mcam mahd magn mltr mbeg zo2.2.2.2.2.2.2.2.2.2.2.1 zo2.2.2.2.2.2.2.2.2.2.2.2.1 zo2.2.2.2.2.2.2.2.2.2.2.2.2.1 zo2.2.2.2.2.2.2.2.2.2.2.2.2.2.1 zo2.2.2.2.2.2.2.2.2.2.2.2.2.2.2 mlin mliM) := Eq.mp (congrArg (fun w => va_D A w) wLaw_SM) hD
  refine lv_iload hx hb dL_law_2418 (lv_at hl 1 rfl) ?_
  refine lv_icmp_eq (tgt := 2425) hx hb dL_law_2420 (by decide) (fun zc4 => ?_) (fun zc4 => ?_)
  · have hF := z_pos hF zc4
    refine lv_iload hx hb dL_law_2425 (lv_at hl 1 rfl) ?_
    refine lv_if_ne (tgt := 2442) hx hb dL_law_2427 (by decide) (fun zc5 => ?_) (fun zc5 => ?_)
    · have hF := z_neg hF zc5
      refine lv_goto (tgt := 2792) hx hb dL_law_2442 (by decide) ?_
      have ho := (Option.some.inj hF).symm
      subst ho
      refine W.widen (k := cells + 51) (n := slots + 306) (by omega) (by omega) ?_
      exact kj _ _ _ (lv_sub hl [2, 3, 4, 5, 6, 7] rfl) hP hD hS
    · have hF := z_pos hF zc5
      refine lv_aload_n hx hb dL_law_2430 rfl (lv_at hl 4 rfl) ?_
      refine lv_iconst (v := 0) hx hb dL_law_2431 (by decide) ?_
      refine va_lald hx hb hK hP 74 2 rfl rfl (by unfold vp_in; decide) dL_law_2432 ?_
      refine lv_iload hx hb dL_law_2433 (lv_at hl 0 rfl) ?_
      refine lv_i2l (v := (Int32.toInt64 zo2.1)) hx hb dL_law_2435 rfl ?_
      refine z_lcmp_eq (tgt := 2442) hx hb dL_law_2436 dL_law_2437 (by decide) (fun zc6 => ?_) (fun zc6 => ?_)
      · have hF := z_pos hF zc6
        refine lv_goto (tgt := 2792) hx hb dL_law_2442 (by decide) ?_
        have ho := (Option.some.inj hF).symm
        subst ho
        refine W.widen (k := cells + 51) (n := slots + 306) (by omega) (by omega) ?_
        exact kj _ _ _ (lv_sub hl [2, 3, 4, 5, 6, 7] rfl) hP hD hS
      · have hF := z_neg hF zc6
        refine lv_iconst (v := 0) hx hb dL_law_2440 (by decide) ?_
        exact absurd hF (by simp)
  · have hF := z_neg hF zc4
    refine lv_iconst (v := 0) hx hb dL_law_2423 (by decide) ?_
    exact absurd hF (by simp)
set_option maxHeartbeats 4000000 in
set_option maxRecDepth 100000 in
theorem k_law_2445 {p : Program} {e : Env} {s : State} {m : MethodId} {below : List Frame} {meth : Method} {c : Code} (l : Launch) (hl0 : l.stackTraces = false) {b L : Nat} {xs : Nat → Int32} (hx : p.tables.exec = Jvm.exec) (hb : c.code = cL_law) (hml : c.maxLocals = 9) (hown : s.vm.findClass RL = some m.cls) (hts : ∀ w ∈ wU, w.before #[Value.ref b] s = true) (hX : va_X b L xs s s.heap) (hbl : b < s.heap.size) {A : Nat → Prop} (hbA : ¬ A b) (hA : ∀ q, s.heap.size ≤ q → A q) (g : GG) (ad qd : Nat → Nat) (st : SS) (sv : SS) (isS : Int32) (hst : Nat → SS) (spare : Int32) (undo : Int32) (seen : Nat → Int32) (dbef : Int32) (drec : Int32) (ptx : Nat → Int32) (plen : Int32) (ppos : Int32) (pcnt : Int32) (cmds : Nat → CC) (stE : Int32) (stF : Int32) (lch : Nat → Int32) (llen : Int32) (jo : Nat → Int64) (jd : Nat → UInt64) (mm : Nat → Int64) (masd : Nat → Int64) (msav : Nat → Int64) (misS : Int32) (mpst : Nat → Int64) (mchg : Int32) (merr : Int32) (mfai : Int32) (mthr : Int32) (minp : Nat → Int32) (minM : Int32) (mUp : Nat → Int32) (mcar : Nat → Int32) (mcam : Nat → Int32) (mahd : Int32) (magn : Int32) (mltr : Nat → Int32) (mbeg : Nat → Int32) (mcmd : Nat → Int32) (mcmM : Int32) (mpl : Int32) (msz : Int32) (mwr : Int32) (mlin : Nat → Int32) (mliM : Int32) (hK : va_K (gD g) zCl (gT g) s) (hB : KB g A s s.heap) (i : Int32) (u : (Nat → Int64) × Int32) (hF : G_law_2445 stE jo merr mthr L xs i = some u) {H : Heap} {locs : List Loc} {ls : Array Slot} {cells slots : Nat} (hc : cells + 51 ≤ 603072) (hsl : slots + 306 ≤ 7170153) (hl : lv_has ls 9 [(5, .int i), (4, .ref (ad 75)), (3, .ref (ad 74)), (2, .ref (qd 0)), (1, .ref (ad 0)), (0, .ref b)]) (hP : va_P (gD g) zCl (wLaw g ad qd st sv isS hst spare undo seen dbef drec ptx plen ppos pcnt cmds stE stF lch llen jo jd mm masd msav misS mpst mchg merr mfai mthr minp minM mUp mcar mcam mahd magn mltr mbeg mcmd mcmM mpl msz mwr mlin mliM) H) (hD : va_D A (wLaw g ad qd st sv isS hst spare undo seen dbef drec ptx plen ppos pcnt cmds stE stF lch llen jo jd mm masd msav misS mpst mchg merr mfai mthr minp minM mUp mcar mcam mahd magn mltr mbeg mcmd mcmM mpl msz mwr mlin mliM)) (hS : va_S A s.heap H locs)
    (kj : ∀ (H : Heap) (locs : List Loc) (ls : Array Slot), lv_has ls 9 [(5, .int i), (4, .ref (ad 75)), (3, .ref (ad 74)), (2, .ref (qd 0)), (1, .ref (ad 0)), (0, .ref b)] → va_P (gD g) zCl (wLaw g ad qd st sv isS hst spare undo seen dbef drec ptx plen ppos pcnt cmds stE stF lch llen u.1 jd mm masd msav misS mpst mchg merr mfai u.2 minp minM mUp mcar mcam mahd magn mltr mbeg mcmd mcmM mpl msz mwr mlin mliM) H → va_D A (wLaw g ad qd st sv isS hst spare undo seen dbef drec ptx plen ppos pcnt cmds stE stF lch llen u.1 jd mm masd msav misS mpst mchg merr mfai u.2 minp minM mUp mcar mcam mahd magn mltr mbeg mcmd mcmM mpl msz mwr mlin mliM) → va_S A s.heap H locs → W p l e room_1 s m #[Value.ref b] below meth c H locs (cells + 51) (slots + 306) (lw_Z below #[Value.ref b] s) (F0 m 2792 ls [])) : W p l e room_1 s m #[Value.ref b] below meth c H locs cells slots (lw_Z below #[Value.ref b] s) (F0 m 2445 ls []) := by
  have hc : cells + 51 ≤ room_1.cells := hc
  have hsl : slots + 306 ≤ room_1.slots := hsl
  unfold G_law_2445 at hF
  refine lv_aload_n hx hb dL_law_2445 rfl (lv_at hl 4 rfl) ?_
  refine lv_aload_n hx hb dL_law_2446 rfl (lv_at hl 2 rfl) ?_
  obtain ⟨zo1, hzo1, hF⟩ := z_bind hF
  refine z_calli (fun (u : (Nat → Int64)) => (wRootJ g ad st sv isS hst spare undo seen dbef drec ptx plen ppos pcnt cmds stE stF lch llen u)) zLJ (vx_runSW (As := [.ref (ad 0), .ref (ad 74)]) (rest := []) ⟨hx, hb, hml, hown, hts⟩ (c_L_errorPosition l hl0 g ad st sv isS hst spare undo seen dbef drec ptx plen ppos pcnt cmds stE stF lch llen jo _ _ hzo1) (vx_cwSW 2 hts (gdS mU_1160 mU_1161 mU_65 mU_1162) rfl rfl rfl (by decide +kernel) ⟨Nat.le_of_ble_eq_true rfl, Nat.le_of_ble_eq_true rfl⟩) ⟨z_blind _ _ _ _, fun U hU hW => z_pre zLJ hP hD hK hB hS hA wLaw_CJ wLaw_NJ hU hW⟩ rfl rfl hl.1 rfl (lv_room (Nat.le_of_ble_eq_true rfl)) dL_law_2447 ⟨by omega, by omega⟩) hP hD hS hA wLaw_CJ (fun _ => rfl) (fun r u H locs hw hP hD hS => ?_)
  obtain ⟨rfl, rfl⟩ := hw
  have hP : va_P (gD g) zCl (wLaw g ad qd st sv isS hst spare undo seen dbef drec ptx plen ppos pcnt cmds stE stF lch llen zo1.2 jd mm masd msav misS mpst mchg merr mfai mthr minp minM mUp mcar mcam mahd magn mltr mbeg mcmd mcmM mpl msz mwr mlin mliM) H := Eq.mp (congrArg (fun w => va_P (gD g) zCl w H) wLaw_SJ) hP
  have hD : va_D A (wLaw g ad qd st sv isS hst spare undo seen dbef drec ptx plen ppos pcnt cmds stE stF lch llen zo1.2 jd mm masd msav misS mpst mchg merr mfai mthr minp minM mUp mcar mcam mahd magn mltr mbeg mcmd mcmM mpl msz mwr mlin mliM) := Eq.mp (congrArg (fun w => va_D A w) wLaw_SJ) hD
  refine lv_istore (lv' := [(6, .int zo1.1), (5, .int i), (4, .ref (ad 75)), (3, .ref (ad 74)), (2, .ref (qd 0)), (1, .ref (ad 0)), (0, .ref b)]) hx hb dL_law_2450 hl (by decide) rfl (fun ls hl => ?_)
  refine lv_aload_n hx hb dL_law_2452 rfl (lv_at hl 4 rfl) ?_
  obtain ⟨zo2, hzo2, hF⟩ := z_bind hF
  refine z_calli (fun (u : Int32) => (wModel g (qd 0) (qd 1) (qd 2) (qd 3) (qd 4) (qd 5) (qd 6) (qd 7) (qd 8) (qd 9) (qd 10) (qd 11) (qd 12) mm masd msav misS mpst mchg merr mfai u minp minM mUp mcar mcam mahd magn mltr mbeg mcmd mcmM mpl msz mwr mlin mliM)) zLM (va_runV (As := []) (rest := []) ⟨hx, hb, hml, hown, hts⟩ (c_X11_errorPosition l g (qd 0) (qd 1) (qd 2) (qd 3) (qd 4) (qd 5) (qd 6) (qd 7) (qd 8) (qd 9) (qd 10) (qd 11) (qd 12) mm masd msav misS mpst mchg merr mfai mthr minp minM mUp mcar mcam mahd magn mltr mbeg mcmd mcmM mpl msz mwr mlin mliM _ _ hzo2) (cwV 0 hts (gdV mU_1666 mU_1667 mU_1668 mU_75 mU_1669) rfl rfl rfl (by decide +kernel) ⟨Nat.le_of_ble_eq_true rfl, Nat.le_of_ble_eq_true rfl⟩) ⟨z_blind _ _ _ _, va_recv hK hP (ci := 7) (q0 := 76) rfl rfl, fun U hU hW => z_pre zLM hP hD hK hB hS hA wLaw_CM wLaw_NM hU hW⟩ rfl rfl hl.1 rfl (lv_room (Nat.le_of_ble_eq_true rfl)) dL_law_2453 ⟨by omega, by omega⟩) hP hD hS hA wLaw_CM (fun _ => rfl) (fun r u H locs hw hP hD hS => ?_)
  obtain ⟨rfl, rfl⟩ := hw
  have hP : va_P (gD g) zCl (wLaw g ad qd st sv isS hst spare undo seen dbef drec ptx plen ppos pcnt cmds stE stF lch llen zo1.2 jd mm masd msav misS mpst mchg merr mfai zo2.2 minp minM mUp mcar mcam mahd magn mltr mbeg mcmd mcmM mpl msz mwr mlin mliM) H := Eq.mp (congrArg (fun w => va_P (gD g) zCl w H) wLaw_SM) hP
  have hD : va_D A (wLaw g ad qd st sv isS hst spare undo seen dbef drec ptx plen ppos pcnt cmds stE stF lch llen zo1.2 jd mm masd msav misS mpst mchg merr mfai zo2.2 minp minM mUp mcar mcam mahd magn mltr mbeg mcmd mcmM mpl msz mwr mlin mliM) := Eq.mp (congrArg (fun w => va_D A w) wLaw_SM) hD
  refine lv_istore (lv' := [(7, .int zo2.1), (6, .int zo1.1), (5, .int i), (4, .ref (ad 75)), (3, .ref (ad 74)), (2, .ref (qd 0)), (1, .ref (ad 0)), (0, .ref b)]) hx hb dL_law_2456 hl (by decide) rfl (fun ls hl => ?_)
  refine lv_aload_n hx hb dL_law_2458 rfl (lv_at hl 5 rfl) ?_
  obtain ⟨zo3, hzo3, hF⟩ := z_bind hF
  refine z_calli (fun (_ : Unit) => (wModel g (qd 0) (qd 1) (qd 2) (qd 3) (qd 4) (qd 5) (qd 6) (qd 7) (qd 8) (qd 9) (qd 10) (qd 11) (qd 12) mm masd msav misS mpst mchg merr mfai zo2.2 minp minM mUp mcar mcam mahd magn mltr mbeg mcmd mcmM mpl msz mwr mlin mliM)) zLM (va_runV (As := []) (rest := []) ⟨hx, hb, hml, hown, hts⟩ (c_X11_thrown l g (qd 0) (qd 1) (qd 2) (qd 3) (qd 4) (qd 5) (qd 6) (qd 7) (qd 8) (qd 9) (qd 10) (qd 11) (qd 12) mm masd msav misS mpst mchg merr mfai zo2.2 minp minM mUp mcar mcam mahd magn mltr mbeg mcmd mcmM mpl msz mwr mlin mliM _ _ hzo3) (cwV 0 hts (gdV mU_1321 mU_1322 mU_1323 mU_75 mU_1324) rfl rfl rfl (by decide +kernel) ⟨Nat.le_of_ble_eq_true rfl, Nat.le_of_ble_eq_true rfl⟩) ⟨z_blind _ _ _ _, va_recv hK hP (ci := 7) (q0 := 76) rfl rfl, fun U hU hW => z_pre zLM hP hD hK hB hS hA wLaw_CM wLaw_NM hU hW⟩ rfl rfl hl.1 rfl (lv_room (Nat.le_of_ble_eq_true rfl)) dL_law_2459 ⟨by omega, by omega⟩) hP hD hS hA wLaw_CM (fun _ => rfl) (fun r u H locs hw hP hD hS => ?_)
  subst hw
  have hP : va_P (gD g) zCl (wLaw g ad qd st sv isS hst spare undo seen dbef drec ptx plen ppos pcnt cmds stE stF lch llen zo1.2 jd mm masd msav misS mpst mchg merr mfai zo2.2 minp minM mUp mcar mcam mahd magn mltr mbeg mcmd mcmM mpl msz mwr mlin mliM) H := Eq.mp (congrArg (fun w => va_P (gD g) zCl w H) wLaw_SM) hP
  have hD : va_D A (wLaw g ad qd st sv isS hst spare undo seen dbef drec ptx plen ppos pcnt cmds stE stF lch llen zo1.2 jd mm masd msav misS mpst mchg merr mfai zo2.2 minp minM mUp mcar mcam mahd magn mltr mbeg mcmd mcmM mpl msz mwr mlin mliM) := Eq.mp (congrArg (fun w => va_D A w) wLaw_SM) hD
  refine lv_iload hx hb dL_law_2462 (lv_at hl 1 rfl) ?_
  refine lv_icmp_eq (tgt := 2469) hx hb dL_law_2464 (by decide) (fun zc4 => ?_) (fun zc4 => ?_)
  · have hF := z_pos hF zc4
    refine lv_iload hx hb dL_law_2469 (lv_at hl 1 rfl) ?_
    refine lv_if_ne (tgt := 2486) hx hb dL_law_2471 (by decide) (fun zc5 => ?_) (fun zc5 => ?_)
    · have hF := z_neg hF zc5
      refine lv_goto (tgt := 2792) hx hb dL_law_2486 (by decide) ?_
      have ho := (Option.some.inj hF).symm
      subst ho
      refine W.widen (k := cells + 51) (n := slots + 306) (by omega) (by omega) ?_
      exact kj _ _ _ (lv_sub hl [2, 3, 4, 5, 6, 7] rfl) hP hD hS
    · have hF := z_pos hF zc5
      refine lv_aload_n hx hb dL_law_2474 rfl (lv_at hl 4 rfl) ?_
      refine lv_iconst (v := 0) hx hb dL_law_2475 (by decide) ?_
      refine va_lald hx hb hK hP 74 2 rfl rfl (by unfold vp_in; decide) dL_law_2476 ?_
      refine lv_iload hx hb dL_law_2477 (lv_at hl 0 rfl) ?_
      refine lv_i2l (v := (Int32.toInt64 zo2.1)) hx hb dL_law_2479 rfl ?_
      refine z_lcmp_eq (tgt := 2486) hx hb dL_law_2480 dL_law_2481 (by decide) (fun zc6 => ?_) (fun zc6 => ?_)
      · have hF := z_pos hF zc6
        refine lv_goto (tgt := 2792) hx hb dL_law_2486 (by decide) ?_
        have ho := (Option.some.inj hF).symm
        subst ho
        refine W.widen (k := cells + 51) (n := slots + 306) (by omega) (by omega) ?_
        exact kj _ _ _ (lv_sub hl [2, 3, 4, 5, 6, 7] rfl) hP hD hS
      · have hF := z_neg hF zc6
        refine lv_iconst (v := 0) hx hb dL_law_2484 (by decide) ?_
        exact absurd hF (by simp)
  · have hF := z_neg hF zc4
    refine lv_iconst (v := 0) hx hb dL_law_2467 (by decide) ?_
    exact absurd hF (by simp)
set_option maxHeartbeats 4000000 in
set_option maxRecDepth 100000 in
theorem k_law_2489 {p : Program} {e : Env} {s : State} {m : MethodId} {below : List Frame} {meth : Method} {c : Code} (l : Launch) (hl0 : l.stackTraces = false) {b L : Nat} {xs : Nat → Int32} (hx : p.tables.exec = Jvm.exec) (hb : c.code = cL_law) (hml : c.maxLocals = 9) (hown : s.vm.findClass RL = some m.cls) (hts : ∀ w ∈ wU, w.before #[Value.ref b] s = true) (hX : va_X b L xs s s.heap) (hbl : b < s.heap.size) {A : Nat → Prop} (hbA : ¬ A b) (hA : ∀ q, s.heap.size ≤ q → A q) (g : GG) (ad qd : Nat → Nat) (st : SS) (sv : SS) (isS : Int32) (hst : Nat → SS) (spare : Int32) (undo : Int32) (seen : Nat → Int32) (dbef : Int32) (drec : Int32) (ptx : Nat → Int32) (plen : Int32) (ppos : Int32) (pcnt : Int32) (cmds : Nat → CC) (stE : Int32) (stF : Int32) (lch : Nat → Int32) (llen : Int32) (jo : Nat → Int64) (jd : Nat → UInt64) (mm : Nat → Int64) (masd : Nat → Int64) (msav : Nat → Int64) (misS : Int32) (mpst : Nat → Int64) (mchg : Int32) (merr : Int32) (mfai : Int32) (mthr : Int32) (minp : Nat → Int32) (minM : Int32) (mUp : Nat → Int32) (mcar : Nat → Int32) (mcam : Nat → Int32) (mahd : Int32) (magn : Int32) (mltr : Nat → Int32) (mbeg : Nat → Int32) (mcmd : Nat → Int32) (mcmM : Int32) (mpl : Int32) (msz : Int32) (mwr : Int32) (mlin : Nat → Int32) (mliM : Int32) (hK : va_K (gD g) zCl (gT g) s) (hB : KB g A s s.heap) (i : Int32) (u : (Nat → Int64) × Int32) (hF : G_law_2489 stF jo mfai mthr L xs i = some u) {H : Heap} {locs : List Loc} {ls : Array Slot} {cells slots : Nat} (hc : cells + 51 ≤ 603072) (hsl : slots + 306 ≤ 7170153) (hl : lv_has ls 9 [(5, .int i), (4, .ref (ad 75)), (3, .ref (ad 74)), (2, .ref (qd 0)), (1, .ref (ad 0)), (0, .ref b)]) (hP : va_P (gD g) zCl (wLaw g ad qd st sv isS hst spare undo seen dbef drec ptx plen ppos pcnt cmds stE stF lch llen jo jd mm masd msav misS mpst mchg merr mfai mthr minp minM mUp mcar mcam mahd magn mltr mbeg mcmd mcmM mpl msz mwr mlin mliM) H) (hD : va_D A (wLaw g ad qd st sv isS hst spare undo seen dbef drec ptx plen ppos pcnt cmds stE stF lch llen jo jd mm masd msav misS mpst mchg merr mfai mthr minp minM mUp mcar mcam mahd magn mltr mbeg mcmd mcmM mpl msz mwr mlin mliM)) (hS : va_S A s.heap H locs)
    (kj : ∀ (H : Heap) (locs : List Loc) (ls : Array Slot), lv_has ls 9 [(5, .int i), (4, .ref (ad 75)), (3, .ref (ad 74)), (2, .ref (qd 0)), (1, .ref (ad 0)), (0, .ref b)] → va_P (gD g) zCl (wLaw g ad qd st sv isS hst spare undo seen dbef drec ptx plen ppos pcnt cmds stE stF lch llen u.1 jd mm masd msav misS mpst mchg merr mfai u.2 minp minM mUp mcar mcam mahd magn mltr mbeg mcmd mcmM mpl msz mwr mlin mliM) H → va_D A (wLaw g ad qd st sv isS hst spare undo seen dbef drec ptx plen ppos pcnt cmds stE stF lch llen u.1 jd mm masd msav misS mpst mchg merr mfai u.2 minp minM mUp mcar mcam mahd magn mltr mbeg mcmd mcmM mpl msz mwr mlin mliM) → va_S A s.heap H locs → W p l e room_1 s m #[Value.ref b] below meth c H locs (cells + 51) (slots + 306) (lw_Z below #[Value.ref b] s) (F0 m 2792 ls [])) : W p l e room_1 s m #[Value.ref b] below meth c H locs cells slots (lw_Z below #[Value.ref b] s) (F0 m 2489 ls []) := by
  have hc : cells + 51 ≤ room_1.cells := hc
  have hsl : slots + 306 ≤ room_1.slots := hsl
  unfold G_law_2489 at hF
  refine lv_aload_n hx hb dL_law_2489 rfl (lv_at hl 4 rfl) ?_
  refine lv_aload_n hx hb dL_law_2490 rfl (lv_at hl 2 rfl) ?_
  obtain ⟨zo1, hzo1, hF⟩ := z_bind hF
  refine z_calli (fun (u : (Nat → Int64)) => (wRootJ g ad st sv isS hst spare undo seen dbef drec ptx plen ppos pcnt cmds stE stF lch llen u)) zLJ (vx_runSW (As := [.ref (ad 0), .ref (ad 74)]) (rest := []) ⟨hx, hb, hml, hown, hts⟩ (c_L_failedCommand l hl0 g ad st sv isS hst spare undo seen dbef drec ptx plen ppos pcnt cmds stE stF lch llen jo _ _ hzo1) (vx_cwSW 2 hts (gdS mU_1168 mU_1169 mU_65 mU_1170) rfl rfl rfl (by decide +kernel) ⟨Nat.le_of_ble_eq_true rfl, Nat.le_of_ble_eq_true rfl⟩) ⟨z_blind _ _ _ _, fun U hU hW => z_pre zLJ hP hD hK hB hS hA wLaw_CJ wLaw_NJ hU hW⟩ rfl rfl hl.1 rfl (lv_room (Nat.le_of_ble_eq_true rfl)) dL_law_2491 ⟨by omega, by omega⟩) hP hD hS hA wLaw_CJ (fun _ => rfl) (fun r u H locs hw hP hD hS => ?_)
  obtain ⟨rfl, rfl⟩ := hw
  have hP : va_P (gD g) zCl (wLaw g ad qd st sv isS hst spare undo seen dbef drec ptx plen ppos pcnt cmds stE stF lch llen zo1.2 jd mm masd msav misS mpst mchg merr mfai mthr minp minM mUp mcar mcam mahd magn mltr mbeg mcmd mcmM mpl msz mwr mlin mliM) H := Eq.mp (congrArg (fun w => va_P (gD g) zCl w H) wLaw_SJ) hP
  have hD : va_D A (wLaw g ad qd st sv isS hst spare undo seen dbef drec ptx plen ppos pcnt cmds stE stF lch llen zo1.2 jd mm masd msav misS mpst mchg merr mfai mthr minp minM mUp mcar mcam mahd magn mltr mbeg mcmd mcmM mpl msz mwr mlin mliM) := Eq.mp (congrArg (fun w => va_D A w) wLaw_SJ) hD
  refine lv_istore (lv' := [(6, .int zo1.1), (5, .int i), (4, .ref (ad 75)), (3, .ref (ad 74)), (2, .ref (qd 0)), (1, .ref (ad 0)), (0, .ref b)]) hx hb dL_law_2494 hl (by decide) rfl (fun ls hl => ?_)
  refine lv_aload_n hx hb dL_law_2496 rfl (lv_at hl 4 rfl) ?_
  obtain ⟨zo2, hzo2, hF⟩ := z_bind hF
  refine z_calli (fun (u : Int32) => (wModel g (qd 0) (qd 1) (qd 2) (qd 3) (qd 4) (qd 5) (qd 6) (qd 7) (qd 8) (qd 9) (qd 10) (qd 11) (qd 12) mm masd msav misS mpst mchg merr mfai u minp minM mUp mcar mcam mahd magn mltr mbeg mcmd mcmM mpl msz mwr mlin mliM)) zLM (va_runV (As := []) (rest := []) ⟨hx, hb, hml, hown, hts⟩ (c_X11_failedCommand l g (qd 0) (qd 1) (qd 2) (qd 3) (qd 4) (qd 5) (qd 6) (qd 7) (qd 8) (qd 9) (qd 10) (qd 11) (qd 12) mm masd msav misS mpst mchg merr mfai mthr minp minM mUp mcar mcam mahd magn mltr mbeg mcmd mcmM mpl msz mwr mlin mliM _ _ hzo2) (cwV 0 hts (gdV mU_1670 mU_1671 mU_1672 mU_75 mU_1673) rfl rfl rfl (by decide +kernel) ⟨Nat.le_of_ble_eq_true rfl, Nat.le_of_ble_eq_true rfl⟩) ⟨z_blind _ _ _ _, va_recv hK hP (ci := 7) (q0 := 76) rfl rfl, fun U hU hW => z_pre zLM hP hD hK hB hS hA wLaw_CM wLaw_NM hU hW⟩ rfl rfl hl.1 rfl (lv_room (Nat.le_of_ble_eq_true rfl)) dL_law_2497 ⟨by omega, by omega⟩) hP hD hS hA wLaw_CM (fun _ => rfl) (fun r u H locs hw hP hD hS => ?_)
  obtain ⟨rfl, rfl⟩ := hw
  have hP : va_P (gD g) zCl (wLaw g ad qd st sv isS hst spare undo seen dbef drec ptx plen ppos pcnt cmds stE stF lch llen zo1.2 jd mm masd msav misS mpst mchg merr mfai zo2.2 minp minM mUp mcar mcam mahd magn mltr mbeg mcmd mcmM mpl msz mwr mlin mliM) H := Eq.mp (congrArg (fun w => va_P (gD g) zCl w H) wLaw_SM) hP
  have hD : va_D A (wLaw g ad qd st sv isS hst spare undo seen dbef drec ptx plen ppos pcnt cmds stE stF lch llen zo1.2 jd mm masd msav misS mpst mchg merr mfai zo2.2 minp minM mUp mcar mcam mahd magn mltr mbeg mcmd mcmM mpl msz mwr mlin mliM) := Eq.mp (congrArg (fun w => va_D A w) wLaw_SM) hD
  refine lv_istore (lv' := [(7, .int zo2.1), (6, .int zo1.1), (5, .int i), (4, .ref (ad 75)), (3, .ref (ad 74)), (2, .ref (qd 0)), (1, .ref (ad 0)), (0, .ref b)]) hx hb dL_law_2500 hl (by decide) rfl (fun ls hl => ?_)
  refine lv_aload_n hx hb dL_law_2502 rfl (lv_at hl 5 rfl) ?_
  obtain ⟨zo3, hzo3, hF⟩ := z_bind hF
  refine z_calli (fun (_ : Unit) => (wModel g (qd 0) (qd 1) (qd 2) (qd 3) (qd 4) (qd 5) (qd 6) (qd 7) (qd 8) (qd 9) (qd 10) (qd 11) (qd 12) mm masd msav misS mpst mchg merr mfai zo2.2 minp minM mUp mcar mcam mahd magn mltr mbeg mcmd mcmM mpl msz mwr mlin mliM)) zLM (va_runV (As := []) (rest := []) ⟨hx, hb, hml, hown, hts⟩ (c_X11_thrown l g (qd 0) (qd 1) (qd 2) (qd 3) (qd 4) (qd 5) (qd 6) (qd 7) (qd 8) (qd 9) (qd 10) (qd 11) (qd 12) mm masd msav misS mpst mchg merr mfai zo2.2 minp minM mUp mcar mcam mahd magn mltr mbeg mcmd mcmM mpl msz mwr mlin mliM _ _ hzo3) (cwV 0 hts (gdV mU_1321 mU_1322 mU_1323 mU_75 mU_1324) rfl rfl rfl (by decide +kernel) ⟨Nat.le_of_ble_eq_true rfl, Nat.le_of_ble_eq_true rfl⟩) ⟨z_blind _ _ _ _, va_recv hK hP (ci := 7) (q0 := 76) rfl rfl, fun U hU hW => z_pre zLM hP hD hK hB hS hA wLaw_CM wLaw_NM hU hW⟩ rfl rfl hl.1 rfl (lv_room (Nat.le_of_ble_eq_true rfl)) dL_law_2503 ⟨by omega, by omega⟩) hP hD hS hA wLaw_CM (fun _ => rfl) (fun r u H locs hw hP hD hS => ?_)
  subst hw
  have hP : va_P (gD g) zCl (wLaw g ad qd st sv isS hst spare undo seen dbef drec ptx plen ppos pcnt cmds stE stF lch llen zo1.2 jd mm masd msav misS mpst mchg merr mfai zo2.2 minp minM mUp mcar mcam mahd magn mltr mbeg mcmd mcmM mpl msz mwr mlin mliM) H := Eq.mp (congrArg (fun w => va_P (gD g) zCl w H) wLaw_SM) hP
  have hD : va_D A (wLaw g ad qd st sv isS hst spare undo seen dbef drec ptx plen ppos pcnt cmds stE stF lch llen zo1.2 jd mm masd msav misS mpst mchg merr mfai zo2.2 minp minM mUp mcar mcam mahd magn mltr mbeg mcmd mcmM mpl msz mwr mlin mliM) := Eq.mp (congrArg (fun w => va_D A w) wLaw_SM) hD
  refine lv_iload hx hb dL_law_2506 (lv_at hl 1 rfl) ?_
  refine lv_icmp_eq (tgt := 2513) hx hb dL_law_2508 (by decide) (fun zc4 => ?_) (fun zc4 => ?_)
  · have hF := z_pos hF zc4
    refine lv_iload hx hb dL_law_2513 (lv_at hl 1 rfl) ?_
    refine lv_if_ne (tgt := 2530) hx hb dL_law_2515 (by decide) (fun zc5 => ?_) (fun zc5 => ?_)
    · have hF := z_neg hF zc5
      refine lv_goto (tgt := 2792) hx hb dL_law_2530 (by decide) ?_
      have ho := (Option.some.inj hF).symm
      subst ho
      refine W.widen (k := cells + 51) (n := slots + 306) (by omega) (by omega) ?_
      exact kj _ _ _ (lv_sub hl [2, 3, 4, 5, 6, 7] rfl) hP hD hS
    · have hF := z_pos hF zc5
      refine lv_aload_n hx hb dL_law_2518 rfl (lv_at hl 4 rfl) ?_
      refine lv_iconst (v := 0) hx hb dL_law_2519 (by decide) ?_
      refine va_lald hx hb hK hP 74 2 rfl rfl (by unfold vp_in; decide) dL_law_2520 ?_
      refine lv_iload hx hb dL_law_2521 (lv_at hl 0 rfl) ?_
      refine lv_i2l (v := (Int32.toInt64 zo2.1)) hx hb dL_law_2523 rfl ?_
      refine z_lcmp_eq (tgt := 2530) hx hb dL_law_2524 dL_law_2525 (by decide) (fun zc6 => ?_) (fun zc6 => ?_)
      · have hF := z_pos hF zc6
        refine lv_goto (tgt := 2792) hx hb dL_law_2530 (by decide) ?_
        have ho := (Option.some.inj hF).symm
        subst ho
        refine W.widen (k := cells + 51) (n := slots + 306) (by omega) (by omega) ?_
        exact kj _ _ _ (lv_sub hl [2, 3, 4, 5, 6, 7] rfl) hP hD hS
      · have hF := z_neg hF zc6
        refine lv_iconst (v := 0) hx hb dL_law_2528 (by decide) ?_
        exact absurd hF (by simp)
  · have hF := z_neg hF zc4
    refine lv_iconst (v := 0) hx hb dL_law_2511 (by decide) ?_
    exact absurd hF (by simp)
set_option maxHeartbeats 4000000 in
set_option maxRecDepth 100000 in
theorem k_law_2533 {p : Program} {e : Env} {s : State} {m : MethodId} {below : List Frame} {meth : Method} {c : Code} (l : Launch) (hl0 : l.stackTraces = false) {b L : Nat} {xs : Nat → Int32} (hx : p.tables.exec = Jvm.exec) (hb : c.code = cL_law) (hml : c.maxLocals = 9) (hown : s.vm.findClass RL = some m.cls) (hts : ∀ w ∈ wU, w.before #[Value.ref b] s = true) (hX : va_X b L xs s s.heap) (hbl : b < s.heap.size) {A : Nat → Prop} (hbA : ¬ A b) (hA : ∀ q, s.heap.size ≤ q → A q) (g : GG) (ad qd : Nat → Nat) (st : SS) (sv : SS) (isS : Int32) (hst : Nat → SS) (spare : Int32) (undo : Int32) (seen : Nat → Int32) (dbef : Int32) (drec : Int32) (ptx : Nat → Int32) (plen : Int32) (ppos : Int32) (pcnt : Int32) (cmds : Nat → CC) (stE : Int32) (stF : Int32) (lch : Nat → Int32) (llen : Int32) (jo : Nat → Int64) (jd : Nat → UInt64) (mm : Nat → Int64) (masd : Nat → Int64) (msav : Nat → Int64) (misS : Int32) (mpst : Nat → Int64) (mchg : Int32) (merr : Int32) (mfai : Int32) (mthr : Int32) (minp : Nat → Int32) (minM : Int32) (mUp : Nat → Int32) (mcar : Nat → Int32) (mcam : Nat → Int32) (mahd : Int32) (magn : Int32) (mltr : Nat → Int32) (mbeg : Nat → Int32) (mcmd : Nat → Int32) (mcmM : Int32) (mpl : Int32) (msz : Int32) (mwr : Int32) (mlin : Nat → Int32) (mliM : Int32) (hK : va_K (gD g) zCl (gT g) s) (hB : KB g A s s.heap) (fu : Nat) (i : Int32) (u : (Nat → Int32) × Int32 × (Nat → Int64) × Int32 × (Nat → Int32) × Int32) (hF : G_law_2533 fu st lch llen jo mm mthr mlin mliM L xs i = some u) {H : Heap} {locs : List Loc} {ls : Array Slot} {cells slots : Nat} (hc : cells + 51 ≤ 603072) (hsl : slots + 306 ≤ 7170153) (hl : lv_has ls 9 [(5, .int i), (4, .ref (ad 75)), (3, .ref (ad 74)), (2, .ref (qd 0)), (1, .ref (ad 0)), (0, .ref b)]) (hP : va_P (gD g) zCl (wLaw g ad qd st sv isS hst spare undo seen dbef drec ptx plen ppos pcnt cmds stE stF lch llen jo jd mm masd msav misS mpst mchg merr mfai mthr minp minM mUp mcar mcam mahd magn mltr mbeg mcmd mcmM mpl msz mwr mlin mliM) H) (hD : va_D A (wLaw g ad qd st sv isS hst spare undo seen dbef drec ptx plen ppos pcnt cmds stE stF lch llen jo jd mm masd msav misS mpst mchg merr mfai mthr minp minM mUp mcar mcam mahd magn mltr mbeg mcmd mcmM mpl msz mwr mlin mliM)) (hS : va_S A s.heap H locs)
    (kj : ∀ (H : Heap) (locs : List Loc) (ls : Array Slot), lv_has ls 9 [(5, .int i), (4, .ref (ad 75)), (3, .ref (ad 74)), (2, .ref (qd 0)), (1, .ref (ad 0)), (0, .ref b)] → va_P (gD g) zCl (wLaw g ad qd st sv isS hst spare undo seen dbef drec ptx plen ppos pcnt cmds stE stF u.1 u.2.1 u.2.2.1 jd mm masd msav misS mpst mchg merr mfai u.2.2.2.1 minp minM mUp mcar mcam mahd magn mltr mbeg mcmd mcmM mpl msz mwr u.2.2.2.2.1 u.2.2.2.2.2) H → va_D A (wLaw g ad qd st sv isS hst spare undo seen dbef drec ptx plen ppos pcnt cmds stE stF u.1 u.2.1 u.2.2.1 jd mm masd msav misS mpst mchg merr mfai u.2.2.2.1 minp minM mUp mcar mcam mahd magn mltr mbeg mcmd mcmM mpl msz mwr u.2.2.2.2.1 u.2.2.2.2.2) → va_S A s.heap H locs → W p l e room_1 s m #[Value.ref b] below meth c H locs (cells + 51) (slots + 306) (lw_Z below #[Value.ref b] s) (F0 m 2792 ls [])) : W p l e room_1 s m #[Value.ref b] below meth c H locs cells slots (lw_Z below #[Value.ref b] s) (F0 m 2533 ls []) := by
  have hc : cells + 51 ≤ room_1.cells := hc
  have hsl : slots + 306 ≤ room_1.slots := hsl
  unfold G_law_2533 at hF
  refine lv_aload_n hx hb dL_law_2533 rfl (lv_at hl 4 rfl) ?_
  refine lv_aload_n hx hb dL_law_2534 rfl (lv_at hl 5 rfl) ?_
  refine lv_iload hx hb dL_law_2535 (lv_at hl 0 rfl) ?_
  refine lv_iconst (v := 1) hx hb dL_law_2537 (by decide) ?_
  refine lv_iadd hx hb dL_law_2538 ?_
  obtain ⟨zg1, hF⟩ := z_grd hF
  refine va_sld hx hb hX hbl hbA hS zg1 dL_law_2539 ?_
  refine lv_aload_n hx hb dL_law_2540 rfl (lv_at hl 2 rfl) ?_
  obtain ⟨zo2, hzo2, hF⟩ := z_bind hF
  refine z_calli (fun (u : (Nat → Int32) × Int32 × (Nat → Int64)) => (wRootJ g ad st sv isS hst spare undo seen dbef drec ptx plen ppos pcnt cmds stE stF u.1 u.2.1 u.2.2)) zLJ (vx_runSW (As := [.ref (ad 0), .int (xs (Int32.toNatClampNeg (i + 1))), .ref (ad 74)]) (rest := []) ⟨hx, hb, hml, hown, hts⟩ (c_L_writeNumber l hl0 g ad st sv isS hst spare undo seen dbef drec ptx plen ppos pcnt cmds stE stF lch llen jo _ (xs (Int32.toNatClampNeg (i + 1))) fu _ hzo2) (vx_cwSW 3 hts (gdS mU_1176 mU_1177 mU_65 mU_1178) rfl rfl rfl (by decide +kernel) ⟨Nat.le_of_ble_eq_true rfl, Nat.le_of_ble_eq_true rfl⟩) ⟨z_blind _ _ _ _, fun U hU hW => z_pre zLJ hP hD hK hB hS hA wLaw_CJ wLaw_NJ hU hW⟩ rfl rfl hl.1 rfl (lv_room (Nat.le_of_ble_eq_true rfl)) dL_law_2541 ⟨by omega, by omega⟩) hP hD hS hA wLaw_CJ (fun _ => rfl) (fun r u H locs hw hP hD hS => ?_)
  obtain ⟨rfl, rfl⟩ := hw
  have hP : va_P (gD g) zCl (wLaw g ad qd st sv isS hst spare undo seen dbef drec ptx plen ppos pcnt cmds stE stF zo2.2.1 zo2.2.2.1 zo2.2.2.2 jd mm masd msav misS mpst mchg merr mfai mthr minp minM mUp mcar mcam mahd magn mltr mbeg mcmd mcmM mpl msz mwr mlin mliM) H := Eq.mp (congrArg (fun w => va_P (gD g) zCl w H) wLaw_SJ) hP
  have hD : va_D A (wLaw g ad qd st sv isS hst spare undo seen dbef drec ptx plen ppos pcnt cmds stE stF zo2.2.1 zo2.2.2.1 zo2.2.2.2 jd mm masd msav misS mpst mchg merr mfai mthr minp minM mUp mcar mcam mahd magn mltr mbeg mcmd mcmM mpl msz mwr mlin mliM) := Eq.mp (congrArg (fun w => va_D A w) wLaw_SJ) hD
  refine lv_istore (lv' := [(6, .int zo2.1), (5, .int i), (4, .ref (ad 75)), (3, .ref (ad 74)), (2, .ref (qd 0)), (1, .ref (ad 0)), (0, .ref b)]) hx hb dL_law_2544 hl (by decide) rfl (fun ls hl => ?_)
  refine lv_aload_n hx hb dL_law_2546 rfl (lv_at hl 4 rfl) ?_
  refine lv_aload_n hx hb dL_law_2547 rfl (lv_at hl 6 rfl) ?_
  refine lv_iload hx hb dL_law_2548 (lv_at hl 1 rfl) ?_
  refine lv_iconst (v := 1) hx hb dL_law_2550 (by decide) ?_
  refine lv_iadd hx hb dL_law_2551 ?_
  obtain ⟨zg3, hF⟩ := z_grd hF
  refine va_sld hx hb hX hbl hbA hS zg3 dL_law_2552 ?_
  obtain ⟨zo4, hzo4, hF⟩ := z_bind hF
  refine z_calli (fun (u : Int32 × (Nat → Int32) × Int32) => (wModel g (qd 0) (qd 1) (qd 2) (qd 3) (qd 4) (qd 5) (qd 6) (qd 7) (qd 8) (qd 9) (qd 10) (qd 11) (qd 12) mm masd msav misS mpst mchg merr mfai u.1 minp minM mUp mcar mcam mahd magn mltr mbeg mcmd mcmM mpl msz mwr u.2.1 u.2.2)) zLM (va_runV (As := [.int (xs (Int32.toNatClampNeg (i + 1)))]) (rest := []) ⟨hx, hb, hml, hown, hts⟩ (c_X11_writeNumber l g (qd 0) (qd 1) (qd 2) (qd 3) (qd 4) (qd 5) (qd 6) (qd 7) (qd 8) (qd 9) (qd 10) (qd 11) (qd 12) mm masd msav misS mpst mchg merr mfai mthr minp minM mUp mcar mcam mahd magn mltr mbeg mcmd mcmM mpl msz mwr mlin mliM _ (xs (Int32.toNatClampNeg (i + 1))) fu _ hzo4) (cwV 1 hts (gdV mU_1674 mU_1675 mU_1676 mU_75 mU_1677) rfl rfl rfl (by decide +kernel) ⟨Nat.le_of_ble_eq_true rfl, Nat.le_of_ble_eq_true rfl⟩) ⟨z_blind _ _ _ _, va_recv hK hP (ci := 7) (q0 := 76) rfl rfl, fun U hU hW => z_pre zLM hP hD hK hB hS hA wLaw_CM wLaw_NM hU hW⟩ rfl rfl hl.1 rfl (lv_room (Nat.le_of_ble_eq_true rfl)) dL_law_2553 ⟨by omega, by omega⟩) hP hD hS hA wLaw_CM (fun _ => rfl) (fun r u H locs hw hP hD hS => ?_)
  obtain ⟨rfl, rfl⟩ := hw
  have hP : va_P (gD g) zCl (wLaw g ad qd st sv isS hst spare undo seen dbef drec ptx plen ppos pcnt cmds stE stF zo2.2.1 zo2.2.2.1 zo2.2.2.2 jd mm masd msav misS mpst mchg merr mfai zo4.2.1 minp minM mUp mcar mcam mahd magn mltr mbeg mcmd mcmM mpl msz mwr zo4.2.2.1 zo4.2.2.2) H := Eq.mp (congrArg (fun w => va_P (gD g) zCl w H) wLaw_SM) hP
  have hD : va_D A (wLaw g ad qd st sv isS hst spare undo seen dbef drec ptx plen ppos pcnt cmds stE stF zo2.2.1 zo2.2.2.1 zo2.2.2.2 jd mm masd msav misS mpst mchg merr mfai zo4.2.1 minp minM mUp mcar mcam mahd magn mltr mbeg mcmd mcmM mpl msz mwr zo4.2.2.1 zo4.2.2.2) := Eq.mp (congrArg (fun w => va_D A w) wLaw_SM) hD
  refine lv_istore (lv' := [(7, .int zo4.1), (6, .int zo2.1), (5, .int i), (4, .ref (ad 75)), (3, .ref (ad 74)), (2, .ref (qd 0)), (1, .ref (ad 0)), (0, .ref b)]) hx hb dL_law_2556 hl (by decide) rfl (fun ls hl => ?_)
  refine lv_aload_n hx hb dL_law_2558 rfl (lv_at hl 5 rfl) ?_
  obtain ⟨zo5, hzo5, hF⟩ := z_bind hF
  refine z_calli (fun (_ : Unit) => (wModel g (qd 0) (qd 1) (qd 2) (qd 3) (qd 4) (qd 5) (qd 6) (qd 7) (qd 8) (qd 9) (qd 10) (qd 11) (qd 12) mm masd msav misS mpst mchg merr mfai zo4.2.1 minp minM mUp mcar mcam mahd magn mltr mbeg mcmd mcmM mpl msz mwr zo4.2.2.1 zo4.2.2.2)) zLM (va_runV (As := []) (rest := []) ⟨hx, hb, hml, hown, hts⟩ (c_X11_thrown l g (qd 0) (qd 1) (qd 2) (qd 3) (qd 4) (qd 5) (qd 6) (qd 7) (qd 8) (qd 9) (qd 10) (qd 11) (qd 12) mm masd msav misS mpst mchg merr mfai zo4.2.1 minp minM mUp mcar mcam mahd magn mltr mbeg mcmd mcmM mpl msz mwr zo4.2.2.1 zo4.2.2.2 _ _ hzo5) (cwV 0 hts (gdV mU_1321 mU_1322 mU_1323 mU_75 mU_1324) rfl rfl rfl (by decide +kernel) ⟨Nat.le_of_ble_eq_true rfl, Nat.le_of_ble_eq_true rfl⟩) ⟨z_blind _ _ _ _, va_recv hK hP (ci := 7) (q0 := 76) rfl rfl, fun U hU hW => z_pre zLM hP hD hK hB hS hA wLaw_CM wLaw_NM hU hW⟩ rfl rfl hl.1 rfl (lv_room (Nat.le_of_ble_eq_true rfl)) dL_law_2559 ⟨by omega, by omega⟩) hP hD hS hA wLaw_CM (fun _ => rfl) (fun r u H locs hw hP hD hS => ?_)
  subst hw
  have hP : va_P (gD g) zCl (wLaw g ad qd st sv isS hst spare undo seen dbef drec ptx plen ppos pcnt cmds stE stF zo2.2.1 zo2.2.2.1 zo2.2.2.2 jd mm masd msav misS mpst mchg merr mfai zo4.2.1 minp minM mUp mcar mcam mahd magn mltr mbeg mcmd mcmM mpl msz mwr zo4.2.2.1 zo4.2.2.2) H := Eq.mp (congrArg (fun w => va_P (gD g) zCl w H) wLaw_SM) hP
  have hD : va_D A (wLaw g ad qd st sv isS hst spare undo seen dbef drec ptx plen ppos pcnt cmds stE stF zo2.2.1 zo2.2.2.1 zo2.2.2.2 jd mm masd msav misS mpst mchg merr mfai zo4.2.1 minp minM mUp mcar mcam mahd magn mltr mbeg mcmd mcmM mpl msz mwr zo4.2.2.1 zo4.2.2.2) := Eq.mp (congrArg (fun w => va_D A w) wLaw_SM) hD
  refine lv_iload hx hb dL_law_2562 (lv_at hl 1 rfl) ?_
  refine lv_icmp_eq (tgt := 2569) hx hb dL_law_2564 (by decide) (fun zc6 => ?_) (fun zc6 => ?_)
  · have hF := z_pos hF zc6
    refine lv_iload hx hb dL_law_2569 (lv_at hl 1 rfl) ?_
    refine lv_if_ne (tgt := 2586) hx hb dL_law_2571 (by decide) (fun zc7 => ?_) (fun zc7 => ?_)
    · have hF := z_neg hF zc7
      refine lv_goto (tgt := 2792) hx hb dL_law_2586 (by decide) ?_
      have ho := (Option.some.inj hF).symm
      subst ho
      refine W.widen (k := cells + 51) (n := slots + 306) (by omega) (by omega) ?_
      exact kj _ _ _ (lv_sub hl [2, 3, 4, 5, 6, 7] rfl) hP hD hS
    · have hF := z_pos hF zc7
      refine lv_aload_n hx hb dL_law_2574 rfl (lv_at hl 4 rfl) ?_
      refine lv_iconst (v := 0) hx hb dL_law_2575 (by decide) ?_
      refine va_lald hx hb hK hP 74 2 rfl rfl (by unfold vp_in; decide) dL_law_2576 ?_
      refine lv_iload hx hb dL_law_2577 (lv_at hl 0 rfl) ?_
      refine lv_i2l (v := (Int32.toInt64 zo4.1)) hx hb dL_law_2579 rfl ?_
      refine z_lcmp_eq (tgt := 2586) hx hb dL_law_2580 dL_law_2581 (by decide) (fun zc8 => ?_) (fun zc8 => ?_)
      · have hF := z_pos hF zc8
        refine lv_goto (tgt := 2792) hx hb dL_law_2586 (by decide) ?_
        have ho := (Option.some.inj hF).symm
        subst ho
        refine W.widen (k := cells + 51) (n := slots + 306) (by omega) (by omega) ?_
        exact kj _ _ _ (lv_sub hl [2, 3, 4, 5, 6, 7] rfl) hP hD hS
      · have hF := z_neg hF zc8
        refine lv_iconst (v := 0) hx hb dL_law_2584 (by decide) ?_
        exact absurd hF (by simp)
  · have hF := z_neg hF zc6
    refine lv_iconst (v := 0) hx hb dL_law_2567 (by decide) ?_
    exact absurd hF (by simp)
set_option maxHeartbeats 4000000 in
set_option maxRecDepth 100000 in
theorem k_law_2589 {p : Program} {e : Env} {s : State} {m : MethodId} {below : List Frame} {meth : Method} {c : Code} (l : Launch) (hl0 : l.stackTraces = false) {b L : Nat} {xs : Nat → Int32} (hx : p.tables.exec = Jvm.exec) (hb : c.code = cL_law) (hml : c.maxLocals = 9) (hown : s.vm.findClass RL = some m.cls) (hts : ∀ w ∈ wU, w.before #[Value.ref b] s = true) (hX : va_X b L xs s s.heap) (hbl : b < s.heap.size) {A : Nat → Prop} (hbA : ¬ A b) (hA : ∀ q, s.heap.size ≤ q → A q) (g : GG) (ad qd : Nat → Nat) (st : SS) (sv : SS) (isS : Int32) (hst : Nat → SS) (spare : Int32) (undo : Int32) (seen : Nat → Int32) (dbef : Int32) (drec : Int32) (ptx : Nat → Int32) (plen : Int32) (ppos : Int32) (pcnt : Int32) (cmds : Nat → CC) (stE : Int32) (stF : Int32) (lch : Nat → Int32) (llen : Int32) (jo : Nat → Int64) (jd : Nat → UInt64) (mm : Nat → Int64) (masd : Nat → Int64) (msav : Nat → Int64) (misS : Int32) (mpst : Nat → Int64) (mchg : Int32) (merr : Int32) (mfai : Int32) (mthr : Int32) (minp : Nat → Int32) (minM : Int32) (mUp : Nat → Int32) (mcar : Nat → Int32) (mcam : Nat → Int32) (mahd : Int32) (magn : Int32) (mltr : Nat → Int32) (mbeg : Nat → Int32) (mcmd : Nat → Int32) (mcmM : Int32) (mpl : Int32) (msz : Int32) (mwr : Int32) (mlin : Nat → Int32) (mliM : Int32) (hK : va_K (gD g) zCl (gT g) s) (hB : KB g A s s.heap) (fu : Nat) (i : Int32) (u : (Nat → Int32) × Int32 × Int32 × (Nat → Int32) × Int32 × (Nat → Int64) × Int32 × (Nat → Int32) × Int32 × Int32 × (Nat → Int32) × Int32) (hF : G_law_2589 fu seen dbef drec lch llen jo mthr mcam mahd magn mlin mliM L xs i = some u) {H : Heap} {locs : List Loc} {ls : Array Slot} {cells slots : Nat} (hc : cells + 51 ≤ 603072) (hsl : slots + 306 ≤ 7170153) (hl : lv_has ls 9 [(5, .int i), (4, .ref (ad 75)), (3, .ref (ad 74)), (2, .ref (qd 0)), (1, .ref (ad 0)), (0, .ref b)]) (hP : va_P (gD g) zCl (wLaw g ad qd st sv isS hst spare undo seen dbef drec ptx plen ppos pcnt cmds stE stF lch llen jo jd mm masd msav misS mpst mchg merr mfai mthr minp minM mUp mcar mcam mahd magn mltr mbeg mcmd mcmM mpl msz mwr mlin mliM) H) (hD : va_D A (wLaw g ad qd st sv isS hst spare undo seen dbef drec ptx plen ppos pcnt cmds stE stF lch llen jo jd mm masd msav misS mpst mchg merr mfai mthr minp minM mUp mcar mcam mahd magn mltr mbeg mcmd mcmM mpl msz mwr mlin mliM)) (hS : va_S A s.heap H locs)
    (kj : ∀ (H : Heap) (locs : List Loc) (ls : Array Slot), lv_has ls 9 [(5, .int i), (4, .ref (ad 75)), (3, .ref (ad 74)), (2, .ref (qd 0)), (1, .ref (ad 0)), (0, .ref b)] → va_P (gD g) zCl (wLaw g ad qd st sv isS hst spare undo u.1 u.2.1 u.2.2.1 ptx plen ppos pcnt cmds stE stF u.2.2.2.1 u.2.2.2.2.1 u.2.2.2.2.2.1 jd mm masd msav misS mpst mchg merr mfai u.2.2.2.2.2.2.1 minp minM mUp mcar u.2.2.2.2.2.2.2.1 u.2.2.2.2.2.2.2.2.1 u.2.2.2.2.2.2.2.2.2.1 mltr mbeg mcmd mcmM mpl msz mwr u.2.2.2.2.2.2.2.2.2.2.1 u.2.2.2.2.2.2.2.2.2.2.2) H → va_D A (wLaw g ad qd st sv isS hst spare undo u.1 u.2.1 u.2.2.1 ptx plen ppos pcnt cmds stE stF u.2.2.2.1 u.2.2.2.2.1 u.2.2.2.2.2.1 jd mm masd msav misS mpst mchg merr mfai u.2.2.2.2.2.2.1 minp minM mUp mcar u.2.2.2.2.2.2.2.1 u.2.2.2.2.2.2.2.2.1 u.2.2.2.2.2.2.2.2.2.1 mltr mbeg mcmd mcmM mpl msz mwr u.2.2.2.2.2.2.2.2.2.2.1 u.2.2.2.2.2.2.2.2.2.2.2) → va_S A s.heap H locs → W p l e room_1 s m #[Value.ref b] below meth c H locs (cells + 51) (slots + 306) (lw_Z below #[Value.ref b] s) (F0 m 2792 ls [])) : W p l e room_1 s m #[Value.ref b] below meth c H locs cells slots (lw_Z below #[Value.ref b] s) (F0 m 2589 ls []) := by
  have hc : cells + 51 ≤ room_1.cells := hc
  have hsl : slots + 306 ≤ room_1.slots := hsl
  unfold G_law_2589 at hF
  refine lv_aload_n hx hb dL_law_2589 rfl (lv_at hl 4 rfl) ?_
  refine lv_aload_n hx hb dL_law_2590 rfl (lv_at hl 5 rfl) ?_
  refine lv_iload hx hb dL_law_2591 (lv_at hl 0 rfl) ?_
  refine lv_iconst (v := 1) hx hb dL_law_2593 (by decide) ?_
  refine lv_iadd hx hb dL_law_2594 ?_
  obtain ⟨zg1, hF⟩ := z_grd hF
  refine va_sld hx hb hX hbl hbA hS zg1 dL_law_2595 ?_
  refine lv_aload_n hx hb dL_law_2596 rfl (lv_at hl 5 rfl) ?_
  refine lv_iload hx hb dL_law_2597 (lv_at hl 0 rfl) ?_
  refine lv_iconst (v := 2) hx hb dL_law_2599 (by decide) ?_
  refine lv_iadd hx hb dL_law_2600 ?_
  obtain ⟨zg2, hF⟩ := z_grd hF
  refine va_sld hx hb hX hbl hbA hS zg2 dL_law_2601 ?_
  refine lv_aload_n hx hb dL_law_2602 rfl (lv_at hl 2 rfl) ?_
  obtain ⟨zo3, hzo3, hF⟩ := z_bind hF
  refine z_calli (fun (u : (Nat → Int32) × Int32 × Int32 × (Nat → Int32) × Int32 × (Nat → Int64)) => (wRootJ g ad st sv isS hst spare undo u.1 u.2.1 u.2.2.1 ptx plen ppos pcnt cmds stE stF u.2.2.2.1 u.2.2.2.2.1 u.2.2.2.2.2)) zLJ (vx_runSW (As := [.ref (ad 0), .int (xs (Int32.toNatClampNeg (i + 1))), .int (xs (Int32.toNatClampNeg (i + 2))), .ref (ad 74)]) (rest := []) ⟨hx, hb, hml, hown, hts⟩ (c_L_writeQuotient l hl0 g ad st sv isS hst spare undo seen dbef drec ptx plen ppos pcnt cmds stE stF lch llen jo _ (xs (Int32.toNatClampNeg (i + 1))) (xs (Int32.toNatClampNeg (i + 2))) fu _ hzo3) (vx_cwSW 4 hts (gdS mU_1198 mU_1199 mU_65 mU_1200) rfl rfl rfl (by decide +kernel) ⟨Nat.le_of_ble_eq_true rfl, Nat.le_of_ble_eq_true rfl⟩) ⟨z_blind _ _ _ _, fun U hU hW => z_pre zLJ hP hD hK hB hS hA wLaw_CJ wLaw_NJ hU hW⟩ rfl rfl hl.1 rfl (lv_room (Nat.le_of_ble_eq_true rfl)) dL_law_2603 ⟨by omega, by omega⟩) hP hD hS hA wLaw_CJ (fun _ => rfl) (fun r u H locs hw hP hD hS => ?_)
  obtain ⟨rfl, rfl⟩ := hw
  have hP : va_P (gD g) zCl (wLaw g ad qd st sv isS hst spare undo zo3.2.1 zo3.2.2.1 zo3.2.2.2.1 ptx plen ppos pcnt cmds stE stF zo3.2.2.2.2.1 zo3.2.2.2.2.2.1 zo3.2.2.2.2.2.2 jd mm masd msav misS mpst mchg merr mfai mthr minp minM mUp mcar mcam mahd magn mltr mbeg mcmd mcmM mpl msz mwr mlin mliM) H := Eq.mp (congrArg (fun w => va_P (gD g) zCl w H) wLaw_SJ) hP
  have hD : va_D A (wLaw g ad qd st sv isS hst spare undo zo3.2.1 zo3.2.2.1 zo3.2.2.2.1 ptx plen ppos pcnt cmds stE stF zo3.2.2.2.2.1 zo3.2.2.2.2.2.1 zo3.2.2.2.2.2.2 jd mm masd msav misS mpst mchg merr mfai mthr minp minM mUp mcar mcam mahd magn mltr mbeg mcmd mcmM mpl msz mwr mlin mliM) := Eq.mp (congrArg (fun w => va_D A w) wLaw_SJ) hD
  refine lv_istore (lv' := [(6, .int zo3.1), (5, .int i), (4, .ref (ad 75)), (3, .ref (ad 74)), (2, .ref (qd 0)), (1, .ref (ad 0)), (0, .ref b)]) hx hb dL_law_2606 hl (by decide) rfl (fun ls hl => ?_)
  refine lv_aload_n hx hb dL_law_2608 rfl (lv_at hl 4 rfl) ?_
  refine lv_aload_n hx hb dL_law_2609 rfl (lv_at hl 6 rfl) ?_
  refine lv_iload hx hb dL_law_2610 (lv_at hl 1 rfl) ?_
  refine lv_iconst (v := 1) hx hb dL_law_2612 (by decide) ?_
  refine lv_iadd hx hb dL_law_2613 ?_
  obtain ⟨zg4, hF⟩ := z_grd hF
  refine va_sld hx hb hX hbl hbA hS zg4 dL_law_2614 ?_
  refine lv_aload_n hx hb dL_law_2615 rfl (lv_at hl 6 rfl) ?_
  refine lv_iload hx hb dL_law_2616 (lv_at hl 1 rfl) ?_
  refine lv_iconst (v := 2) hx hb dL_law_2618 (by decide) ?_
  refine lv_iadd hx hb dL_law_2619 ?_
  obtain ⟨zg5, hF⟩ := z_grd hF
  refine va_sld hx hb hX hbl hbA hS zg5 dL_law_2620 ?_
  obtain ⟨zo6, hzo6, hF⟩ := z_bind hF
  refine z_calli (fun (u : Int32 × (Nat → Int32) × Int32 × Int32 × (Nat → Int32) × Int32) => (wModel g (qd 0) (qd 1) (qd 2) (qd 3) (qd 4) (qd 5) (qd 6) (qd 7) (qd 8) (qd 9) (qd 10) (qd 11) (qd 12) mm masd msav misS mpst mchg merr mfai u.1 minp minM mUp mcar u.2.1 u.2.2.1 u.2.2.2.1 mltr mbeg mcmd mcmM mpl msz mwr u.2.2.2.2.1 u.2.2.2.2.2)) zLM (va_runV (As := [.int (xs (Int32.toNatClampNeg (i + 1))), .int (xs (Int32.toNatClampNeg (i + 2)))]) (rest := []) ⟨hx, hb, hml, hown, hts⟩ (c_X11_writeQuotient l g (qd 0) (qd 1) (qd 2) (qd 3) (qd 4) (qd 5) (qd 6) (qd 7) (qd 8) (qd 9) (qd 10) (qd 11) (qd 12) mm masd msav misS mpst mchg merr mfai mthr minp minM mUp mcar mcam mahd magn mltr mbeg mcmd mcmM mpl msz mwr mlin mliM _ (xs (Int32.toNatClampNeg (i + 1))) (xs (Int32.toNatClampNeg (i + 2))) fu _ hzo6) (cwV 2 hts (gdV mU_1686 mU_1687 mU_1688 mU_75 mU_1689) rfl rfl rfl (by decide +kernel) ⟨Nat.le_of_ble_eq_true rfl, Nat.le_of_ble_eq_true rfl⟩) ⟨z_blind _ _ _ _, va_recv hK hP (ci := 7) (q0 := 76) rfl rfl, fun U hU hW => z_pre zLM hP hD hK hB hS hA wLaw_CM wLaw_NM hU hW⟩ rfl rfl hl.1 rfl (lv_room (Nat.le_of_ble_eq_true rfl)) dL_law_2621 ⟨by omega, by omega⟩) hP hD hS hA wLaw_CM (fun _ => rfl) (fun r u H locs hw hP hD hS => ?_)
  obtain ⟨rfl, rfl⟩ := hw
  have hP : va_P (gD g) zCl (wLaw g ad qd st sv isS hst spare undo zo3.2.1 zo3.2.2.1 zo3.2.2.2.1 ptx plen ppos pcnt cmds stE stF zo3.2.2.2.2.1 zo3.2.2.2.2.2.1 zo3.2.2.2.2.2.2 jd mm masd msav misS mpst mchg merr mfai zo6.2.1 minp minM mUp mcar zo6.2.2.1 zo6.2.2.2.1 zo6.2.2.2.2.1 mltr mbeg mcmd mcmM mpl msz mwr zo6.2.2.2.2.2.1 zo6.2.2.2.2.2.2) H := Eq.mp (congrArg (fun w => va_P (gD g) zCl w H) wLaw_SM) hP
  have hD : va_D A (wLaw g ad qd st sv isS hst spare undo zo3.2.1 zo3.2.2.1 zo3.2.2.2.1 ptx plen ppos pcnt cmds stE stF zo3.2.2.2.2.1 zo3.2.2.2.2.2.1 zo3.2.2.2.2.2.2 jd mm masd msav misS mpst mchg merr mfai zo6.2.1 minp minM mUp mcar zo6.2.2.1 zo6.2.2.2.1 zo6.2.2.2.2.1 mltr mbeg mcmd mcmM mpl msz mwr zo6.2.2.2.2.2.1 zo6.2.2.2.2.2.2) := Eq.mp (congrArg (fun w => va_D A w) wLaw_SM) hD
  refine lv_istore (lv' := [(7, .int zo6.1), (6, .int zo3.1), (5, .int i), (4, .ref (ad 75)), (3, .ref (ad 74)), (2, .ref (qd 0)), (1, .ref (ad 0)), (0, .ref b)]) hx hb dL_law_2624 hl (by decide) rfl (fun ls hl => ?_)
  refine lv_aload_n hx hb dL_law_2626 rfl (lv_at hl 5 rfl) ?_
  obtain ⟨zo7, hzo7, hF⟩ := z_bind hF
  refine z_calli (fun (_ : Unit) => (wModel g (qd 0) (qd 1) (qd 2) (qd 3) (qd 4) (qd 5) (qd 6) (qd 7) (qd 8) (qd 9) (qd 10) (qd 11) (qd 12) mm masd msav misS mpst mchg merr mfai zo6.2.1 minp minM mUp mcar zo6.2.2.1 zo6.2.2.2.1 zo6.2.2.2.2.1 mltr mbeg mcmd mcmM mpl msz mwr zo6.2.2.2.2.2.1 zo6.2.2.2.2.2.2)) zLM (va_runV (As := []) (rest := []) ⟨hx, hb, hml, hown, hts⟩ (c_X11_thrown l g (qd 0) (qd 1) (qd 2) (qd 3) (qd 4) (qd 5) (qd 6) (qd 7) (qd 8) (qd 9) (qd 10) (qd 11) (qd 12) mm masd msav misS mpst mchg merr mfai zo6.2.1 minp minM mUp mcar zo6.2.2.1 zo6.2.2.2.1 zo6.2.2.2.2.1 mltr mbeg mcmd mcmM mpl msz mwr zo6.2.2.2.2.2.1 zo6.2.2.2.2.2.2 _ _ hzo7) (cwV 0 hts (gdV mU_1321 mU_1322 mU_1323 mU_75 mU_1324) rfl rfl rfl (by decide +kernel) ⟨Nat.le_of_ble_eq_true rfl, Nat.le_of_ble_eq_true rfl⟩) ⟨z_blind _ _ _ _, va_recv hK hP (ci := 7) (q0 := 76) rfl rfl, fun U hU hW => z_pre zLM hP hD hK hB hS hA wLaw_CM wLaw_NM hU hW⟩ rfl rfl hl.1 rfl (lv_room (Nat.le_of_ble_eq_true rfl)) dL_law_2627 ⟨by omega, by omega⟩) hP hD hS hA wLaw_CM (fun _ => rfl) (fun r u H locs hw hP hD hS => ?_)
  subst hw
  have hP : va_P (gD g) zCl (wLaw g ad qd st sv isS hst spare undo zo3.2.1 zo3.2.2.1 zo3.2.2.2.1 ptx plen ppos pcnt cmds stE stF zo3.2.2.2.2.1 zo3.2.2.2.2.2.1 zo3.2.2.2.2.2.2 jd mm masd msav misS mpst mchg merr mfai zo6.2.1 minp minM mUp mcar zo6.2.2.1 zo6.2.2.2.1 zo6.2.2.2.2.1 mltr mbeg mcmd mcmM mpl msz mwr zo6.2.2.2.2.2.1 zo6.2.2.2.2.2.2) H := Eq.mp (congrArg (fun w => va_P (gD g) zCl w H) wLaw_SM) hP
  have hD : va_D A (wLaw g ad qd st sv isS hst spare undo zo3.2.1 zo3.2.2.1 zo3.2.2.2.1 ptx plen ppos pcnt cmds stE stF zo3.2.2.2.2.1 zo3.2.2.2.2.2.1 zo3.2.2.2.2.2.2 jd mm masd msav misS mpst mchg merr mfai zo6.2.1 minp minM mUp mcar zo6.2.2.1 zo6.2.2.2.1 zo6.2.2.2.2.1 mltr mbeg mcmd mcmM mpl msz mwr zo6.2.2.2.2.2.1 zo6.2.2.2.2.2.2) := Eq.mp (congrArg (fun w => va_D A w) wLaw_SM) hD
  refine lv_iload hx hb dL_law_2630 (lv_at hl 1 rfl) ?_
  refine lv_icmp_eq (tgt := 2637) hx hb dL_law_2632 (by decide) (fun zc8 => ?_) (fun zc8 => ?_)
  · have hF := z_pos hF zc8
    refine lv_iload hx hb dL_law_2637 (lv_at hl 1 rfl) ?_
    refine lv_if_ne (tgt := 2654) hx hb dL_law_2639 (by decide) (fun zc9 => ?_) (fun zc9 => ?_)
    · have hF := z_neg hF zc9
      refine lv_goto (tgt := 2792) hx hb dL_law_2654 (by decide) ?_
      have ho := (Option.some.inj hF).symm
      subst ho
      refine W.widen (k := cells + 51) (n := slots + 306) (by omega) (by omega) ?_
      exact kj _ _ _ (lv_sub hl [2, 3, 4, 5, 6, 7] rfl) hP hD hS
    · have hF := z_pos hF zc9
      refine lv_aload_n hx hb dL_law_2642 rfl (lv_at hl 4 rfl) ?_
      refine lv_iconst (v := 0) hx hb dL_law_2643 (by decide) ?_
      refine va_lald hx hb hK hP 74 2 rfl rfl (by unfold vp_in; decide) dL_law_2644 ?_
      refine lv_iload hx hb dL_law_2645 (lv_at hl 0 rfl) ?_
      refine lv_i2l (v := (Int32.toInt64 zo6.1)) hx hb dL_law_2647 rfl ?_
      refine z_lcmp_eq (tgt := 2654) hx hb dL_law_2648 dL_law_2649 (by decide) (fun zc10 => ?_) (fun zc10 => ?_)
      · have hF := z_pos hF zc10
        refine lv_goto (tgt := 2792) hx hb dL_law_2654 (by decide) ?_
        have ho := (Option.some.inj hF).symm
        subst ho
        refine W.widen (k := cells + 51) (n := slots + 306) (by omega) (by omega) ?_
        exact kj _ _ _ (lv_sub hl [2, 3, 4, 5, 6, 7] rfl) hP hD hS
      · have hF := z_neg hF zc10
        refine lv_iconst (v := 0) hx hb dL_law_2652 (by decide) ?_
        exact absurd hF (by simp)
  · have hF := z_neg hF zc8
    refine lv_iconst (v := 0) hx hb dL_law_2635 (by decide) ?_
    exact absurd hF (by simp)
set_option maxHeartbeats 4000000 in
set_option maxRecDepth 100000 in
theorem k_law_2657 {p : Program} {e : Env} {s : State} {m : MethodId} {below : List Frame} {meth : Method} {c : Code} (l : Launch) (hl0 : l.stackTraces = false) {b L : Nat} {xs : Nat → Int32} (hx : p.tables.exec = Jvm.exec) (hb : c.code = cL_law) (hml : c.maxLocals = 9) (hown : s.vm.findClass RL = some m.cls) (hts : ∀ w ∈ wU, w.before #[Value.ref b] s = true) (hX : va_X b L xs s s.heap) (hbl : b < s.heap.size) {A : Nat → Prop} (hbA : ¬ A b) (hA : ∀ q, s.heap.size ≤ q → A q) (g : GG) (ad qd : Nat → Nat) (st : SS) (sv : SS) (isS : Int32) (hst : Nat → SS) (spare : Int32) (undo : Int32) (seen : Nat → Int32) (dbef : Int32) (drec : Int32) (ptx : Nat → Int32) (plen : Int32) (ppos : Int32) (pcnt : Int32) (cmds : Nat → CC) (stE : Int32) (stF : Int32) (lch : Nat → Int32) (llen : Int32) (jo : Nat → Int64) (jd : Nat → UInt64) (mm : Nat → Int64) (masd : Nat → Int64) (msav : Nat → Int64) (misS : Int32) (mpst : Nat → Int64) (mchg : Int32) (merr : Int32) (mfai : Int32) (mthr : Int32) (minp : Nat → Int32) (minM : Int32) (mUp : Nat → Int32) (mcar : Nat → Int32) (mcam : Nat → Int32) (mahd : Int32) (magn : Int32) (mltr : Nat → Int32) (mbeg : Nat → Int32) (mcmd : Nat → Int32) (mcmM : Int32) (mpl : Int32) (msz : Int32) (mwr : Int32) (mlin : Nat → Int32) (mliM : Int32) (hK : va_K (gD g) zCl (gT g) s) (hB : KB g A s s.heap) (i : Int32) (u : (Nat → Int64) × Int32) (hF : G_law_2657 lch llen jo mthr mlin mliM L xs i = some u) {H : Heap} {locs : List Loc} {ls : Array Slot} {cells slots : Nat} (hc : cells + 51 ≤ 603072) (hsl : slots + 306 ≤ 7170153) (hl : lv_has ls 9 [(5, .int i), (4, .ref (ad 75)), (3, .ref (ad 74)), (2, .ref (qd 0)), (1, .ref (ad 0)), (0, .ref b)]) (hP : va_P (gD g) zCl (wLaw g ad qd st sv isS hst spare undo seen dbef drec ptx plen ppos pcnt cmds stE stF lch llen jo jd mm masd msav misS mpst mchg merr mfai mthr minp minM mUp mcar mcam mahd magn mltr mbeg mcmd mcmM mpl msz mwr mlin mliM) H) (hD : va_D A (wLaw g ad qd st sv isS hst spare undo seen dbef drec ptx plen ppos pcnt cmds stE stF lch llen jo jd mm masd msav misS mpst mchg merr mfai mthr minp minM mUp mcar mcam mahd magn mltr mbeg mcmd mcmM mpl msz mwr mlin mliM)) (hS : va_S A s.heap H locs)
    (kj : ∀ (H : Heap) (locs : List Loc) (ls : Array Slot), lv_has ls 9 [(5, .int i), (4, .ref (ad 75)), (3, .ref (ad 74)), (2, .ref (qd 0)), (1, .ref (ad 0)), (0, .ref b)] → va_P (gD g) zCl (wLaw g ad qd st sv isS hst spare undo seen dbef drec ptx plen ppos pcnt cmds stE stF lch llen u.1 jd mm masd msav misS mpst mchg merr mfai u.2 minp minM mUp mcar mcam mahd magn mltr mbeg mcmd mcmM mpl msz mwr mlin mliM) H → va_D A (wLaw g ad qd st sv isS hst spare undo seen dbef drec ptx plen ppos pcnt cmds stE stF lch llen u.1 jd mm masd msav misS mpst mchg merr mfai u.2 minp minM mUp mcar mcam mahd magn mltr mbeg mcmd mcmM mpl msz mwr mlin mliM) → va_S A s.heap H locs → W p l e room_1 s m #[Value.ref b] below meth c H locs (cells + 51) (slots + 306) (lw_Z below #[Value.ref b] s) (F0 m 2792 ls [])) : W p l e room_1 s m #[Value.ref b] below meth c H locs cells slots (lw_Z below #[Value.ref b] s) (F0 m 2657 ls []) := by
  have hc : cells + 51 ≤ room_1.cells := hc
  have hsl : slots + 306 ≤ room_1.slots := hsl
  unfold G_law_2657 at hF
  refine lv_aload_n hx hb dL_law_2657 rfl (lv_at hl 4 rfl) ?_
  refine lv_aload_n hx hb dL_law_2658 rfl (lv_at hl 5 rfl) ?_
  refine lv_iload hx hb dL_law_2659 (lv_at hl 0 rfl) ?_
  refine lv_iconst (v := 1) hx hb dL_law_2661 (by decide) ?_
  refine lv_iadd hx hb dL_law_2662 ?_
  obtain ⟨zg1, hF⟩ := z_grd hF
  refine va_sld hx hb hX hbl hbA hS zg1 dL_law_2663 ?_
  refine lv_aload_n hx hb dL_law_2664 rfl (lv_at hl 2 rfl) ?_
  obtain ⟨zo2, hzo2, hF⟩ := z_bind hF
  refine z_calli (fun (u : (Nat → Int64)) => (wRootJ g ad st sv isS hst spare undo seen dbef drec ptx plen ppos pcnt cmds stE stF lch llen u)) zLJ (vx_runSW (As := [.ref (ad 0), .int (xs (Int32.toNatClampNeg (i + 1))), .ref (ad 74)]) (rest := []) ⟨hx, hb, hml, hown, hts⟩ (c_L_outputAt l hl0 g ad st sv isS hst spare undo seen dbef drec ptx plen ppos pcnt cmds stE stF lch llen jo _ (xs (Int32.toNatClampNeg (i + 1))) _ hzo2) (vx_cwSW 3 hts (gdS mU_1209 mU_1210 mU_65 mU_1211) rfl rfl rfl (by decide +kernel) ⟨Nat.le_of_ble_eq_true rfl, Nat.le_of_ble_eq_true rfl⟩) ⟨z_blind _ _ _ _, fun U hU hW => z_pre zLJ hP hD hK hB hS hA wLaw_CJ wLaw_NJ hU hW⟩ rfl rfl hl.1 rfl (lv_room (Nat.le_of_ble_eq_true rfl)) dL_law_2665 ⟨by omega, by omega⟩) hP hD hS hA wLaw_CJ (fun _ => rfl) (fun r u H locs hw hP hD hS => ?_)
  obtain ⟨rfl, rfl⟩ := hw
  have hP : va_P (gD g) zCl (wLaw g ad qd st sv isS hst spare undo seen dbef drec ptx plen ppos pcnt cmds stE stF lch llen zo2.2 jd mm masd msav misS mpst mchg merr mfai mthr minp minM mUp mcar mcam mahd magn mltr mbeg mcmd mcmM mpl msz mwr mlin mliM) H := Eq.mp (congrArg (fun w => va_P (gD g) zCl w H) wLaw_SJ) hP
  have hD : va_D A (wLaw g ad qd st sv isS hst spare undo seen dbef drec ptx plen ppos pcnt cmds stE stF lch llen zo2.2 jd mm masd msav misS mpst mchg merr mfai mthr minp minM mUp mcar mcam mahd magn mltr mbeg mcmd mcmM mpl msz mwr mlin mliM) := Eq.mp (congrArg (fun w => va_D A w) wLaw_SJ) hD
  refine lv_istore (lv' := [(6, .int zo2.1), (5, .int i), (4, .ref (ad 75)), (3, .ref (ad 74)), (2, .ref (qd 0)), (1, .ref (ad 0)), (0, .ref b)]) hx hb dL_law_2668 hl (by decide) rfl (fun ls hl => ?_)
  refine lv_aload_n hx hb dL_law_2670 rfl (lv_at hl 4 rfl) ?_
  refine lv_aload_n hx hb dL_law_2671 rfl (lv_at hl 6 rfl) ?_
  refine lv_iload hx hb dL_law_2672 (lv_at hl 1 rfl) ?_
  refine lv_iconst (v := 1) hx hb dL_law_2674 (by decide) ?_
  refine lv_iadd hx hb dL_law_2675 ?_
  obtain ⟨zg3, hF⟩ := z_grd hF
  refine va_sld hx hb hX hbl hbA hS zg3 dL_law_2676 ?_
  obtain ⟨zo4, hzo4, hF⟩ := z_bind hF
  refine z_calli (fun (u : Int32) => (wModel g (qd 0) (qd 1) (qd 2) (qd 3) (qd 4) (qd 5) (qd 6) (qd 7) (qd 8) (qd 9) (qd 10) (qd 11) (qd 12) mm masd msav misS mpst mchg merr mfai u minp minM mUp mcar mcam mahd magn mltr mbeg mcmd mcmM mpl msz mwr mlin mliM)) zLM (va_runV (As := [.int (xs (Int32.toNatClampNeg (i + 1)))]) (rest := []) ⟨hx, hb, hml, hown, hts⟩ (c_X11_outputAt l g (qd 0) (qd 1) (qd 2) (qd 3) (qd 4) (qd 5) (qd 6) (qd 7) (qd 8) (qd 9) (qd 10) (qd 11) (qd 12) mm masd msav misS mpst mchg merr mfai mthr minp minM mUp mcar mcam mahd magn mltr mbeg mcmd mcmM mpl msz mwr mlin mliM _ (xs (Int32.toNatClampNeg (i + 1))) _ hzo4) (cwV 1 hts (gdV mU_1691 mU_1692 mU_1693 mU_75 mU_1694) rfl rfl rfl (by decide +kernel) ⟨Nat.le_of_ble_eq_true rfl, Nat.le_of_ble_eq_true rfl⟩) ⟨z_blind _ _ _ _, va_recv hK hP (ci := 7) (q0 := 76) rfl rfl, fun U hU hW => z_pre zLM hP hD hK hB hS hA wLaw_CM wLaw_NM hU hW⟩ rfl rfl hl.1 rfl (lv_room (Nat.le_of_ble_eq_true rfl)) dL_law_2677 ⟨by omega, by omega⟩) hP hD hS hA wLaw_CM (fun _ => rfl) (fun r u H locs hw hP hD hS => ?_)
  obtain ⟨rfl, rfl⟩ := hw
  have hP : va_P (gD g) zCl (wLaw g ad qd st sv isS hst spare undo seen dbef drec ptx plen ppos pcnt cmds stE stF lch llen zo2.2 jd mm masd msav misS mpst mchg merr mfai zo4.2 minp minM mUp mcar mcam mahd magn mltr mbeg mcmd mcmM mpl msz mwr mlin mliM) H := Eq.mp (congrArg (fun w => va_P (gD g) zCl w H) wLaw_SM) hP
  have hD : va_D A (wLaw g ad qd st sv isS hst spare undo seen dbef drec ptx plen ppos pcnt cmds stE stF lch llen zo2.2 jd mm masd msav misS mpst mchg merr mfai zo4.2 minp minM mUp mcar mcam mahd magn mltr mbeg mcmd mcmM mpl msz mwr mlin mliM) := Eq.mp (congrArg (fun w => va_D A w) wLaw_SM) hD
  refine lv_istore (lv' := [(7, .int zo4.1), (6, .int zo2.1), (5, .int i), (4, .ref (ad 75)), (3, .ref (ad 74)), (2, .ref (qd 0)), (1, .ref (ad 0)), (0, .ref b)]) hx hb dL_law_2680 hl (by decide) rfl (fun ls hl => ?_)
  refine lv_aload_n hx hb dL_law_2682 rfl (lv_at hl 5 rfl) ?_
  obtain ⟨zo5, hzo5, hF⟩ := z_bind hF
  refine z_calli (fun (_ : Unit) => (wModel g (qd 0) (qd 1) (qd 2) (qd 3) (qd 4) (qd 5) (qd 6) (qd 7) (qd 8) (qd 9) (qd 10) (qd 11) (qd 12) mm masd msav misS mpst mchg merr mfai zo4.2 minp minM mUp mcar mcam mahd magn mltr mbeg mcmd mcmM mpl msz mwr mlin mliM)) zLM (va_runV (As := []) (rest := []) ⟨hx, hb, hml, hown, hts⟩ (c_X11_thrown l g (qd 0) (qd 1) (qd 2) (qd 3) (qd 4) (qd 5) (qd 6) (qd 7) (qd 8) (qd 9) (qd 10) (qd 11) (qd 12) mm masd msav misS mpst mchg merr mfai zo4.2 minp minM mUp mcar mcam mahd magn mltr mbeg mcmd mcmM mpl msz mwr mlin mliM _ _ hzo5) (cwV 0 hts (gdV mU_1321 mU_1322 mU_1323 mU_75 mU_1324) rfl rfl rfl (by decide +kernel) ⟨Nat.le_of_ble_eq_true rfl, Nat.le_of_ble_eq_true rfl⟩) ⟨z_blind _ _ _ _, va_recv hK hP (ci := 7) (q0 := 76) rfl rfl, fun U hU hW => z_pre zLM hP hD hK hB hS hA wLaw_CM wLaw_NM hU hW⟩ rfl rfl hl.1 rfl (lv_room (Nat.le_of_ble_eq_true rfl)) dL_law_2683 ⟨by omega, by omega⟩) hP hD hS hA wLaw_CM (fun _ => rfl) (fun r u H locs hw hP hD hS => ?_)
  subst hw
  have hP : va_P (gD g) zCl (wLaw g ad qd st sv isS hst spare undo seen dbef drec ptx plen ppos pcnt cmds stE stF lch llen zo2.2 jd mm masd msav misS mpst mchg merr mfai zo4.2 minp minM mUp mcar mcam mahd magn mltr mbeg mcmd mcmM mpl msz mwr mlin mliM) H := Eq.mp (congrArg (fun w => va_P (gD g) zCl w H) wLaw_SM) hP
  have hD : va_D A (wLaw g ad qd st sv isS hst spare undo seen dbef drec ptx plen ppos pcnt cmds stE stF lch llen zo2.2 jd mm masd msav misS mpst mchg merr mfai zo4.2 minp minM mUp mcar mcam mahd magn mltr mbeg mcmd mcmM mpl msz mwr mlin mliM) := Eq.mp (congrArg (fun w => va_D A w) wLaw_SM) hD
  refine lv_iload hx hb dL_law_2686 (lv_at hl 1 rfl) ?_
  refine lv_icmp_eq (tgt := 2693) hx hb dL_law_2688 (by decide) (fun zc6 => ?_) (fun zc6 => ?_)
  · have hF := z_pos hF zc6
    refine lv_iload hx hb dL_law_2693 (lv_at hl 1 rfl) ?_
    refine lv_if_ne (tgt := 2710) hx hb dL_law_2695 (by decide) (fun zc7 => ?_) (fun zc7 => ?_)
    · have hF := z_neg hF zc7
      refine lv_goto (tgt := 2792) hx hb dL_law_2710 (by decide) ?_
      have ho := (Option.some.inj hF).symm
      subst ho
      refine W.widen (k := cells + 51) (n := slots + 306) (by omega) (by omega) ?_
      exact kj _ _ _ (lv_sub hl [2, 3, 4, 5, 6, 7] rfl) hP hD hS
    · have hF := z_pos hF zc7
      refine lv_aload_n hx hb dL_law_2698 rfl (lv_at hl 4 rfl) ?_
      refine lv_iconst (v := 0) hx hb dL_law_2699 (by decide) ?_
      refine va_lald hx hb hK hP 74 2 rfl rfl (by unfold vp_in; decide) dL_law_2700 ?_
      refine lv_iload hx hb dL_law_2701 (lv_at hl 0 rfl) ?_
      refine lv_i2l (v := (Int32.toInt64 zo4.1)) hx hb dL_law_2703 rfl ?_
      refine z_lcmp_eq (tgt := 2710) hx hb dL_law_2704 dL_law_2705 (by decide) (fun zc8 => ?_) (fun zc8 => ?_)
      · have hF := z_pos hF zc8
        refine lv_goto (tgt := 2792) hx hb dL_law_2710 (by decide) ?_
        have ho := (Option.some.inj hF).symm
        subst ho
        refine W.widen (k := cells + 51) (n := slots + 306) (by omega) (by omega) ?_
        exact kj _ _ _ (lv_sub hl [2, 3, 4, 5, 6, 7] rfl) hP hD hS
      · have hF := z_neg hF zc8
        refine lv_iconst (v := 0) hx hb dL_law_2708 (by decide) ?_
        exact absurd hF (by simp)
  · have hF := z_neg hF zc6
    refine lv_iconst (v := 0) hx hb dL_law_2691 (by decide) ?_
    exact absurd hF (by simp)
set_option maxHeartbeats 4000000 in
set_option maxRecDepth 100000 in
theorem k_law_2713 {p : Program} {e : Env} {s : State} {m : MethodId} {below : List Frame} {meth : Method} {c : Code} (l : Launch) (hl0 : l.stackTraces = false) {b L : Nat} {xs : Nat → Int32} (hx : p.tables.exec = Jvm.exec) (hb : c.code = cL_law) (hml : c.maxLocals = 9) (hown : s.vm.findClass RL = some m.cls) (hts : ∀ w ∈ wU, w.before #[Value.ref b] s = true) (hX : va_X b L xs s s.heap) (hbl : b < s.heap.size) {A : Nat → Prop} (hbA : ¬ A b) (hA : ∀ q, s.heap.size ≤ q → A q) (g : GG) (ad qd : Nat → Nat) (st : SS) (sv : SS) (isS : Int32) (hst : Nat → SS) (spare : Int32) (undo : Int32) (seen : Nat → Int32) (dbef : Int32) (drec : Int32) (ptx : Nat → Int32) (plen : Int32) (ppos : Int32) (pcnt : Int32) (cmds : Nat → CC) (stE : Int32) (stF : Int32) (lch : Nat → Int32) (llen : Int32) (jo : Nat → Int64) (jd : Nat → UInt64) (mm : Nat → Int64) (masd : Nat → Int64) (msav : Nat → Int64) (misS : Int32) (mpst : Nat → Int64) (mchg : Int32) (merr : Int32) (mfai : Int32) (mthr : Int32) (minp : Nat → Int32) (minM : Int32) (mUp : Nat → Int32) (mcar : Nat → Int32) (mcam : Nat → Int32) (mahd : Int32) (magn : Int32) (mltr : Nat → Int32) (mbeg : Nat → Int32) (mcmd : Nat → Int32) (mcmM : Int32) (mpl : Int32) (msz : Int32) (mwr : Int32) (mlin : Nat → Int32) (mliM : Int32) (hK : va_K (gD g) zCl (gT g) s) (hB : KB g A s s.heap) (fu : Nat) (i : Int32) (u : SS × Int32 × Int32 × (Nat → Int64) × (Nat → Int64) × Int32 × Int32) (hF : G_law_2713 fu st hst spare undo jo mm mpst mchg mthr L xs i = some u) {H : Heap} {locs : List Loc} {ls : Array Slot} {cells slots : Nat} (hc : cells + 51 ≤ 603072) (hsl : slots + 306 ≤ 7170153) (hl : lv_has ls 9 [(5, .int i), (4, .ref (ad 75)), (3, .ref (ad 74)), (2, .ref (qd 0)), (1, .ref (ad 0)), (0, .ref b)]) (hP : va_P (gD g) zCl (wLaw g ad qd st sv isS hst spare undo seen dbef drec ptx plen ppos pcnt cmds stE stF lch llen jo jd mm masd msav misS mpst mchg merr mfai mthr minp minM mUp mcar mcam mahd magn mltr mbeg mcmd mcmM mpl msz mwr mlin mliM) H) (hD : va_D A (wLaw g ad qd st sv isS hst spare undo seen dbef drec ptx plen ppos pcnt cmds stE stF lch llen jo jd mm masd msav misS mpst mchg merr mfai mthr minp minM mUp mcar mcam mahd magn mltr mbeg mcmd mcmM mpl msz mwr mlin mliM)) (hS : va_S A s.heap H locs)
    (kj : ∀ (H : Heap) (locs : List Loc) (ls : Array Slot), lv_has ls 9 [(5, .int i), (4, .ref (ad 75)), (3, .ref (ad 74)), (2, .ref (qd 0)), (1, .ref (ad 0)), (0, .ref b)] → va_P (gD g) zCl (wLaw g ad qd u.1 sv isS hst u.2.1 u.2.2.1 seen dbef drec ptx plen ppos pcnt cmds stE stF lch llen u.2.2.2.1 jd u.2.2.2.2.1 masd msav misS mpst u.2.2.2.2.2.1 merr mfai u.2.2.2.2.2.2 minp minM mUp mcar mcam mahd magn mltr mbeg mcmd mcmM mpl msz mwr mlin mliM) H → va_D A (wLaw g ad qd u.1 sv isS hst u.2.1 u.2.2.1 seen dbef drec ptx plen ppos pcnt cmds stE stF lch llen u.2.2.2.1 jd u.2.2.2.2.1 masd msav misS mpst u.2.2.2.2.2.1 merr mfai u.2.2.2.2.2.2 minp minM mUp mcar mcam mahd magn mltr mbeg mcmd mcmM mpl msz mwr mlin mliM) → va_S A s.heap H locs → W p l e room_1 s m #[Value.ref b] below meth c H locs (cells + 51) (slots + 306) (lw_Z below #[Value.ref b] s) (F0 m 2792 ls [])) : W p l e room_1 s m #[Value.ref b] below meth c H locs cells slots (lw_Z below #[Value.ref b] s) (F0 m 2713 ls []) := by
  have hc : cells + 51 ≤ room_1.cells := hc
  have hsl : slots + 306 ≤ room_1.slots := hsl
  unfold G_law_2713 at hF
  refine lv_aload_n hx hb dL_law_2713 rfl (lv_at hl 4 rfl) ?_
  refine lv_aload_n hx hb dL_law_2714 rfl (lv_at hl 2 rfl) ?_
  obtain ⟨zo1, hzo1, hF⟩ := z_bind hF
  refine z_calli (fun (u : SS × Int32 × Int32 × (Nat → Int64)) => (wRootJ g ad u.1 sv isS hst u.2.1 u.2.2.1 seen dbef drec ptx plen ppos pcnt cmds stE stF lch llen u.2.2.2)) zLJ (vx_runSW (As := [.ref (ad 0), .ref (ad 74)]) (rest := []) ⟨hx, hb, hml, hown, hts⟩ (c_L_undo l hl0 g ad st sv isS hst spare undo seen dbef drec ptx plen ppos pcnt cmds stE stF lch llen jo _ _ hzo1) (vx_cwSW 2 hts (gdS mU_1217 mU_1218 mU_65 mU_1219) rfl rfl rfl (by decide +kernel) ⟨Nat.le_of_ble_eq_true rfl, Nat.le_of_ble_eq_true rfl⟩) ⟨z_blind _ _ _ _, fun U hU hW => z_pre zLJ hP hD hK hB hS hA wLaw_CJ wLaw_NJ hU hW⟩ rfl rfl hl.1 rfl (lv_room (Nat.le_of_ble_eq_true rfl)) dL_law_2715 ⟨by omega, by omega⟩) hP hD hS hA wLaw_CJ (fun _ => rfl) (fun r u H locs hw hP hD hS => ?_)
  obtain ⟨rfl, rfl⟩ := hw
  have hP : va_P (gD g) zCl (wLaw g ad qd zo1.2.1 sv isS hst zo1.2.2.1 zo1.2.2.2.1 seen dbef drec ptx plen ppos pcnt cmds stE stF lch llen zo1.2.2.2.2 jd mm masd msav misS mpst mchg merr mfai mthr minp minM mUp mcar mcam mahd magn mltr mbeg mcmd mcmM mpl msz mwr mlin mliM) H := Eq.mp (congrArg (fun w => va_P (gD g) zCl w H) wLaw_SJ) hP
  have hD : va_D A (wLaw g ad qd zo1.2.1 sv isS hst zo1.2.2.1 zo1.2.2.2.1 seen dbef drec ptx plen ppos pcnt cmds stE stF lch llen zo1.2.2.2.2 jd mm masd msav misS mpst mchg merr mfai mthr minp minM mUp mcar mcam mahd magn mltr mbeg mcmd mcmM mpl msz mwr mlin mliM) := Eq.mp (congrArg (fun w => va_D A w) wLaw_SJ) hD
  refine lv_istore (lv' := [(6, .int zo1.1), (5, .int i), (4, .ref (ad 75)), (3, .ref (ad 74)), (2, .ref (qd 0)), (1, .ref (ad 0)), (0, .ref b)]) hx hb dL_law_2718 hl (by decide) rfl (fun ls hl => ?_)
  refine lv_aload_n hx hb dL_law_2720 rfl (lv_at hl 4 rfl) ?_
  obtain ⟨zo2, hzo2, hF⟩ := z_bind hF
  refine z_calli (fun (u : (Nat → Int64) × Int32 × Int32) => (wModel g (qd 0) (qd 1) (qd 2) (qd 3) (qd 4) (qd 5) (qd 6) (qd 7) (qd 8) (qd 9) (qd 10) (qd 11) (qd 12) u.1 masd msav misS mpst u.2.1 merr mfai u.2.2 minp minM mUp mcar mcam mahd magn mltr mbeg mcmd mcmM mpl msz mwr mlin mliM)) zLM (va_runV (As := []) (rest := []) ⟨hx, hb, hml, hown, hts⟩ (c_X11_undo l g (qd 0) (qd 1) (qd 2) (qd 3) (qd 4) (qd 5) (qd 6) (qd 7) (qd 8) (qd 9) (qd 10) (qd 11) (qd 12) mm masd msav misS mpst mchg merr mfai mthr minp minM mUp mcar mcam mahd magn mltr mbeg mcmd mcmM mpl msz mwr mlin mliM _ fu _ hzo2) (cwV 0 hts (gdV mU_1695 mU_1696 mU_1697 mU_75 mU_1698) rfl rfl rfl (by decide +kernel) ⟨Nat.le_of_ble_eq_true rfl, Nat.le_of_ble_eq_true rfl⟩) ⟨z_blind _ _ _ _, va_recv hK hP (ci := 7) (q0 := 76) rfl rfl, fun U hU hW => z_pre zLM hP hD hK hB hS hA wLaw_CM wLaw_NM hU hW⟩ rfl rfl hl.1 rfl (lv_room (Nat.le_of_ble_eq_true rfl)) dL_law_2721 ⟨by omega, by omega⟩) hP hD hS hA wLaw_CM (fun _ => rfl) (fun r u H locs hw hP hD hS => ?_)
  obtain ⟨rfl, rfl⟩ := hw
  have hP : va_P (gD g) zCl (wLaw g ad qd zo1.2.1 sv isS hst zo1.2.2.1 zo1.2.2.2.1 seen dbef drec ptx plen ppos pcnt cmds stE stF lch llen zo1.2.2.2.2 jd zo2.2.1 masd msav misS mpst zo2.2.2.1 merr mfai zo2.2.2.2 minp minM mUp mcar mcam mahd magn mltr mbeg mcmd mcmM mpl msz mwr mlin mliM) H := Eq.mp (congrArg (fun w => va_P (gD g) zCl w H) wLaw_SM) hP
  have hD : va_D A (wLaw g ad qd zo1.2.1 sv isS hst zo1.2.2.1 zo1.2.2.2.1 seen dbef drec ptx plen ppos pcnt cmds stE stF lch llen zo1.2.2.2.2 jd zo2.2.1 masd msav misS mpst zo2.2.2.1 merr mfai zo2.2.2.2 minp minM mUp mcar mcam mahd magn mltr mbeg mcmd mcmM mpl msz mwr mlin mliM) := Eq.mp (congrArg (fun w => va_D A w) wLaw_SM) hD
  refine lv_istore (lv' := [(7, .int zo2.1), (6, .int zo1.1), (5, .int i), (4, .ref (ad 75)), (3, .ref (ad 74)), (2, .ref (qd 0)), (1, .ref (ad 0)), (0, .ref b)]) hx hb dL_law_2724 hl (by decide) rfl (fun ls hl => ?_)
  refine lv_aload_n hx hb dL_law_2726 rfl (lv_at hl 5 rfl) ?_
  obtain ⟨zo3, hzo3, hF⟩ := z_bind hF
  refine z_calli (fun (_ : Unit) => (wModel g (qd 0) (qd 1) (qd 2) (qd 3) (qd 4) (qd 5) (qd 6) (qd 7) (qd 8) (qd 9) (qd 10) (qd 11) (qd 12) zo2.2.1 masd msav misS mpst zo2.2.2.1 merr mfai zo2.2.2.2 minp minM mUp mcar mcam mahd magn mltr mbeg mcmd mcmM mpl msz mwr mlin mliM)) zLM (va_runV (As := []) (rest := []) ⟨hx, hb, hml, hown, hts⟩ (c_X11_thrown l g (qd 0) (qd 1) (qd 2) (qd 3) (qd 4) (qd 5) (qd 6) (qd 7) (qd 8) (qd 9) (qd 10) (qd 11) (qd 12) zo2.2.1 masd msav misS mpst zo2.2.2.1 merr mfai zo2.2.2.2 minp minM mUp mcar mcam mahd magn mltr mbeg mcmd mcmM mpl msz mwr mlin mliM _ _ hzo3) (cwV 0 hts (gdV mU_1321 mU_1322 mU_1323 mU_75 mU_1324) rfl rfl rfl (by decide +kernel) ⟨Nat.le_of_ble_eq_true rfl, Nat.le_of_ble_eq_true rfl⟩) ⟨z_blind _ _ _ _, va_recv hK hP (ci := 7) (q0 := 76) rfl rfl, fun U hU hW => z_pre zLM hP hD hK hB hS hA wLaw_CM wLaw_NM hU hW⟩ rfl rfl hl.1 rfl (lv_room (Nat.le_of_ble_eq_true rfl)) dL_law_2727 ⟨by omega, by omega⟩) hP hD hS hA wLaw_CM (fun _ => rfl) (fun r u H locs hw hP hD hS => ?_)
  subst hw
  have hP : va_P (gD g) zCl (wLaw g ad qd zo1.2.1 sv isS hst zo1.2.2.1 zo1.2.2.2.1 seen dbef drec ptx plen ppos pcnt cmds stE stF lch llen zo1.2.2.2.2 jd zo2.2.1 masd msav misS mpst zo2.2.2.1 merr mfai zo2.2.2.2 minp minM mUp mcar mcam mahd magn mltr mbeg mcmd mcmM mpl msz mwr mlin mliM) H := Eq.mp (congrArg (fun w => va_P (gD g) zCl w H) wLaw_SM) hP
  have hD : va_D A (wLaw g ad qd zo1.2.1 sv isS hst zo1.2.2.1 zo1.2.2.2.1 seen dbef drec ptx plen ppos pcnt cmds stE stF lch llen zo1.2.2.2.2 jd zo2.2.1 masd msav misS mpst zo2.2.2.1 merr mfai zo2.2.2.2 minp minM mUp mcar mcam mahd magn mltr mbeg mcmd mcmM mpl msz mwr mlin mliM) := Eq.mp (congrArg (fun w => va_D A w) wLaw_SM) hD
  refine lv_iload hx hb dL_law_2730 (lv_at hl 1 rfl) ?_
  refine lv_icmp_eq (tgt := 2737) hx hb dL_law_2732 (by decide) (fun zc4 => ?_) (fun zc4 => ?_)
  · have hF := z_pos hF zc4
    refine lv_iload hx hb dL_law_2737 (lv_at hl 1 rfl) ?_
    refine lv_if_ne (tgt := 2754) hx hb dL_law_2739 (by decide) (fun zc5 => ?_) (fun zc5 => ?_)
    · have hF := z_neg hF zc5
      refine lv_goto (tgt := 2792) hx hb dL_law_2754 (by decide) ?_
      have ho := (Option.some.inj hF).symm
      subst ho
      refine W.widen (k := cells + 51) (n := slots + 306) (by omega) (by omega) ?_
      exact kj _ _ _ (lv_sub hl [2, 3, 4, 5, 6, 7] rfl) hP hD hS
    · have hF := z_pos hF zc5
      refine lv_aload_n hx hb dL_law_2742 rfl (lv_at hl 4 rfl) ?_
      refine lv_iconst (v := 0) hx hb dL_law_2743 (by decide) ?_
      refine va_lald hx hb hK hP 74 2 rfl rfl (by unfold vp_in; decide) dL_law_2744 ?_
      refine lv_iload hx hb dL_law_2745 (lv_at hl 0 rfl) ?_
      refine lv_i2l (v := (Int32.toInt64 zo2.1)) hx hb dL_law_2747 rfl ?_
      refine z_lcmp_eq (tgt := 2754) hx hb dL_law_2748 dL_law_2749 (by decide) (fun zc6 => ?_) (fun zc6 => ?_)
      · have hF := z_pos hF zc6
        refine lv_goto (tgt := 2792) hx hb dL_law_2754 (by decide) ?_
        have ho := (Option.some.inj hF).symm
        subst ho
        refine W.widen (k := cells + 51) (n := slots + 306) (by omega) (by omega) ?_
        exact kj _ _ _ (lv_sub hl [2, 3, 4, 5, 6, 7] rfl) hP hD hS
      · have hF := z_neg hF zc6
        refine lv_iconst (v := 0) hx hb dL_law_2752 (by decide) ?_
        exact absurd hF (by simp)
  · have hF := z_neg hF zc4
    refine lv_iconst (v := 0) hx hb dL_law_2735 (by decide) ?_
    exact absurd hF (by simp)
set_option maxHeartbeats 4000000 in
set_option maxRecDepth 100000 in
theorem k_law_2757 {p : Program} {e : Env} {s : State} {m : MethodId} {below : List Frame} {meth : Method} {c : Code} (l : Launch) (hl0 : l.stackTraces = false) {b L : Nat} {xs : Nat → Int32} (hx : p.tables.exec = Jvm.exec) (hb : c.code = cL_law) (hml : c.maxLocals = 9) (hown : s.vm.findClass RL = some m.cls) (hts : ∀ w ∈ wU, w.before #[Value.ref b] s = true) (hX : va_X b L xs s s.heap) (hbl : b < s.heap.size) {A : Nat → Prop} (hbA : ¬ A b) (hA : ∀ q, s.heap.size ≤ q → A q) (g : GG) (ad qd : Nat → Nat) (st : SS) (sv : SS) (isS : Int32) (hst : Nat → SS) (spare : Int32) (undo : Int32) (seen : Nat → Int32) (dbef : Int32) (drec : Int32) (ptx : Nat → Int32) (plen : Int32) (ppos : Int32) (pcnt : Int32) (cmds : Nat → CC) (stE : Int32) (stF : Int32) (lch : Nat → Int32) (llen : Int32) (jo : Nat → Int64) (jd : Nat → UInt64) (mm : Nat → Int64) (masd : Nat → Int64) (msav : Nat → Int64) (misS : Int32) (mpst : Nat → Int64) (mchg : Int32) (merr : Int32) (mfai : Int32) (mthr : Int32) (minp : Nat → Int32) (minM : Int32) (mUp : Nat → Int32) (mcar : Nat → Int32) (mcam : Nat → Int32) (mahd : Int32) (magn : Int32) (mltr : Nat → Int32) (mbeg : Nat → Int32) (mcmd : Nat → Int32) (mcmM : Int32) (mpl : Int32) (msz : Int32) (mwr : Int32) (mlin : Nat → Int32) (mliM : Int32) (hK : va_K (gD g) zCl (gT g) s) (hB : KB g A s s.heap) (fu : Nat) (i : Int32) (u : SS × Int32 × (Nat → Int64) × Int32 × Int32) (hF : G_law_2757 fu st sv isS mm msav misS mthr L xs i = some u) {H : Heap} {locs : List Loc} {ls : Array Slot} {cells slots : Nat} (hc : cells + 51 ≤ 603072) (hsl : slots + 306 ≤ 7170153) (hl : lv_has ls 9 [(5, .int i), (4, .ref (ad 75)), (3, .ref (ad 74)), (2, .ref (qd 0)), (1, .ref (ad 0)), (0, .ref b)]) (hP : va_P (gD g) zCl (wLaw g ad qd st sv isS hst spare undo seen dbef drec ptx plen ppos pcnt cmds stE stF lch llen jo jd mm masd msav misS mpst mchg merr mfai mthr minp minM mUp mcar mcam mahd magn mltr mbeg mcmd mcmM mpl msz mwr mlin mliM) H) (hD : va_D A (wLaw g ad qd st sv isS hst spare undo seen dbef drec ptx plen ppos pcnt cmds stE stF lch llen jo jd mm masd msav misS mpst mchg merr mfai mthr minp minM mUp mcar mcam mahd magn mltr mbeg mcmd mcmM mpl msz mwr mlin mliM)) (hS : va_S A s.heap H locs)
    (kj : ∀ (H : Heap) (locs : List Loc) (ls : Array Slot), lv_has ls 9 [(5, .int i), (4, .ref (ad 75)), (3, .ref (ad 74)), (2, .ref (qd 0)), (1, .ref (ad 0)), (0, .ref b)] → va_P (gD g) zCl (wLaw g ad qd st u.1 u.2.1 hst spare undo seen dbef drec ptx plen ppos pcnt cmds stE stF lch llen jo jd mm masd u.2.2.1 u.2.2.2.1 mpst mchg merr mfai u.2.2.2.2 minp minM mUp mcar mcam mahd magn mltr mbeg mcmd mcmM mpl msz mwr mlin mliM) H → va_D A (wLaw g ad qd st u.1 u.2.1 hst spare undo seen dbef drec ptx plen ppos pcnt cmds stE stF lch llen jo jd mm masd u.2.2.1 u.2.2.2.1 mpst mchg merr mfai u.2.2.2.2 minp minM mUp mcar mcam mahd magn mltr mbeg mcmd mcmM mpl msz mwr mlin mliM) → va_S A s.heap H locs → W p l e room_1 s m #[Value.ref b] below meth c H locs (cells + 51) (slots + 306) (lw_Z below #[Value.ref b] s) (F0 m 2792 ls [])) : W p l e room_1 s m #[Value.ref b] below meth c H locs cells slots (lw_Z below #[Value.ref b] s) (F0 m 2757 ls []) := by
  have hc : cells + 51 ≤ room_1.cells := hc
  have hsl : slots + 306 ≤ room_1.slots := hsl
  unfold G_law_2757 at hF
  refine lv_aload_n hx hb dL_law_2757 rfl (lv_at hl 4 rfl) ?_
  obtain ⟨zo1, hzo1, hF⟩ := z_bind hF
  refine z_callv (fun (u : SS × Int32) => (wRoot g ad st u.1 u.2 hst spare undo seen dbef drec ptx plen ppos pcnt cmds stE stF lch llen)) zRJ (va_runV (As := []) (rest := []) ⟨hx, hb, hml, hown, hts⟩ (c_X10_save l g ad st sv isS hst spare undo seen dbef drec ptx plen ppos pcnt cmds stE stF lch llen _ _ hzo1) (cwV 0 hts (gdV mU_422 mU_423 mU_424 mU_66 mU_425) rfl rfl rfl (by decide +kernel) ⟨Nat.le_of_ble_eq_true rfl, Nat.le_of_ble_eq_true rfl⟩) ⟨z_blind _ _ _ _, va_recv hK hP (ci := 6) (q0 := 0) rfl rfl, fun U hU hW => z_pre zRJ hP hD hK hB hS hA wLaw_CR wRootJ_N hU hW⟩ rfl rfl hl.1 rfl (lv_room (Nat.le_of_ble_eq_true rfl)) dL_law_2758 ⟨by omega, by omega⟩) hP hD hS hA wLaw_CR (fun _ => rfl) (fun u H locs hw hP hD hS => ?_)
  subst hw
  have hP : va_P (gD g) zCl (wLaw g ad qd st zo1.1 zo1.2 hst spare undo seen dbef drec ptx plen ppos pcnt cmds stE stF lch llen jo jd mm masd msav misS mpst mchg merr mfai mthr minp minM mUp mcar mcam mahd magn mltr mbeg mcmd mcmM mpl msz mwr mlin mliM) H := Eq.mp (congrArg (fun w => va_P (gD g) zCl w H) wLaw_SR) hP
  have hD : va_D A (wLaw g ad qd st zo1.1 zo1.2 hst spare undo seen dbef drec ptx plen ppos pcnt cmds stE stF lch llen jo jd mm masd msav misS mpst mchg merr mfai mthr minp minM mUp mcar mcam mahd magn mltr mbeg mcmd mcmM mpl msz mwr mlin mliM) := Eq.mp (congrArg (fun w => va_D A w) wLaw_SR) hD
  refine lv_aload_n hx hb dL_law_2761 rfl (lv_at hl 3 rfl) ?_
  obtain ⟨zo2, hzo2, hF⟩ := z_bind hF
  refine z_callv (fun (u : (Nat → Int64) × Int32 × Int32) => (wModel g (qd 0) (qd 1) (qd 2) (qd 3) (qd 4) (qd 5) (qd 6) (qd 7) (qd 8) (qd 9) (qd 10) (qd 11) (qd 12) mm masd u.1 u.2.1 mpst mchg merr mfai u.2.2 minp minM mUp mcar mcam mahd magn mltr mbeg mcmd mcmM mpl msz mwr mlin mliM)) zLM (va_runV (As := []) (rest := []) ⟨hx, hb, hml, hown, hts⟩ (c_X11_save l g (qd 0) (qd 1) (qd 2) (qd 3) (qd 4) (qd 5) (qd 6) (qd 7) (qd 8) (qd 9) (qd 10) (qd 11) (qd 12) mm masd msav misS mpst mchg merr mfai mthr minp minM mUp mcar mcam mahd magn mltr mbeg mcmd mcmM mpl msz mwr mlin mliM _ fu _ hzo2) (cwV 0 hts (gdV mU_1699 mU_1700 mU_1701 mU_75 mU_1702) rfl rfl rfl (by decide +kernel) ⟨Nat.le_of_ble_eq_true rfl, Nat.le_of_ble_eq_true rfl⟩) ⟨z_blind _ _ _ _, va_recv hK hP (ci := 7) (q0 := 76) rfl rfl, fun U hU hW => z_pre zLM hP hD hK hB hS hA wLaw_CM wLaw_NM hU hW⟩ rfl rfl hl.1 rfl (lv_room (Nat.le_of_ble_eq_true rfl)) dL_law_2762 ⟨by omega, by omega⟩) hP hD hS hA wLaw_CM (fun _ => rfl) (fun u H locs hw hP hD hS => ?_)
  subst hw
  have hP : va_P (gD g) zCl (wLaw g ad qd st zo1.1 zo1.2 hst spare undo seen dbef drec ptx plen ppos pcnt cmds stE stF lch llen jo jd mm masd zo2.1 zo2.2.1 mpst mchg merr mfai zo2.2.2 minp minM mUp mcar mcam mahd magn mltr mbeg mcmd mcmM mpl msz mwr mlin mliM) H := Eq.mp (congrArg (fun w => va_P (gD g) zCl w H) wLaw_SM) hP
  have hD : va_D A (wLaw g ad qd st zo1.1 zo1.2 hst spare undo seen dbef drec ptx plen ppos pcnt cmds stE stF lch llen jo jd mm masd zo2.1 zo2.2.1 mpst mchg merr mfai zo2.2.2 minp minM mUp mcar mcam mahd magn mltr mbeg mcmd mcmM mpl msz mwr mlin mliM) := Eq.mp (congrArg (fun w => va_D A w) wLaw_SM) hD
  refine lv_goto (tgt := 2792) hx hb dL_law_2765 (by decide) ?_
  have ho := (Option.some.inj hF).symm
  subst ho
  refine W.widen (k := cells + 51) (n := slots + 306) (by omega) (by omega) ?_
  exact kj _ _ _ (lv_sub hl [0, 1, 2, 3, 4, 5] rfl) hP hD hS
set_option maxHeartbeats 4000000 in
set_option maxRecDepth 100000 in
theorem k_law_2768 {p : Program} {e : Env} {s : State} {m : MethodId} {below : List Frame} {meth : Method} {c : Code} (l : Launch) (hl0 : l.stackTraces = false) {b L : Nat} {xs : Nat → Int32} (hx : p.tables.exec = Jvm.exec) (hb : c.code = cL_law) (hml : c.maxLocals = 9) (hown : s.vm.findClass RL = some m.cls) (hts : ∀ w ∈ wU, w.before #[Value.ref b] s = true) (hX : va_X b L xs s s.heap) (hbl : b < s.heap.size) {A : Nat → Prop} (hbA : ¬ A b) (hA : ∀ q, s.heap.size ≤ q → A q) (g : GG) (ad qd : Nat → Nat) (st : SS) (sv : SS) (isS : Int32) (hst : Nat → SS) (spare : Int32) (undo : Int32) (seen : Nat → Int32) (dbef : Int32) (drec : Int32) (ptx : Nat → Int32) (plen : Int32) (ppos : Int32) (pcnt : Int32) (cmds : Nat → CC) (stE : Int32) (stF : Int32) (lch : Nat → Int32) (llen : Int32) (jo : Nat → Int64) (jd : Nat → UInt64) (mm : Nat → Int64) (masd : Nat → Int64) (msav : Nat → Int64) (misS : Int32) (mpst : Nat → Int64) (mchg : Int32) (merr : Int32) (mfai : Int32) (mthr : Int32) (minp : Nat → Int32) (minM : Int32) (mUp : Nat → Int32) (mcar : Nat → Int32) (mcam : Nat → Int32) (mahd : Int32) (magn : Int32) (mltr : Nat → Int32) (mbeg : Nat → Int32) (mcmd : Nat → Int32) (mcmM : Int32) (mpl : Int32) (msz : Int32) (mwr : Int32) (mlin : Nat → Int32) (mliM : Int32) (hK : va_K (gD g) zCl (gT g) s) (hB : KB g A s s.heap) (fu : Nat) (i : Int32) (u : SS × Int32 × (Nat → Int64) × Int32 × Int32) (hF : G_law_2768 fu st sv isS undo mm msav misS mchg mthr L xs i = some u) {H : Heap} {locs : List Loc} {ls : Array Slot} {cells slots : Nat} (hc : cells + 51 ≤ 603072) (hsl : slots + 306 ≤ 7170153) (hl : lv_has ls 9 [(5, .int i), (4, .ref (ad 75)), (3, .ref (ad 74)), (2, .ref (qd 0)), (1, .ref (ad 0)), (0, .ref b)]) (hP : va_P (gD g) zCl (wLaw g ad qd st sv isS hst spare undo seen dbef drec ptx plen ppos pcnt cmds stE stF lch llen jo jd mm masd msav misS mpst mchg merr mfai mthr minp minM mUp mcar mcam mahd magn mltr mbeg mcmd mcmM mpl msz mwr mlin mliM) H) (hD : va_D A (wLaw g ad qd st sv isS hst spare undo seen dbef drec ptx plen ppos pcnt cmds stE stF lch llen jo jd mm masd msav misS mpst mchg merr mfai mthr minp minM mUp mcar mcam mahd magn mltr mbeg mcmd mcmM mpl msz mwr mlin mliM)) (hS : va_S A s.heap H locs)
    (kj : ∀ (H : Heap) (locs : List Loc) (ls : Array Slot), lv_has ls 9 [(5, .int i), (4, .ref (ad 75)), (3, .ref (ad 74)), (2, .ref (qd 0)), (1, .ref (ad 0)), (0, .ref b)] → va_P (gD g) zCl (wLaw g ad qd u.1 sv isS hst spare u.2.1 seen dbef drec ptx plen ppos pcnt cmds stE stF lch llen jo jd u.2.2.1 masd msav misS mpst u.2.2.2.1 merr mfai u.2.2.2.2 minp minM mUp mcar mcam mahd magn mltr mbeg mcmd mcmM mpl msz mwr mlin mliM) H → va_D A (wLaw g ad qd u.1 sv isS hst spare u.2.1 seen dbef drec ptx plen ppos pcnt cmds stE stF lch llen jo jd u.2.2.1 masd msav misS mpst u.2.2.2.1 merr mfai u.2.2.2.2 minp minM mUp mcar mcam mahd magn mltr mbeg mcmd mcmM mpl msz mwr mlin mliM) → va_S A s.heap H locs → W p l e room_1 s m #[Value.ref b] below meth c H locs (cells + 51) (slots + 306) (lw_Z below #[Value.ref b] s) (F0 m 2792 ls [])) : W p l e room_1 s m #[Value.ref b] below meth c H locs cells slots (lw_Z below #[Value.ref b] s) (F0 m 2768 ls []) := by
  have hc : cells + 51 ≤ room_1.cells := hc
  have hsl : slots + 306 ≤ room_1.slots := hsl
  unfold G_law_2768 at hF
  refine lv_aload_n hx hb dL_law_2768 rfl (lv_at hl 4 rfl) ?_
  obtain ⟨zo1, hzo1, hF⟩ := z_bind hF
  refine z_calli (fun (u : SS × Int32) => (wRoot g ad u.1 sv isS hst spare u.2 seen dbef drec ptx plen ppos pcnt cmds stE stF lch llen)) zRJ (vx_runSW (As := [.ref (ad 0)]) (rest := []) ⟨hx, hb, hml, hown, hts⟩ (c_L_restore l hl0 g ad st sv isS hst spare undo seen dbef drec ptx plen ppos pcnt cmds stE stF lch llen _ _ hzo1) (vx_cwSW 1 hts (gdS mU_1230 mU_1231 mU_65 mU_1232) rfl rfl rfl (by decide +kernel) ⟨Nat.le_of_ble_eq_true rfl, Nat.le_of_ble_eq_true rfl⟩) ⟨z_blind _ _ _ _, fun U hU hW => z_pre zRJ hP hD hK hB hS hA wLaw_CR wRootJ_N hU hW⟩ rfl rfl hl.1 rfl (lv_room (Nat.le_of_ble_eq_true rfl)) dL_law_2769 ⟨by omega, by omega⟩) hP hD hS hA wLaw_CR (fun _ => rfl) (fun r u H locs hw hP hD hS => ?_)
  obtain ⟨rfl, rfl⟩ := hw
  have hP : va_P (gD g) zCl (wLaw g ad qd zo1.2.1 sv isS hst spare zo1.2.2 seen dbef drec ptx plen ppos pcnt cmds stE stF lch llen jo jd mm masd msav misS mpst mchg merr mfai mthr minp minM mUp mcar mcam mahd magn mltr mbeg mcmd mcmM mpl msz mwr mlin mliM) H := Eq.mp (congrArg (fun w => va_P (gD g) zCl w H) wLaw_SR) hP
  have hD : va_D A (wLaw g ad qd zo1.2.1 sv isS hst spare zo1.2.2 seen dbef drec ptx plen ppos pcnt cmds stE stF lch llen jo jd mm masd msav misS mpst mchg merr mfai mthr minp minM mUp mcar mcam mahd magn mltr mbeg mcmd mcmM mpl msz mwr mlin mliM) := Eq.mp (congrArg (fun w => va_D A w) wLaw_SR) hD
  refine lv_istore (lv' := [(6, .int zo1.1), (5, .int i), (4, .ref (ad 75)), (3, .ref (ad 74)), (2, .ref (qd 0)), (1, .ref (ad 0)), (0, .ref b)]) hx hb dL_law_2772 hl (by decide) rfl (fun ls hl => ?_)
  refine lv_aload_n hx hb dL_law_2774 rfl (lv_at hl 4 rfl) ?_
  obtain ⟨zo2, hzo2, hF⟩ := z_bind hF
  refine z_callv (fun (u : (Nat → Int64) × Int32 × Int32) => (wModel g (qd 0) (qd 1) (qd 2) (qd 3) (qd 4) (qd 5) (qd 6) (qd 7) (qd 8) (qd 9) (qd 10) (qd 11) (qd 12) u.1 masd msav misS mpst u.2.1 merr mfai u.2.2 minp minM mUp mcar mcam mahd magn mltr mbeg mcmd mcmM mpl msz mwr mlin mliM)) zLM (va_runV (As := []) (rest := []) ⟨hx, hb, hml, hown, hts⟩ (c_X11_restore l g (qd 0) (qd 1) (qd 2) (qd 3) (qd 4) (qd 5) (qd 6) (qd 7) (qd 8) (qd 9) (qd 10) (qd 11) (qd 12) mm masd msav misS mpst mchg merr mfai mthr minp minM mUp mcar mcam mahd magn mltr mbeg mcmd mcmM mpl msz mwr mlin mliM _ fu _ hzo2) (cwV 0 hts (gdV mU_1703 mU_1704 mU_1705 mU_75 mU_1706) rfl rfl rfl (by decide +kernel) ⟨Nat.le_of_ble_eq_true rfl, Nat.le_of_ble_eq_true rfl⟩) ⟨z_blind _ _ _ _, va_recv hK hP (ci := 7) (q0 := 76) rfl rfl, fun U hU hW => z_pre zLM hP hD hK hB hS hA wLaw_CM wLaw_NM hU hW⟩ rfl rfl hl.1 rfl (lv_room (Nat.le_of_ble_eq_true rfl)) dL_law_2775 ⟨by omega, by omega⟩) hP hD hS hA wLaw_CM (fun _ => rfl) (fun u H locs hw hP hD hS => ?_)
  subst hw
  have hP : va_P (gD g) zCl (wLaw g ad qd zo1.2.1 sv isS hst spare zo1.2.2 seen dbef drec ptx plen ppos pcnt cmds stE stF lch llen jo jd zo2.1 masd msav misS mpst zo2.2.1 merr mfai zo2.2.2 minp minM mUp mcar mcam mahd magn mltr mbeg mcmd mcmM mpl msz mwr mlin mliM) H := Eq.mp (congrArg (fun w => va_P (gD g) zCl w H) wLaw_SM) hP
  have hD : va_D A (wLaw g ad qd zo1.2.1 sv isS hst spare zo1.2.2 seen dbef drec ptx plen ppos pcnt cmds stE stF lch llen jo jd zo2.1 masd msav misS mpst zo2.2.1 merr mfai zo2.2.2 minp minM mUp mcar mcam mahd magn mltr mbeg mcmd mcmM mpl msz mwr mlin mliM) := Eq.mp (congrArg (fun w => va_D A w) wLaw_SM) hD
  refine lv_aload_n hx hb dL_law_2778 rfl (lv_at hl 4 rfl) ?_
  obtain ⟨zo3, hzo3, hF⟩ := z_bind hF
  refine z_calli (fun (_ : Unit) => (wModel g (qd 0) (qd 1) (qd 2) (qd 3) (qd 4) (qd 5) (qd 6) (qd 7) (qd 8) (qd 9) (qd 10) (qd 11) (qd 12) zo2.1 masd msav misS mpst zo2.2.1 merr mfai zo2.2.2 minp minM mUp mcar mcam mahd magn mltr mbeg mcmd mcmM mpl msz mwr mlin mliM)) zLM (va_runV (As := []) (rest := []) ⟨hx, hb, hml, hown, hts⟩ (c_X11_thrown l g (qd 0) (qd 1) (qd 2) (qd 3) (qd 4) (qd 5) (qd 6) (qd 7) (qd 8) (qd 9) (qd 10) (qd 11) (qd 12) zo2.1 masd msav misS mpst zo2.2.1 merr mfai zo2.2.2 minp minM mUp mcar mcam mahd magn mltr mbeg mcmd mcmM mpl msz mwr mlin mliM _ _ hzo3) (cwV 0 hts (gdV mU_1321 mU_1322 mU_1323 mU_75 mU_1324) rfl rfl rfl (by decide +kernel) ⟨Nat.le_of_ble_eq_true rfl, Nat.le_of_ble_eq_true rfl⟩) ⟨z_blind _ _ _ _, va_recv hK hP (ci := 7) (q0 := 76) rfl rfl, fun U hU hW => z_pre zLM hP hD hK hB hS hA wLaw_CM wLaw_NM hU hW⟩ rfl rfl hl.1 rfl (lv_room (Nat.le_of_ble_eq_true rfl)) dL_law_2779 ⟨by omega, by omega⟩) hP hD hS hA wLaw_CM (fun _ => rfl) (fun r u H locs hw hP hD hS => ?_)
  subst hw
  have hP : va_P (gD g) zCl (wLaw g ad qd zo1.2.1 sv isS hst spare zo1.2.2 seen dbef drec ptx plen ppos pcnt cmds stE stF lch llen jo jd zo2.1 masd msav misS mpst zo2.2.1 merr mfai zo2.2.2 minp minM mUp mcar mcam mahd magn mltr mbeg mcmd mcmM mpl msz mwr mlin mliM) H := Eq.mp (congrArg (fun w => va_P (gD g) zCl w H) wLaw_SM) hP
  have hD : va_D A (wLaw g ad qd zo1.2.1 sv isS hst spare zo1.2.2 seen dbef drec ptx plen ppos pcnt cmds stE stF lch llen jo jd zo2.1 masd msav misS mpst zo2.2.1 merr mfai zo2.2.2 minp minM mUp mcar mcam mahd magn mltr mbeg mcmd mcmM mpl msz mwr mlin mliM) := Eq.mp (congrArg (fun w => va_D A w) wLaw_SM) hD
  refine lv_iload hx hb dL_law_2782 (lv_at hl 0 rfl) ?_
  refine lv_icmp_eq (tgt := 2789) hx hb dL_law_2784 (by decide) (fun zc4 => ?_) (fun zc4 => ?_)
  · have hF := z_pos hF zc4
    refine lv_goto (tgt := 2792) hx hb dL_law_2789 (by decide) ?_
    have ho := (Option.some.inj hF).symm
    subst ho
    refine W.widen (k := cells + 51) (n := slots + 306) (by omega) (by omega) ?_
    exact kj _ _ _ (lv_sub hl [1, 2, 3, 4, 5, 6] rfl) hP hD hS
  · have hF := z_neg hF zc4
    refine lv_iconst (v := 0) hx hb dL_law_2787 (by decide) ?_
    exact absurd hF (by simp)
