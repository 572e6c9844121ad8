set_option maxHeartbeats 4000000 in
set_option maxRecDepth 100000 in
theorem k_law_240 {p : Program} {e : Env} {s : State} {m : MethodId} {below : List Frame} {meth : Method} {c : Code} (l : Launch) (hl0 : l.stackTraces = false) {b L : Nat} {xs : Nat → Int32} (hx : p.tables.exec = Jvm.exec) (hb : c.code = cL_law) (hml : c.maxLocals = 9) (hown : s.vm.findClass RL = some m.cls) (hts : ∀ w ∈ wU, w.before #[Value.ref b] s = true) (hX : va_X b L xs s s.heap) (hbl : b < s.heap.size) {A : Nat → Prop} (hbA : ¬ A b) (hA : ∀ q, s.heap.size ≤ q → A q) (g : GG) (ad qd : Nat → Nat) (st : SS) (sv : SS) (isS : Int32) (hst : Nat → SS) (spare : Int32) (undo : Int32) (seen : Nat → Int32) (dbef : Int32) (drec : Int32) (ptx : Nat → Int32) (plen : Int32) (ppos : Int32) (pcnt : Int32) (cmds : Nat → CC) (stE : Int32) (stF : Int32) (lch : Nat → Int32) (llen : Int32) (jo : Nat → Int64) (jd : Nat → UInt64) (mm : Nat → Int64) (masd : Nat → Int64) (msav : Nat → Int64) (misS : Int32) (mpst : Nat → Int64) (mchg : Int32) (merr : Int32) (mfai : Int32) (mthr : Int32) (minp : Nat → Int32) (minM : Int32) (mUp : Nat → Int32) (mcar : Nat → Int32) (mcam : Nat → Int32) (mahd : Int32) (magn : Int32) (mltr : Nat → Int32) (mbeg : Nat → Int32) (mcmd : Nat → Int32) (mcmM : Int32) (mpl : Int32) (msz : Int32) (mwr : Int32) (mlin : Nat → Int32) (mliM : Int32) (hK : va_K (gD g) zCl (gT g) s) (hB : KB g A s s.heap) (fu : Nat) (i : Int32) (u : SS × (Nat → SS) × Int32 × Int32 × (Nat → Int64) × (Nat → Int64) × (Nat → Int64) × (Nat → Int64) × Int32 × Int32) (hF : G_law_240 fu st hst spare undo jo mm masd mpst mchg mthr L xs i = some u) {H : Heap} {locs : List Loc} {ls : Array Slot} {cells slots : Nat} (hc : cells + 51 ≤ 603072) (hsl : slots + 306 ≤ 7170153) (hl : lv_has ls 9 [(5, .int i), (4, .ref (ad 75)), (3, .ref (ad 74)), (2, .ref (qd 0)), (1, .ref (ad 0)), (0, .ref b)]) (hP : va_P (gD g) zCl (wLaw g ad qd st sv isS hst spare undo seen dbef drec ptx plen ppos pcnt cmds stE stF lch llen jo jd mm masd msav misS mpst mchg merr mfai mthr minp minM mUp mcar mcam mahd magn mltr mbeg mcmd mcmM mpl msz mwr mlin mliM) H) (hD : va_D A (wLaw g ad qd st sv isS hst spare undo seen dbef drec ptx plen ppos pcnt cmds stE stF lch llen jo jd mm masd msav misS mpst mchg merr mfai mthr minp minM mUp mcar mcam mahd magn mltr mbeg mcmd mcmM mpl msz mwr mlin mliM)) (hS : va_S A s.heap H locs)
    (kj : ∀ (H : Heap) (locs : List Loc) (ls : Array Slot), lv_has ls 9 [(5, .int i), (4, .ref (ad 75)), (3, .ref (ad 74)), (2, .ref (qd 0)), (1, .ref (ad 0)), (0, .ref b)] → va_P (gD g) zCl (wLaw g ad qd u.1 sv isS u.2.1 u.2.2.1 u.2.2.2.1 seen dbef drec ptx plen ppos pcnt cmds stE stF lch llen u.2.2.2.2.1 jd u.2.2.2.2.2.1 u.2.2.2.2.2.2.1 msav misS u.2.2.2.2.2.2.2.1 u.2.2.2.2.2.2.2.2.1 merr mfai u.2.2.2.2.2.2.2.2.2 minp minM mUp mcar mcam mahd magn mltr mbeg mcmd mcmM mpl msz mwr mlin mliM) H → va_D A (wLaw g ad qd u.1 sv isS u.2.1 u.2.2.1 u.2.2.2.1 seen dbef drec ptx plen ppos pcnt cmds stE stF lch llen u.2.2.2.2.1 jd u.2.2.2.2.2.1 u.2.2.2.2.2.2.1 msav misS u.2.2.2.2.2.2.2.1 u.2.2.2.2.2.2.2.2.1 merr mfai u.2.2.2.2.2.2.2.2.2 minp minM mUp mcar mcam mahd magn mltr mbeg mcmd mcmM mpl msz mwr mlin mliM) → va_S A s.heap H locs → W p l e room_1 s m #[Value.ref b] below meth c H locs (cells + 51) (slots + 306) (lw_Z below #[Value.ref b] s) (F0 m 2792 ls [])) : W p l e room_1 s m #[Value.ref b] below meth c H locs cells slots (lw_Z below #[Value.ref b] s) (F0 m 240 ls []) := by
  have hc : cells + 51 ≤ room_1.cells := hc
  have hsl : slots + 306 ≤ room_1.slots := hsl
  unfold G_law_240 at hF
  refine lv_aload_n hx hb dL_law_240 rfl (lv_at hl 4 rfl) ?_
  refine lv_aload_n hx hb dL_law_241 rfl (lv_at hl 5 rfl) ?_
  refine lv_iload hx hb dL_law_242 (lv_at hl 0 rfl) ?_
  refine lv_iconst (v := 1) hx hb dL_law_244 (by decide) ?_
  refine lv_iadd hx hb dL_law_245 ?_
  obtain ⟨zg1, hF⟩ := z_grd hF
  refine va_sld hx hb hX hbl hbA hS zg1 dL_law_246 ?_
  refine lv_aload_n hx hb dL_law_247 rfl (lv_at hl 5 rfl) ?_
  refine lv_iload hx hb dL_law_248 (lv_at hl 0 rfl) ?_
  refine lv_iconst (v := 2) hx hb dL_law_250 (by decide) ?_
  refine lv_iadd hx hb dL_law_251 ?_
  obtain ⟨zg2, hF⟩ := z_grd hF
  refine va_sld hx hb hX hbl hbA hS zg2 dL_law_252 ?_
  refine lv_aload_n hx hb dL_law_253 rfl (lv_at hl 5 rfl) ?_
  refine lv_iload hx hb dL_law_254 (lv_at hl 0 rfl) ?_
  refine lv_iconst (v := 3) hx hb dL_law_256 (by decide) ?_
  refine lv_iadd hx hb dL_law_257 ?_
  obtain ⟨zg3, hF⟩ := z_grd hF
  refine va_sld hx hb hX hbl hbA hS zg3 dL_law_258 ?_
  refine lv_aload_n hx hb dL_law_259 rfl (lv_at hl 5 rfl) ?_
  refine lv_iload hx hb dL_law_260 (lv_at hl 0 rfl) ?_
  refine lv_iconst (v := 4) hx hb dL_law_262 (by decide) ?_
  refine lv_iadd hx hb dL_law_263 ?_
  obtain ⟨zg4, hF⟩ := z_grd hF
  refine va_sld hx hb hX hbl hbA hS zg4 dL_law_264 ?_
  refine lv_i2c (v := (zchar (xs (Int32.toNatClampNeg (i + 4))))) hx hb dL_law_265 rfl ?_
  refine lv_aload_n hx hb dL_law_266 rfl (lv_at hl 2 rfl) ?_
  obtain ⟨zo5, hzo5, hF⟩ := z_bind hF
  refine z_calli (fun (u : SS × (Nat → SS) × Int32 × Int32 × (Nat → Int64)) => (wRootJ g ad u.1 sv isS u.2.1 u.2.2.1 u.2.2.2.1 seen dbef drec ptx plen ppos pcnt cmds stE stF lch llen u.2.2.2.2)) zLJ (vx_runSW (As := [.ref (ad 0), .int (xs (Int32.toNatClampNeg (i + 1))), .int (xs (Int32.toNatClampNeg (i + 2))), .int (xs (Int32.toNatClampNeg (i + 3))), .int (zchar (xs (Int32.toNatClampNeg (i + 4)))), .ref (ad 74)]) (rest := []) ⟨hx, hb, hml, hown, hts⟩ (c_L_addNumber l hl0 g ad st sv isS hst spare undo seen dbef drec ptx plen ppos pcnt cmds stE stF lch llen jo _ (xs (Int32.toNatClampNeg (i + 1))) (xs (Int32.toNatClampNeg (i + 2))) (xs (Int32.toNatClampNeg (i + 3))) (zchar (xs (Int32.toNatClampNeg (i + 4)))) fu _ hzo5) (vx_cwSW 6 hts (gdS mU_433 mU_434 mU_65 mU_435) rfl rfl rfl (by decide +kernel) ⟨Nat.le_of_ble_eq_true rfl, Nat.le_of_ble_eq_true rfl⟩) ⟨z_blind _ _ _ _, fun U hU hW => z_pre zLJ hP hD hK hB hS hA wLaw_CJ wLaw_NJ hU hW⟩ rfl rfl hl.1 rfl (lv_room (Nat.le_of_ble_eq_true rfl)) dL_law_267 ⟨by omega, by omega⟩) hP hD hS hA wLaw_CJ (fun _ => rfl) (fun r u H locs hw hP hD hS => ?_)
  obtain ⟨rfl, rfl⟩ := hw
  have hP : va_P (gD g) zCl (wLaw g ad qd zo5.2.1 sv isS zo5.2.2.1 zo5.2.2.2.1 zo5.2.2.2.2.1 seen dbef drec ptx plen ppos pcnt cmds stE stF lch llen zo5.2.2.2.2.2 jd mm masd msav misS mpst mchg merr mfai mthr minp minM mUp mcar mcam mahd magn mltr mbeg mcmd mcmM mpl msz mwr mlin mliM) H := Eq.mp (congrArg (fun w => va_P (gD g) zCl w H) wLaw_SJ) hP
  have hD : va_D A (wLaw g ad qd zo5.2.1 sv isS zo5.2.2.1 zo5.2.2.2.1 zo5.2.2.2.2.1 seen dbef drec ptx plen ppos pcnt cmds stE stF lch llen zo5.2.2.2.2.2 jd mm masd msav misS mpst mchg merr mfai mthr minp minM mUp mcar mcam mahd magn mltr mbeg mcmd mcmM mpl msz mwr mlin mliM) := Eq.mp (congrArg (fun w => va_D A w) wLaw_SJ) hD
  refine lv_istore (lv' := [(6, .int zo5.1), (5, .int i), (4, .ref (ad 75)), (3, .ref (ad 74)), (2, .ref (qd 0)), (1, .ref (ad 0)), (0, .ref b)]) hx hb dL_law_270 hl (by decide) rfl (fun ls hl => ?_)
  refine lv_aload_n hx hb dL_law_272 rfl (lv_at hl 4 rfl) ?_
  refine lv_aload_n hx hb dL_law_273 rfl (lv_at hl 6 rfl) ?_
  refine lv_iload hx hb dL_law_274 (lv_at hl 1 rfl) ?_
  refine lv_iconst (v := 1) hx hb dL_law_276 (by decide) ?_
  refine lv_iadd hx hb dL_law_277 ?_
  obtain ⟨zg6, hF⟩ := z_grd hF
  refine va_sld hx hb hX hbl hbA hS zg6 dL_law_278 ?_
  refine lv_aload_n hx hb dL_law_279 rfl (lv_at hl 6 rfl) ?_
  refine lv_iload hx hb dL_law_280 (lv_at hl 1 rfl) ?_
  refine lv_iconst (v := 2) hx hb dL_law_282 (by decide) ?_
  refine lv_iadd hx hb dL_law_283 ?_
  obtain ⟨zg7, hF⟩ := z_grd hF
  refine va_sld hx hb hX hbl hbA hS zg7 dL_law_284 ?_
  refine lv_aload_n hx hb dL_law_285 rfl (lv_at hl 6 rfl) ?_
  refine lv_iload hx hb dL_law_286 (lv_at hl 1 rfl) ?_
  refine lv_iconst (v := 3) hx hb dL_law_288 (by decide) ?_
  refine lv_iadd hx hb dL_law_289 ?_
  obtain ⟨zg8, hF⟩ := z_grd hF
  refine va_sld hx hb hX hbl hbA hS zg8 dL_law_290 ?_
  refine lv_aload_n hx hb dL_law_291 rfl (lv_at hl 6 rfl) ?_
  refine lv_iload hx hb dL_law_292 (lv_at hl 1 rfl) ?_
  refine lv_iconst (v := 4) hx hb dL_law_294 (by decide) ?_
  refine lv_iadd hx hb dL_law_295 ?_
  obtain ⟨zg9, hF⟩ := z_grd hF
  refine va_sld hx hb hX hbl hbA hS zg9 dL_law_296 ?_
  refine lv_i2c (v := (zchar (xs (Int32.toNatClampNeg (i + 4))))) hx hb dL_law_297 rfl ?_
  obtain ⟨zo10, hzo10, hF⟩ := z_bind hF
  refine z_calli (fun (u : (Nat → Int64) × (Nat → Int64) × (Nat → Int64) × Int32 × Int32) => (wModel g (qd 0) (qd 1) (qd 2) (qd 3) (qd 4) (qd 5) (qd 6) (qd 7) (qd 8) (qd 9) (qd 10) (qd 11) (qd 12) u.1 u.2.1 msav misS u.2.2.1 u.2.2.2.1 merr mfai u.2.2.2.2 minp minM mUp mcar mcam mahd magn mltr mbeg mcmd mcmM mpl msz mwr mlin mliM)) zLM (va_runV (As := [.int (xs (Int32.toNatClampNeg (i + 1))), .int (xs (Int32.toNatClampNeg (i + 2))), .int (xs (Int32.toNatClampNeg (i + 3))), .int (zchar (xs (Int32.toNatClampNeg (i + 4))))]) (rest := []) ⟨hx, hb, hml, hown, hts⟩ (c_X11_addNumber l g (qd 0) (qd 1) (qd 2) (qd 3) (qd 4) (qd 5) (qd 6) (qd 7) (qd 8) (qd 9) (qd 10) (qd 11) (qd 12) mm masd msav misS mpst mchg merr mfai mthr minp minM mUp mcar mcam mahd magn mltr mbeg mcmd mcmM mpl msz mwr mlin mliM _ (xs (Int32.toNatClampNeg (i + 1))) (xs (Int32.toNatClampNeg (i + 2))) (xs (Int32.toNatClampNeg (i + 3))) (zchar (xs (Int32.toNatClampNeg (i + 4)))) fu _ hzo10) (cwV 4 hts (gdV mU_1325 mU_1326 mU_1327 mU_75 mU_1328) rfl rfl rfl (by decide +kernel) ⟨Nat.le_of_ble_eq_true rfl, Nat.le_of_ble_eq_true rfl⟩) ⟨z_blind _ _ _ _, va_recv hK hP (ci := 7) (q0 := 76) rfl rfl, fun U hU hW => z_pre zLM hP hD hK hB hS hA wLaw_CM wLaw_NM hU hW⟩ rfl rfl hl.1 rfl (lv_room (Nat.le_of_ble_eq_true rfl)) dL_law_298 ⟨by omega, by omega⟩) hP hD hS hA wLaw_CM (fun _ => rfl) (fun r u H locs hw hP hD hS => ?_)
  obtain ⟨rfl, rfl⟩ := hw
  have hP : va_P (gD g) zCl (wLaw g ad qd zo5.2.1 sv isS zo5.2.2.1 zo5.2.2.2.1 zo5.2.2.2.2.1 seen dbef drec ptx plen ppos pcnt cmds stE stF lch llen zo5.2.2.2.2.2 jd zo10.2.1 zo10.2.2.1 msav misS zo10.2.2.2.1 zo10.2.2.2.2.1 merr mfai zo10.2.2.2.2.2 minp minM mUp mcar mcam mahd magn mltr mbeg mcmd mcmM mpl msz mwr mlin mliM) H := Eq.mp (congrArg (fun w => va_P (gD g) zCl w H) wLaw_SM) hP
  have hD : va_D A (wLaw g ad qd zo5.2.1 sv isS zo5.2.2.1 zo5.2.2.2.1 zo5.2.2.2.2.1 seen dbef drec ptx plen ppos pcnt cmds stE stF lch llen zo5.2.2.2.2.2 jd zo10.2.1 zo10.2.2.1 msav misS zo10.2.2.2.1 zo10.2.2.2.2.1 merr mfai zo10.2.2.2.2.2 minp minM mUp mcar mcam mahd magn mltr mbeg mcmd mcmM mpl msz mwr mlin mliM) := Eq.mp (congrArg (fun w => va_D A w) wLaw_SM) hD
  refine lv_istore (lv' := [(7, .int zo10.1), (6, .int zo5.1), (5, .int i), (4, .ref (ad 75)), (3, .ref (ad 74)), (2, .ref (qd 0)), (1, .ref (ad 0)), (0, .ref b)]) hx hb dL_law_301 hl (by decide) rfl (fun ls hl => ?_)
  refine lv_aload_n hx hb dL_law_303 rfl (lv_at hl 5 rfl) ?_
  obtain ⟨zo11, hzo11, hF⟩ := z_bind hF
  refine z_calli (fun (_ : Unit) => (wModel g (qd 0) (qd 1) (qd 2) (qd 3) (qd 4) (qd 5) (qd 6) (qd 7) (qd 8) (qd 9) (qd 10) (qd 11) (qd 12) zo10.2.1 zo10.2.2.1 msav misS zo10.2.2.2.1 zo10.2.2.2.2.1 merr mfai zo10.2.2.2.2.2 minp minM mUp mcar mcam mahd magn mltr mbeg mcmd mcmM mpl msz mwr mlin mliM)) zLM (va_runV (As := []) (rest := []) ⟨hx, hb, hml, hown, hts⟩ (c_X11_thrown l g (qd 0) (qd 1) (qd 2) (qd 3) (qd 4) (qd 5) (qd 6) (qd 7) (qd 8) (qd 9) (qd 10) (qd 11) (qd 12) zo10.2.1 zo10.2.2.1 msav misS zo10.2.2.2.1 zo10.2.2.2.2.1 merr mfai zo10.2.2.2.2.2 minp minM mUp mcar mcam mahd magn mltr mbeg mcmd mcmM mpl msz mwr mlin mliM _ _ hzo11) (cwV 0 hts (gdV mU_1321 mU_1322 mU_1323 mU_75 mU_1324) rfl rfl rfl (by decide +kernel) ⟨Nat.le_of_ble_eq_true rfl, Nat.le_of_ble_eq_true rfl⟩) ⟨z_blind _ _ _ _, va_recv hK hP (ci := 7) (q0 := 76) rfl rfl, fun U hU hW => z_pre zLM hP hD hK hB hS hA wLaw_CM wLaw_NM hU hW⟩ rfl rfl hl.1 rfl (lv_room (Nat.le_of_ble_eq_true rfl)) dL_law_304 ⟨by omega, by omega⟩) hP hD hS hA wLaw_CM (fun _ => rfl) (fun r u H locs hw hP hD hS => ?_)
  subst hw
  have hP : va_P (gD g) zCl (wLaw g ad qd zo5.2.1 sv isS zo5.2.2.1 zo5.2.2.2.1 zo5.2.2.2.2.1 seen dbef drec ptx plen ppos pcnt cmds stE stF lch llen zo5.2.2.2.2.2 jd zo10.2.1 zo10.2.2.1 msav misS zo10.2.2.2.1 zo10.2.2.2.2.1 merr mfai zo10.2.2.2.2.2 minp minM mUp mcar mcam mahd magn mltr mbeg mcmd mcmM mpl msz mwr mlin mliM) H := Eq.mp (congrArg (fun w => va_P (gD g) zCl w H) wLaw_SM) hP
  have hD : va_D A (wLaw g ad qd zo5.2.1 sv isS zo5.2.2.1 zo5.2.2.2.1 zo5.2.2.2.2.1 seen dbef drec ptx plen ppos pcnt cmds stE stF lch llen zo5.2.2.2.2.2 jd zo10.2.1 zo10.2.2.1 msav misS zo10.2.2.2.1 zo10.2.2.2.2.1 merr mfai zo10.2.2.2.2.2 minp minM mUp mcar mcam mahd magn mltr mbeg mcmd mcmM mpl msz mwr mlin mliM) := Eq.mp (congrArg (fun w => va_D A w) wLaw_SM) hD
  refine lv_iload hx hb dL_law_307 (lv_at hl 1 rfl) ?_
  refine lv_icmp_eq (tgt := 314) hx hb dL_law_309 (by decide) (fun zc12 => ?_) (fun zc12 => ?_)
  · have hF := z_pos hF zc12
    refine lv_iload hx hb dL_law_314 (lv_at hl 1 rfl) ?_
    refine lv_if_ne (tgt := 331) hx hb dL_law_316 (by decide) (fun zc13 => ?_) (fun zc13 => ?_)
    · have hF := z_neg hF zc13
      refine lv_goto (tgt := 2792) hx hb dL_law_331 (by decide) ?_
      have ho := (Option.some.inj hF).symm
      subst ho
      refine W.widen (k := cells + 51) (n := slots + 306) (by omega) (by omega) ?_
      exact kj _ _ _ (lv_sub hl [2, 3, 4, 5, 6, 7] rfl) hP hD hS
    · have hF := z_pos hF zc13
      refine lv_aload_n hx hb dL_law_319 rfl (lv_at hl 4 rfl) ?_
      refine lv_iconst (v := 0) hx hb dL_law_320 (by decide) ?_
      refine va_lald hx hb hK hP 74 2 rfl rfl (by unfold vp_in; decide) dL_law_321 ?_
      refine lv_iload hx hb dL_law_322 (lv_at hl 0 rfl) ?_
      refine lv_i2l (v := (Int32.toInt64 zo10.1)) hx hb dL_law_324 rfl ?_
      refine z_lcmp_eq (tgt := 331) hx hb dL_law_325 dL_law_326 (by decide) (fun zc14 => ?_) (fun zc14 => ?_)
      · have hF := z_pos hF zc14
        refine lv_goto (tgt := 2792) hx hb dL_law_331 (by decide) ?_
        have ho := (Option.some.inj hF).symm
        subst ho
        refine W.widen (k := cells + 51) (n := slots + 306) (by omega) (by omega) ?_
        exact kj _ _ _ (lv_sub hl [2, 3, 4, 5, 6, 7] rfl) hP hD hS
      · have hF := z_neg hF zc14
        refine lv_iconst (v := 0) hx hb dL_law_329 (by decide) ?_
        exact absurd hF (by simp)
  · have hF := z_neg hF zc12
    refine lv_iconst (v := 0) hx hb dL_law_312 (by decide) ?_
    exact absurd hF (by simp)
set_option maxHeartbeats 4000000 in
set_option maxRecDepth 100000 in
theorem k_law_334 {p : Program} {e : Env} {s : State} {m : MethodId} {below : List Frame} {meth : Method} {c : Code} (l : Launch) (hl0 : l.stackTraces = false) {b L : Nat} {xs : Nat → Int32} (hx : p.tables.exec = Jvm.exec) (hb : c.code = cL_law) (hml : c.maxLocals = 9) (hown : s.vm.findClass RL = some m.cls) (hts : ∀ w ∈ wU, w.before #[Value.ref b] s = true) (hX : va_X b L xs s s.heap) (hbl : b < s.heap.size) {A : Nat → Prop} (hbA : ¬ A b) (hA : ∀ q, s.heap.size ≤ q → A q) (g : GG) (ad qd : Nat → Nat) (st : SS) (sv : SS) (isS : Int32) (hst : Nat → SS) (spare : Int32) (undo : Int32) (seen : Nat → Int32) (dbef : Int32) (drec : Int32) (ptx : Nat → Int32) (plen : Int32) (ppos : Int32) (pcnt : Int32) (cmds : Nat → CC) (stE : Int32) (stF : Int32) (lch : Nat → Int32) (llen : Int32) (jo : Nat → Int64) (jd : Nat → UInt64) (mm : Nat → Int64) (masd : Nat → Int64) (msav : Nat → Int64) (misS : Int32) (mpst : Nat → Int64) (mchg : Int32) (merr : Int32) (mfai : Int32) (mthr : Int32) (minp : Nat → Int32) (minM : Int32) (mUp : Nat → Int32) (mcar : Nat → Int32) (mcam : Nat → Int32) (mahd : Int32) (magn : Int32) (mltr : Nat → Int32) (mbeg : Nat → Int32) (mcmd : Nat → Int32) (mcmM : Int32) (mpl : Int32) (msz : Int32) (mwr : Int32) (mlin : Nat → Int32) (mliM : Int32) (hK : va_K (gD g) zCl (gT g) s) (hB : KB g A s s.heap) (fu : Nat) (i : Int32) (u : SS × (Nat → SS) × Int32 × Int32 × (Nat → Int64) × (Nat → Int64) × (Nat → Int64) × (Nat → Int64) × Int32 × Int32) (hF : G_law_334 fu st hst spare undo jo mm masd mpst mchg mthr L xs i = some u) {H : Heap} {locs : List Loc} {ls : Array Slot} {cells slots : Nat} (hc : cells + 51 ≤ 603072) (hsl : slots + 306 ≤ 7170153) (hl : lv_has ls 9 [(5, .int i), (4, .ref (ad 75)), (3, .ref (ad 74)), (2, .ref (qd 0)), (1, .ref (ad 0)), (0, .ref b)]) (hP : va_P (gD g) zCl (wLaw g ad qd st sv isS hst spare undo seen dbef drec ptx plen ppos pcnt cmds stE stF lch llen jo jd mm masd msav misS mpst mchg merr mfai mthr minp minM mUp mcar mcam mahd magn mltr mbeg mcmd mcmM mpl msz mwr mlin mliM) H) (hD : va_D A (wLaw g ad qd st sv isS hst spare undo seen dbef drec ptx plen ppos pcnt cmds stE stF lch llen jo jd mm masd msav misS mpst mchg merr mfai mthr minp minM mUp mcar mcam mahd magn mltr mbeg mcmd mcmM mpl msz mwr mlin mliM)) (hS : va_S A s.heap H locs)
    (kj : ∀ (H : Heap) (locs : List Loc) (ls : Array Slot), lv_has ls 9 [(5, .int i), (4, .ref (ad 75)), (3, .ref (ad 74)), (2, .ref (qd 0)), (1, .ref (ad 0)), (0, .ref b)] → va_P (gD g) zCl (wLaw g ad qd u.1 sv isS u.2.1 u.2.2.1 u.2.2.2.1 seen dbef drec ptx plen ppos pcnt cmds stE stF lch llen u.2.2.2.2.1 jd u.2.2.2.2.2.1 u.2.2.2.2.2.2.1 msav misS u.2.2.2.2.2.2.2.1 u.2.2.2.2.2.2.2.2.1 merr mfai u.2.2.2.2.2.2.2.2.2 minp minM mUp mcar mcam mahd magn mltr mbeg mcmd mcmM mpl msz mwr mlin mliM) H → va_D A (wLaw g ad qd u.1 sv isS u.2.1 u.2.2.1 u.2.2.2.1 seen dbef drec ptx plen ppos pcnt cmds stE stF lch llen u.2.2.2.2.1 jd u.2.2.2.2.2.1 u.2.2.2.2.2.2.1 msav misS u.2.2.2.2.2.2.2.1 u.2.2.2.2.2.2.2.2.1 merr mfai u.2.2.2.2.2.2.2.2.2 minp minM mUp mcar mcam mahd magn mltr mbeg mcmd mcmM mpl msz mwr mlin mliM) → va_S A s.heap H locs → W p l e room_1 s m #[Value.ref b] below meth c H locs (cells + 51) (slots + 306) (lw_Z below #[Value.ref b] s) (F0 m 2792 ls [])) : W p l e room_1 s m #[Value.ref b] below meth c H locs cells slots (lw_Z below #[Value.ref b] s) (F0 m 334 ls []) := by
  have hc : cells + 51 ≤ room_1.cells := hc
  have hsl : slots + 306 ≤ room_1.slots := hsl
  unfold G_law_334 at hF
  refine lv_aload_n hx hb dL_law_334 rfl (lv_at hl 4 rfl) ?_
  refine lv_aload_n hx hb dL_law_335 rfl (lv_at hl 5 rfl) ?_
  refine lv_iload hx hb dL_law_336 (lv_at hl 0 rfl) ?_
  refine lv_iconst (v := 1) hx hb dL_law_338 (by decide) ?_
  refine lv_iadd hx hb dL_law_339 ?_
  obtain ⟨zg1, hF⟩ := z_grd hF
  refine va_sld hx hb hX hbl hbA hS zg1 dL_law_340 ?_
  refine lv_aload_n hx hb dL_law_341 rfl (lv_at hl 5 rfl) ?_
  refine lv_iload hx hb dL_law_342 (lv_at hl 0 rfl) ?_
  refine lv_iconst (v := 2) hx hb dL_law_344 (by decide) ?_
  refine lv_iadd hx hb dL_law_345 ?_
  obtain ⟨zg2, hF⟩ := z_grd hF
  refine va_sld hx hb hX hbl hbA hS zg2 dL_law_346 ?_
  refine lv_aload_n hx hb dL_law_347 rfl (lv_at hl 5 rfl) ?_
  refine lv_iload hx hb dL_law_348 (lv_at hl 0 rfl) ?_
  refine lv_iconst (v := 3) hx hb dL_law_350 (by decide) ?_
  refine lv_iadd hx hb dL_law_351 ?_
  obtain ⟨zg3, hF⟩ := z_grd hF
  refine va_sld hx hb hX hbl hbA hS zg3 dL_law_352 ?_
  refine lv_aload_n hx hb dL_law_353 rfl (lv_at hl 5 rfl) ?_
  refine lv_iload hx hb dL_law_354 (lv_at hl 0 rfl) ?_
  refine lv_iconst (v := 4) hx hb dL_law_356 (by decide) ?_
  refine lv_iadd hx hb dL_law_357 ?_
  obtain ⟨zg4, hF⟩ := z_grd hF
  refine va_sld hx hb hX hbl hbA hS zg4 dL_law_358 ?_
  refine lv_i2c (v := (zchar (xs (Int32.toNatClampNeg (i + 4))))) hx hb dL_law_359 rfl ?_
  refine lv_aload_n hx hb dL_law_360 rfl (lv_at hl 2 rfl) ?_
  obtain ⟨zo5, hzo5, hF⟩ := z_bind hF
  refine z_calli (fun (u : SS × (Nat → SS) × Int32 × Int32 × (Nat → Int64)) => (wRootJ g ad u.1 sv isS u.2.1 u.2.2.1 u.2.2.2.1 seen dbef drec ptx plen ppos pcnt cmds stE stF lch llen u.2.2.2.2)) zLJ (vx_runSW (As := [.ref (ad 0), .int (xs (Int32.toNatClampNeg (i + 1))), .int (xs (Int32.toNatClampNeg (i + 2))), .int (xs (Int32.toNatClampNeg (i + 3))), .int (zchar (xs (Int32.toNatClampNeg (i + 4)))), .ref (ad 74)]) (rest := []) ⟨hx, hb, hml, hown, hts⟩ (c_L_addQuotient l hl0 g ad st sv isS hst spare undo seen dbef drec ptx plen ppos pcnt cmds stE stF lch llen jo _ (xs (Int32.toNatClampNeg (i + 1))) (xs (Int32.toNatClampNeg (i + 2))) (xs (Int32.toNatClampNeg (i + 3))) (zchar (xs (Int32.toNatClampNeg (i + 4)))) fu _ hzo5) (vx_cwSW 6 hts (gdS mU_669 mU_670 mU_65 mU_671) rfl rfl rfl (by decide +kernel) ⟨Nat.le_of_ble_eq_true rfl, Nat.le_of_ble_eq_true rfl⟩) ⟨z_blind _ _ _ _, fun U hU hW => z_pre zLJ hP hD hK hB hS hA wLaw_CJ wLaw_NJ hU hW⟩ rfl rfl hl.1 rfl (lv_room (Nat.le_of_ble_eq_true rfl)) dL_law_361 ⟨by omega, by omega⟩) hP hD hS hA wLaw_CJ (fun _ => rfl) (fun r u H locs hw hP hD hS => ?_)
  obtain ⟨rfl, rfl⟩ := hw
  have hP : va_P (gD g) zCl (wLaw g ad qd zo5.2.1 sv isS zo5.2.2.1 zo5.2.2.2.1 zo5.2.2.2.2.1 seen dbef drec ptx plen ppos pcnt cmds stE stF lch llen zo5.2.2.2.2.2 jd mm masd msav misS mpst mchg merr mfai mthr minp minM mUp mcar mcam mahd magn mltr mbeg mcmd mcmM mpl msz mwr mlin mliM) H := Eq.mp (congrArg (fun w => va_P (gD g) zCl w H) wLaw_SJ) hP
  have hD : va_D A (wLaw g ad qd zo5.2.1 sv isS zo5.2.2.1 zo5.2.2.2.1 zo5.2.2.2.2.1 seen dbef drec ptx plen ppos pcnt cmds stE stF lch llen zo5.2.2.2.2.2 jd mm masd msav misS mpst mchg merr mfai mthr minp minM mUp mcar mcam mahd magn mltr mbeg mcmd mcmM mpl msz mwr mlin mliM) := Eq.mp (congrArg (fun w => va_D A w) wLaw_SJ) hD
  refine lv_istore (lv' := [(6, .int zo5.1), (5, .int i), (4, .ref (ad 75)), (3, .ref (ad 74)), (2, .ref (qd 0)), (1, .ref (ad 0)), (0, .ref b)]) hx hb dL_law_364 hl (by decide) rfl (fun ls hl => ?_)
  refine lv_aload_n hx hb dL_law_366 rfl (lv_at hl 4 rfl) ?_
  refine lv_aload_n hx hb dL_law_367 rfl (lv_at hl 6 rfl) ?_
  refine lv_iload hx hb dL_law_368 (lv_at hl 1 rfl) ?_
  refine lv_iconst (v := 1) hx hb dL_law_370 (by decide) ?_
  refine lv_iadd hx hb dL_law_371 ?_
  obtain ⟨zg6, hF⟩ := z_grd hF
  refine va_sld hx hb hX hbl hbA hS zg6 dL_law_372 ?_
  refine lv_aload_n hx hb dL_law_373 rfl (lv_at hl 6 rfl) ?_
  refine lv_iload hx hb dL_law_374 (lv_at hl 1 rfl) ?_
  refine lv_iconst (v := 2) hx hb dL_law_376 (by decide) ?_
  refine lv_iadd hx hb dL_law_377 ?_
  obtain ⟨zg7, hF⟩ := z_grd hF
  refine va_sld hx hb hX hbl hbA hS zg7 dL_law_378 ?_
  refine lv_aload_n hx hb dL_law_379 rfl (lv_at hl 6 rfl) ?_
  refine lv_iload hx hb dL_law_380 (lv_at hl 1 rfl) ?_
  refine lv_iconst (v := 3) hx hb dL_law_382 (by decide) ?_
  refine lv_iadd hx hb dL_law_383 ?_
  obtain ⟨zg8, hF⟩ := z_grd hF
  refine va_sld hx hb hX hbl hbA hS zg8 dL_law_384 ?_
  refine lv_aload_n hx hb dL_law_385 rfl (lv_at hl 6 rfl) ?_
  refine lv_iload hx hb dL_law_386 (lv_at hl 1 rfl) ?_
  refine lv_iconst (v := 4) hx hb dL_law_388 (by decide) ?_
  refine lv_iadd hx hb dL_law_389 ?_
  obtain ⟨zg9, hF⟩ := z_grd hF
  refine va_sld hx hb hX hbl hbA hS zg9 dL_law_390 ?_
  refine lv_i2c (v := (zchar (xs (Int32.toNatClampNeg (i + 4))))) hx hb dL_law_391 rfl ?_
  obtain ⟨zo10, hzo10, hF⟩ := z_bind hF
  refine z_calli (fun (u : (Nat → Int64) × (Nat → Int64) × (Nat → Int64) × Int32 × Int32) => (wModel g (qd 0) (qd 1) (qd 2) (qd 3) (qd 4) (qd 5) (qd 6) (qd 7) (qd 8) (qd 9) (qd 10) (qd 11) (qd 12) u.1 u.2.1 msav misS u.2.2.1 u.2.2.2.1 merr mfai u.2.2.2.2 minp minM mUp mcar mcam mahd magn mltr mbeg mcmd mcmM mpl msz mwr mlin mliM)) zLM (va_runV (As := [.int (xs (Int32.toNatClampNeg (i + 1))), .int (xs (Int32.toNatClampNeg (i + 2))), .int (xs (Int32.toNatClampNeg (i + 3))), .int (zchar (xs (Int32.toNatClampNeg (i + 4))))]) (rest := []) ⟨hx, hb, hml, hown, hts⟩ (c_X11_addQuotient l g (qd 0) (qd 1) (qd 2) (qd 3) (qd 4) (qd 5) (qd 6) (qd 7) (qd 8) (qd 9) (qd 10) (qd 11) (qd 12) mm masd msav misS mpst mchg merr mfai mthr minp minM mUp mcar mcam mahd magn mltr mbeg mcmd mcmM mpl msz mwr mlin mliM _ (xs (Int32.toNatClampNeg (i + 1))) (xs (Int32.toNatClampNeg (i + 2))) (xs (Int32.toNatClampNeg (i + 3))) (zchar (xs (Int32.toNatClampNeg (i + 4)))) fu _ hzo10) (cwV 4 hts (gdV mU_1379 mU_1380 mU_1381 mU_75 mU_1382) rfl rfl rfl (by decide +kernel) ⟨Nat.le_of_ble_eq_true rfl, Nat.le_of_ble_eq_true rfl⟩) ⟨z_blind _ _ _ _, va_recv hK hP (ci := 7) (q0 := 76) rfl rfl, fun U hU hW => z_pre zLM hP hD hK hB hS hA wLaw_CM wLaw_NM hU hW⟩ rfl rfl hl.1 rfl (lv_room (Nat.le_of_ble_eq_true rfl)) dL_law_392 ⟨by omega, by omega⟩) hP hD hS hA wLaw_CM (fun _ => rfl) (fun r u H locs hw hP hD hS => ?_)
  obtain ⟨rfl, rfl⟩ := hw
  have hP : va_P (gD g) zCl (wLaw g ad qd zo5.2.1 sv isS zo5.2.2.1 zo5.2.2.2.1 zo5.2.2.2.2.1 seen dbef drec ptx plen ppos pcnt cmds stE stF lch llen zo5.2.2.2.2.2 jd zo10.2.1 zo10.2.2.1 msav misS zo10.2.2.2.1 zo10.2.2.2.2.1 merr mfai zo10.2.2.2.2.2 minp minM mUp mcar mcam mahd magn mltr mbeg mcmd mcmM mpl msz mwr mlin mliM) H := Eq.mp (congrArg (fun w => va_P (gD g) zCl w H) wLaw_SM) hP
  have hD : va_D A (wLaw g ad qd zo5.2.1 sv isS zo5.2.2.1 zo5.2.2.2.1 zo5.2.2.2.2.1 seen dbef drec ptx plen ppos pcnt cmds stE stF lch llen zo5.2.2.2.2.2 jd zo10.2.1 zo10.2.2.1 msav misS zo10.2.2.2.1 zo10.2.2.2.2.1 merr mfai zo10.2.2.2.2.2 minp minM mUp mcar mcam mahd magn mltr mbeg mcmd mcmM mpl msz mwr mlin mliM) := Eq.mp (congrArg (fun w => va_D A w) wLaw_SM) hD
  refine lv_istore (lv' := [(7, .int zo10.1), (6, .int zo5.1), (5, .int i), (4, .ref (ad 75)), (3, .ref (ad 74)), (2, .ref (qd 0)), (1, .ref (ad 0)), (0, .ref b)]) hx hb dL_law_395 hl (by decide) rfl (fun ls hl => ?_)
  refine lv_aload_n hx hb dL_law_397 rfl (lv_at hl 5 rfl) ?_
  obtain ⟨zo11, hzo11, hF⟩ := z_bind hF
  refine z_calli (fun (_ : Unit) => (wModel g (qd 0) (qd 1) (qd 2) (qd 3) (qd 4) (qd 5) (qd 6) (qd 7) (qd 8) (qd 9) (qd 10) (qd 11) (qd 12) zo10.2.1 zo10.2.2.1 msav misS zo10.2.2.2.1 zo10.2.2.2.2.1 merr mfai zo10.2.2.2.2.2 minp minM mUp mcar mcam mahd magn mltr mbeg mcmd mcmM mpl msz mwr mlin mliM)) zLM (va_runV (As := []) (rest := []) ⟨hx, hb, hml, hown, hts⟩ (c_X11_thrown l g (qd 0) (qd 1) (qd 2) (qd 3) (qd 4) (qd 5) (qd 6) (qd 7) (qd 8) (qd 9) (qd 10) (qd 11) (qd 12) zo10.2.1 zo10.2.2.1 msav misS zo10.2.2.2.1 zo10.2.2.2.2.1 merr mfai zo10.2.2.2.2.2 minp minM mUp mcar mcam mahd magn mltr mbeg mcmd mcmM mpl msz mwr mlin mliM _ _ hzo11) (cwV 0 hts (gdV mU_1321 mU_1322 mU_1323 mU_75 mU_1324) rfl rfl rfl (by decide +kernel) ⟨Nat.le_of_ble_eq_true rfl, Nat.le_of_ble_eq_true rfl⟩) ⟨z_blind _ _ _ _, va_recv hK hP (ci := 7) (q0 := 76) rfl rfl, fun U hU hW => z_pre zLM hP hD hK hB hS hA wLaw_CM wLaw_NM hU hW⟩ rfl rfl hl.1 rfl (lv_room (Nat.le_of_ble_eq_true rfl)) dL_law_398 ⟨by omega, by omega⟩) hP hD hS hA wLaw_CM (fun _ => rfl) (fun r u H locs hw hP hD hS => ?_)
  subst hw
  have hP : va_P (gD g) zCl (wLaw g ad qd zo5.2.1 sv isS zo5.2.2.1 zo5.2.2.2.1 zo5.2.2.2.2.1 seen dbef drec ptx plen ppos pcnt cmds stE stF lch llen zo5.2.2.2.2.2 jd zo10.2.1 zo10.2.2.1 msav misS zo10.2.2.2.1 zo10.2.2.2.2.1 merr mfai zo10.2.2.2.2.2 minp minM mUp mcar mcam mahd magn mltr mbeg mcmd mcmM mpl msz mwr mlin mliM) H := Eq.mp (congrArg (fun w => va_P (gD g) zCl w H) wLaw_SM) hP
  have hD : va_D A (wLaw g ad qd zo5.2.1 sv isS zo5.2.2.1 zo5.2.2.2.1 zo5.2.2.2.2.1 seen dbef drec ptx plen ppos pcnt cmds stE stF lch llen zo5.2.2.2.2.2 jd zo10.2.1 zo10.2.2.1 msav misS zo10.2.2.2.1 zo10.2.2.2.2.1 merr mfai zo10.2.2.2.2.2 minp minM mUp mcar mcam mahd magn mltr mbeg mcmd mcmM mpl msz mwr mlin mliM) := Eq.mp (congrArg (fun w => va_D A w) wLaw_SM) hD
  refine lv_iload hx hb dL_law_401 (lv_at hl 1 rfl) ?_
  refine lv_icmp_eq (tgt := 408) hx hb dL_law_403 (by decide) (fun zc12 => ?_) (fun zc12 => ?_)
  · have hF := z_pos hF zc12
    refine lv_iload hx hb dL_law_408 (lv_at hl 1 rfl) ?_
    refine lv_if_ne (tgt := 425) hx hb dL_law_410 (by decide) (fun zc13 => ?_) (fun zc13 => ?_)
    · have hF := z_neg hF zc13
      refine lv_goto (tgt := 2792) hx hb dL_law_425 (by decide) ?_
      have ho := (Option.some.inj hF).symm
      subst ho
      refine W.widen (k := cells + 51) (n := slots + 306) (by omega) (by omega) ?_
      exact kj _ _ _ (lv_sub hl [2, 3, 4, 5, 6, 7] rfl) hP hD hS
    · have hF := z_pos hF zc13
      refine lv_aload_n hx hb dL_law_413 rfl (lv_at hl 4 rfl) ?_
      refine lv_iconst (v := 0) hx hb dL_law_414 (by decide) ?_
      refine va_lald hx hb hK hP 74 2 rfl rfl (by unfold vp_in; decide) dL_law_415 ?_
      refine lv_iload hx hb dL_law_416 (lv_at hl 0 rfl) ?_
      refine lv_i2l (v := (Int32.toInt64 zo10.1)) hx hb dL_law_418 rfl ?_
      refine z_lcmp_eq (tgt := 425) hx hb dL_law_419 dL_law_420 (by decide) (fun zc14 => ?_) (fun zc14 => ?_)
      · have hF := z_pos hF zc14
        refine lv_goto (tgt := 2792) hx hb dL_law_425 (by decide) ?_
        have ho := (Option.some.inj hF).symm
        subst ho
        refine W.widen (k := cells + 51) (n := slots + 306) (by omega) (by omega) ?_
        exact kj _ _ _ (lv_sub hl [2, 3, 4, 5, 6, 7] rfl) hP hD hS
      · have hF := z_neg hF zc14
        refine lv_iconst (v := 0) hx hb dL_law_423 (by decide) ?_
        exact absurd hF (by simp)
  · have hF := z_neg hF zc12
    refine lv_iconst (v := 0) hx hb dL_law_406 (by decide) ?_
    exact absurd hF (by simp)
set_option maxHeartbeats 4000000 in
set_option maxRecDepth 100000 in
theorem k_law_428 {p : Program} {e : Env} {s : State} {m : MethodId} {below : List Frame} {meth : Method} {c : Code} (l : Launch) (hl0 : l.stackTraces = false) {b L : Nat} {xs : Nat → Int32} (hx : p.tables.exec = Jvm.exec) (hb : c.code = cL_law) (hml : c.maxLocals = 9) (hown : s.vm.findClass RL = some m.cls) (hts : ∀ w ∈ wU, w.before #[Value.ref b] s = true) (hX : va_X b L xs s s.heap) (hbl : b < s.heap.size) {A : Nat → Prop} (hbA : ¬ A b) (hA : ∀ q, s.heap.size ≤ q → A q) (g : GG) (ad qd : Nat → Nat) (st : SS) (sv : SS) (isS : Int32) (hst : Nat → SS) (spare : Int32) (undo : Int32) (seen : Nat → Int32) (dbef : Int32) (drec : Int32) (ptx : Nat → Int32) (plen : Int32) (ppos : Int32) (pcnt : Int32) (cmds : Nat → CC) (stE : Int32) (stF : Int32) (lch : Nat → Int32) (llen : Int32) (jo : Nat → Int64) (jd : Nat → UInt64) (mm : Nat → Int64) (masd : Nat → Int64) (msav : Nat → Int64) (misS : Int32) (mpst : Nat → Int64) (mchg : Int32) (merr : Int32) (mfai : Int32) (mthr : Int32) (minp : Nat → Int32) (minM : Int32) (mUp : Nat → Int32) (mcar : Nat → Int32) (mcam : Nat → Int32) (mahd : Int32) (magn : Int32) (mltr : Nat → Int32) (mbeg : Nat → Int32) (mcmd : Nat → Int32) (mcmM : Int32) (mpl : Int32) (msz : Int32) (mwr : Int32) (mlin : Nat → Int32) (mliM : Int32) (hK : va_K (gD g) zCl (gT g) s) (hB : KB g A s s.heap) (fu : Nat) (i : Int32) (u : SS × (Nat → SS) × Int32 × Int32 × (Nat → Int64) × (Nat → Int64) × (Nat → Int64) × (Nat → Int64) × Int32 × Int32) (hF : G_law_428 fu st hst spare undo jo mm masd mpst mchg mthr L xs i = some u) {H : Heap} {locs : List Loc} {ls : Array Slot} {cells slots : Nat} (hc : cells + 51 ≤ 603072) (hsl : slots + 306 ≤ 7170153) (hl : lv_has ls 9 [(5, .int i), (4, .ref (ad 75)), (3, .ref (ad 74)), (2, .ref (qd 0)), (1, .ref (ad 0)), (0, .ref b)]) (hP : va_P (gD g) zCl (wLaw g ad qd st sv isS hst spare undo seen dbef drec ptx plen ppos pcnt cmds stE stF lch llen jo jd mm masd msav misS mpst mchg merr mfai mthr minp minM mUp mcar mcam mahd magn mltr mbeg mcmd mcmM mpl msz mwr mlin mliM) H) (hD : va_D A (wLaw g ad qd st sv isS hst spare undo seen dbef drec ptx plen ppos pcnt cmds stE stF lch llen jo jd mm masd msav misS mpst mchg merr mfai mthr minp minM mUp mcar mcam mahd magn mltr mbeg mcmd mcmM mpl msz mwr mlin mliM)) (hS : va_S A s.heap H locs)
    (kj : ∀ (H : Heap) (locs : List Loc) (ls : Array Slot), lv_has ls 9 [(5, .int i), (4, .ref (ad 75)), (3, .ref (ad 74)), (2, .ref (qd 0)), (1, .ref (ad 0)), (0, .ref b)] → va_P (gD g) zCl (wLaw g ad qd u.1 sv isS u.2.1 u.2.2.1 u.2.2.2.1 seen dbef drec ptx plen ppos pcnt cmds stE stF lch llen u.2.2.2.2.1 jd u.2.2.2.2.2.1 u.2.2.2.2.2.2.1 msav misS u.2.2.2.2.2.2.2.1 u.2.2.2.2.2.2.2.2.1 merr mfai u.2.2.2.2.2.2.2.2.2 minp minM mUp mcar mcam mahd magn mltr mbeg mcmd mcmM mpl msz mwr mlin mliM) H → va_D A (wLaw g ad qd u.1 sv isS u.2.1 u.2.2.1 u.2.2.2.1 seen dbef drec ptx plen ppos pcnt cmds stE stF lch llen u.2.2.2.2.1 jd u.2.2.2.2.2.1 u.2.2.2.2.2.2.1 msav misS u.2.2.2.2.2.2.2.1 u.2.2.2.2.2.2.2.2.1 merr mfai u.2.2.2.2.2.2.2.2.2 minp minM mUp mcar mcam mahd magn mltr mbeg mcmd mcmM mpl msz mwr mlin mliM) → va_S A s.heap H locs → W p l e room_1 s m #[Value.ref b] below meth c H locs (cells + 51) (slots + 306) (lw_Z below #[Value.ref b] s) (F0 m 2792 ls [])) : W p l e room_1 s m #[Value.ref b] below meth c H locs cells slots (lw_Z below #[Value.ref b] s) (F0 m 428 ls []) := by
  have hc : cells + 51 ≤ room_1.cells := hc
  have hsl : slots + 306 ≤ room_1.slots := hsl
  unfold G_law_428 at hF
  refine lv_aload_n hx hb dL_law_428 rfl (lv_at hl 4 rfl) ?_
  refine lv_aload_n hx hb dL_law_429 rfl (lv_at hl 5 rfl) ?_
  refine lv_iload hx hb dL_law_430 (lv_at hl 0 rfl) ?_
  refine lv_iconst (v := 1) hx hb dL_law_432 (by decide) ?_
  refine lv_iadd hx hb dL_law_433 ?_
  obtain ⟨zg1, hF⟩ := z_grd hF
  refine va_sld hx hb hX hbl hbA hS zg1 dL_law_434 ?_
  refine lv_aload_n hx hb dL_law_435 rfl (lv_at hl 2 rfl) ?_
  obtain ⟨zo2, hzo2, hF⟩ := z_bind hF
  refine z_calli (fun (u : SS × (Nat → SS) × Int32 × Int32 × (Nat → Int64)) => (wRootJ g ad u.1 sv isS u.2.1 u.2.2.1 u.2.2.2.1 seen dbef drec ptx plen ppos pcnt cmds stE stF lch llen u.2.2.2.2)) zLJ (vx_runSW (As := [.ref (ad 0), .int (xs (Int32.toNatClampNeg (i + 1))), .ref (ad 74)]) (rest := []) ⟨hx, hb, hml, hown, hts⟩ (c_L_remove l hl0 g ad st sv isS hst spare undo seen dbef drec ptx plen ppos pcnt cmds stE stF lch llen jo _ (xs (Int32.toNatClampNeg (i + 1))) fu _ hzo2) (vx_cwSW 3 hts (gdS mU_687 mU_688 mU_65 mU_689) rfl rfl rfl (by decide +kernel) ⟨Nat.le_of_ble_eq_true rfl, Nat.le_of_ble_eq_true rfl⟩) ⟨z_blind _ _ _ _, fun U hU hW => z_pre zLJ hP hD hK hB hS hA wLaw_CJ wLaw_NJ hU hW⟩ rfl rfl hl.1 rfl (lv_room (Nat.le_of_ble_eq_true rfl)) dL_law_436 ⟨by omega, by omega⟩) hP hD hS hA wLaw_CJ (fun _ => rfl) (fun r u H locs hw hP hD hS => ?_)
  obtain ⟨rfl, rfl⟩ := hw
  have hP : va_P (gD g) zCl (wLaw g ad qd zo2.2.1 sv isS zo2.2.2.1 zo2.2.2.2.1 zo2.2.2.2.2.1 seen dbef drec ptx plen ppos pcnt cmds stE stF lch llen zo2.2.2.2.2.2 jd mm masd msav misS mpst mchg merr mfai mthr minp minM mUp mcar mcam mahd magn mltr mbeg mcmd mcmM mpl msz mwr mlin mliM) H := Eq.mp (congrArg (fun w => va_P (gD g) zCl w H) wLaw_SJ) hP
  have hD : va_D A (wLaw g ad qd zo2.2.1 sv isS zo2.2.2.1 zo2.2.2.2.1 zo2.2.2.2.2.1 seen dbef drec ptx plen ppos pcnt cmds stE stF lch llen zo2.2.2.2.2.2 jd mm masd msav misS mpst mchg merr mfai mthr minp minM mUp mcar mcam mahd magn mltr mbeg mcmd mcmM mpl msz mwr mlin mliM) := Eq.mp (congrArg (fun w => va_D A w) wLaw_SJ) hD
  refine lv_istore (lv' := [(6, .int zo2.1), (5, .int i), (4, .ref (ad 75)), (3, .ref (ad 74)), (2, .ref (qd 0)), (1, .ref (ad 0)), (0, .ref b)]) hx hb dL_law_439 hl (by decide) rfl (fun ls hl => ?_)
  refine lv_aload_n hx hb dL_law_441 rfl (lv_at hl 4 rfl) ?_
  refine lv_aload_n hx hb dL_law_442 rfl (lv_at hl 6 rfl) ?_
  refine lv_iload hx hb dL_law_443 (lv_at hl 1 rfl) ?_
  refine lv_iconst (v := 1) hx hb dL_law_445 (by decide) ?_
  refine lv_iadd hx hb dL_law_446 ?_
  obtain ⟨zg3, hF⟩ := z_grd hF
  refine va_sld hx hb hX hbl hbA hS zg3 dL_law_447 ?_
  obtain ⟨zo4, hzo4, hF⟩ := z_bind hF
  refine z_calll (fun (u : (Nat → Int64) × (Nat → Int64) × (Nat → Int64) × Int32 × Int32) => (wModel g (qd 0) (qd 1) (qd 2) (qd 3) (qd 4) (qd 5) (qd 6) (qd 7) (qd 8) (qd 9) (qd 10) (qd 11) (qd 12) u.1 u.2.1 msav misS u.2.2.1 u.2.2.2.1 merr mfai u.2.2.2.2 minp minM mUp mcar mcam mahd magn mltr mbeg mcmd mcmM mpl msz mwr mlin mliM)) zLM (va_runV (As := [.int (xs (Int32.toNatClampNeg (i + 1)))]) (rest := []) ⟨hx, hb, hml, hown, hts⟩ (c_X11_remove l g (qd 0) (qd 1) (qd 2) (qd 3) (qd 4) (qd 5) (qd 6) (qd 7) (qd 8) (qd 9) (qd 10) (qd 11) (qd 12) mm masd msav misS mpst mchg merr mfai mthr minp minM mUp mcar mcam mahd magn mltr mbeg mcmd mcmM mpl msz mwr mlin mliM _ (xs (Int32.toNatClampNeg (i + 1))) fu _ hzo4) (cwV 1 hts (gdV mU_1392 mU_1393 mU_1394 mU_75 mU_1395) rfl rfl rfl (by decide +kernel) ⟨Nat.le_of_ble_eq_true rfl, Nat.le_of_ble_eq_true rfl⟩) ⟨z_blind _ _ _ _, va_recv hK hP (ci := 7) (q0 := 76) rfl rfl, fun U hU hW => z_pre zLM hP hD hK hB hS hA wLaw_CM wLaw_NM hU hW⟩ rfl rfl hl.1 rfl (lv_room (Nat.le_of_ble_eq_true rfl)) dL_law_448 ⟨by omega, by omega⟩) hP hD hS hA wLaw_CM (fun _ => rfl) (fun r u H locs hw hP hD hS => ?_)
  obtain ⟨rfl, rfl⟩ := hw
  have hP : va_P (gD g) zCl (wLaw g ad qd zo2.2.1 sv isS zo2.2.2.1 zo2.2.2.2.1 zo2.2.2.2.2.1 seen dbef drec ptx plen ppos pcnt cmds stE stF lch llen zo2.2.2.2.2.2 jd zo4.2.1 zo4.2.2.1 msav misS zo4.2.2.2.1 zo4.2.2.2.2.1 merr mfai zo4.2.2.2.2.2 minp minM mUp mcar mcam mahd magn mltr mbeg mcmd mcmM mpl msz mwr mlin mliM) H := Eq.mp (congrArg (fun w => va_P (gD g) zCl w H) wLaw_SM) hP
  have hD : va_D A (wLaw g ad qd zo2.2.1 sv isS zo2.2.2.1 zo2.2.2.2.1 zo2.2.2.2.2.1 seen dbef drec ptx plen ppos pcnt cmds stE stF lch llen zo2.2.2.2.2.2 jd zo4.2.1 zo4.2.2.1 msav misS zo4.2.2.2.1 zo4.2.2.2.2.1 merr mfai zo4.2.2.2.2.2 minp minM mUp mcar mcam mahd magn mltr mbeg mcmd mcmM mpl msz mwr mlin mliM) := Eq.mp (congrArg (fun w => va_D A w) wLaw_SM) hD
  refine lv_lstore (lv' := [(7, .long zo4.1), (6, .int zo2.1), (5, .int i), (4, .ref (ad 75)), (3, .ref (ad 74)), (2, .ref (qd 0)), (1, .ref (ad 0)), (0, .ref b)]) hx hb dL_law_451 hl (by decide) rfl (fun ls hl => ?_)
  refine lv_aload_n hx hb dL_law_453 rfl (lv_at hl 5 rfl) ?_
  obtain ⟨zo5, hzo5, hF⟩ := z_bind hF
  refine z_calli (fun (_ : Unit) => (wModel g (qd 0) (qd 1) (qd 2) (qd 3) (qd 4) (qd 5) (qd 6) (qd 7) (qd 8) (qd 9) (qd 10) (qd 11) (qd 12) zo4.2.1 zo4.2.2.1 msav misS zo4.2.2.2.1 zo4.2.2.2.2.1 merr mfai zo4.2.2.2.2.2 minp minM mUp mcar mcam mahd magn mltr mbeg mcmd mcmM mpl msz mwr mlin mliM)) zLM (va_runV (As := []) (rest := []) ⟨hx, hb, hml, hown, hts⟩ (c_X11_thrown l g (qd 0) (qd 1) (qd 2) (qd 3) (qd 4) (qd 5) (qd 6) (qd 7) (qd 8) (qd 9) (qd 10) (qd 11) (qd 12) zo4.2.1 zo4.2.2.1 msav misS zo4.2.2.2.1 zo4.2.2.2.2.1 merr mfai zo4.2.2.2.2.2 minp minM mUp mcar mcam mahd magn mltr mbeg mcmd mcmM mpl msz mwr mlin mliM _ _ hzo5) (cwV 0 hts (gdV mU_1321 mU_1322 mU_1323 mU_75 mU_1324) rfl rfl rfl (by decide +kernel) ⟨Nat.le_of_ble_eq_true rfl, Nat.le_of_ble_eq_true rfl⟩) ⟨z_blind _ _ _ _, va_recv hK hP (ci := 7) (q0 := 76) rfl rfl, fun U hU hW => z_pre zLM hP hD hK hB hS hA wLaw_CM wLaw_NM hU hW⟩ rfl rfl hl.1 rfl (lv_room (Nat.le_of_ble_eq_true rfl)) dL_law_454 ⟨by omega, by omega⟩) hP hD hS hA wLaw_CM (fun _ => rfl) (fun r u H locs hw hP hD hS => ?_)
  subst hw
  have hP : va_P (gD g) zCl (wLaw g ad qd zo2.2.1 sv isS zo2.2.2.1 zo2.2.2.2.1 zo2.2.2.2.2.1 seen dbef drec ptx plen ppos pcnt cmds stE stF lch llen zo2.2.2.2.2.2 jd zo4.2.1 zo4.2.2.1 msav misS zo4.2.2.2.1 zo4.2.2.2.2.1 merr mfai zo4.2.2.2.2.2 minp minM mUp mcar mcam mahd magn mltr mbeg mcmd mcmM mpl msz mwr mlin mliM) H := Eq.mp (congrArg (fun w => va_P (gD g) zCl w H) wLaw_SM) hP
  have hD : va_D A (wLaw g ad qd zo2.2.1 sv isS zo2.2.2.1 zo2.2.2.2.1 zo2.2.2.2.2.1 seen dbef drec ptx plen ppos pcnt cmds stE stF lch llen zo2.2.2.2.2.2 jd zo4.2.1 zo4.2.2.1 msav misS zo4.2.2.2.1 zo4.2.2.2.2.1 merr mfai zo4.2.2.2.2.2 minp minM mUp mcar mcam mahd magn mltr mbeg mcmd mcmM mpl msz mwr mlin mliM) := Eq.mp (congrArg (fun w => va_D A w) wLaw_SM) hD
  refine lv_iload hx hb dL_law_457 (lv_at hl 1 rfl) ?_
  refine lv_icmp_eq (tgt := 464) hx hb dL_law_459 (by decide) (fun zc6 => ?_) (fun zc6 => ?_)
  · have hF := z_pos hF zc6
    refine lv_iload hx hb dL_law_464 (lv_at hl 1 rfl) ?_
    refine lv_if_ne (tgt := 480) hx hb dL_law_466 (by decide) (fun zc7 => ?_) (fun zc7 => ?_)
    · have hF := z_neg hF zc7
      refine lv_goto (tgt := 2792) hx hb dL_law_480 (by decide) ?_
      have ho := (Option.some.inj hF).symm
      subst ho
      refine W.widen (k := cells + 51) (n := slots + 306) (by omega) (by omega) ?_
      exact kj _ _ _ (lv_sub hl [2, 3, 4, 5, 6, 7] rfl) hP hD hS
    · have hF := z_pos hF zc7
      refine lv_aload_n hx hb dL_law_469 rfl (lv_at hl 4 rfl) ?_
      refine lv_iconst (v := 0) hx hb dL_law_470 (by decide) ?_
      refine va_lald hx hb hK hP 74 2 rfl rfl (by unfold vp_in; decide) dL_law_471 ?_
      refine lv_lload hx hb dL_law_472 (lv_at hl 0 rfl) ?_
      refine z_lcmp_eq (tgt := 480) hx hb dL_law_474 dL_law_475 (by decide) (fun zc8 => ?_) (fun zc8 => ?_)
      · have hF := z_pos hF zc8
        refine lv_goto (tgt := 2792) hx hb dL_law_480 (by decide) ?_
        have ho := (Option.some.inj hF).symm
        subst ho
        refine W.widen (k := cells + 51) (n := slots + 306) (by omega) (by omega) ?_
        exact kj _ _ _ (lv_sub hl [2, 3, 4, 5, 6, 7] rfl) hP hD hS
      · have hF := z_neg hF zc8
        refine lv_iconst (v := 0) hx hb dL_law_478 (by decide) ?_
        exact absurd hF (by simp)
  · have hF := z_neg hF zc6
    refine lv_iconst (v := 0) hx hb dL_law_462 (by decide) ?_
    exact absurd hF (by simp)
set_option maxHeartbeats 4000000 in
set_option maxRecDepth 100000 in
theorem k_law_483 {p : Program} {e : Env} {s : State} {m : MethodId} {below : List Frame} {meth : Method} {c : Code} (l : Launch) (hl0 : l.stackTraces = false) {b L : Nat} {xs : Nat → Int32} (hx : p.tables.exec = Jvm.exec) (hb : c.code = cL_law) (hml : c.maxLocals = 9) (hown : s.vm.findClass RL = some m.cls) (hts : ∀ w ∈ wU, w.before #[Value.ref b] s = true) (hX : va_X b L xs s s.heap) (hbl : b < s.heap.size) {A : Nat → Prop} (hbA : ¬ A b) (hA : ∀ q, s.heap.size ≤ q → A q) (g : GG) (ad qd : Nat → Nat) (st : SS) (sv : SS) (isS : Int32) (hst : Nat → SS) (spare : Int32) (undo : Int32) (seen : Nat → Int32) (dbef : Int32) (drec : Int32) (ptx : Nat → Int32) (plen : Int32) (ppos : Int32) (pcnt : Int32) (cmds : Nat → CC) (stE : Int32) (stF : Int32) (lch : Nat → Int32) (llen : Int32) (jo : Nat → Int64) (jd : Nat → UInt64) (mm : Nat → Int64) (masd : Nat → Int64) (msav : Nat → Int64) (misS : Int32) (mpst : Nat → Int64) (mchg : Int32) (merr : Int32) (mfai : Int32) (mthr : Int32) (minp : Nat → Int32) (minM : Int32) (mUp : Nat → Int32) (mcar : Nat → Int32) (mcam : Nat → Int32) (mahd : Int32) (magn : Int32) (mltr : Nat → Int32) (mbeg : Nat → Int32) (mcmd : Nat → Int32) (mcmM : Int32) (mpl : Int32) (msz : Int32) (mwr : Int32) (mlin : Nat → Int32) (mliM : Int32) (hK : va_K (gD g) zCl (gT g) s) (hB : KB g A s s.heap) (fu : Nat) (i : Int32) (u : SS × (Nat → SS) × Int32 × Int32 × (Nat → Int64) × (Nat → Int64) × (Nat → Int64) × (Nat → Int64) × Int32 × Int32) (hF : G_law_483 fu st hst spare undo jo mm masd mpst mchg mthr L xs i = some u) {H : Heap} {locs : List Loc} {ls : Array Slot} {cells slots : Nat} (hc : cells + 51 ≤ 603072) (hsl : slots + 306 ≤ 7170153) (hl : lv_has ls 9 [(5, .int i), (4, .ref (ad 75)), (3, .ref (ad 74)), (2, .ref (qd 0)), (1, .ref (ad 0)), (0, .ref b)]) (hP : va_P (gD g) zCl (wLaw g ad qd st sv isS hst spare undo seen dbef drec ptx plen ppos pcnt cmds stE stF lch llen jo jd mm masd msav misS mpst mchg merr mfai mthr minp minM mUp mcar mcam mahd magn mltr mbeg mcmd mcmM mpl msz mwr mlin mliM) H) (hD : va_D A (wLaw g ad qd st sv isS hst spare undo seen dbef drec ptx plen ppos pcnt cmds stE stF lch llen jo jd mm masd msav misS mpst mchg merr mfai mthr minp minM mUp mcar mcam mahd magn mltr mbeg mcmd mcmM mpl msz mwr mlin mliM)) (hS : va_S A s.heap H locs)
    (kj : ∀ (H : Heap) (locs : List Loc) (ls : Array Slot), lv_has ls 9 [(5, .int i), (4, .ref (ad 75)), (3, .ref (ad 74)), (2, .ref (qd 0)), (1, .ref (ad 0)), (0, .ref b)] → va_P (gD g) zCl (wLaw g ad qd u.1 sv isS u.2.1 u.2.2.1 u.2.2.2.1 seen dbef drec ptx plen ppos pcnt cmds stE stF lch llen u.2.2.2.2.1 jd u.2.2.2.2.2.1 u.2.2.2.2.2.2.1 msav misS u.2.2.2.2.2.2.2.1 u.2.2.2.2.2.2.2.2.1 merr mfai u.2.2.2.2.2.2.2.2.2 minp minM mUp mcar mcam mahd magn mltr mbeg mcmd mcmM mpl msz mwr mlin mliM) H → va_D A (wLaw g ad qd u.1 sv isS u.2.1 u.2.2.1 u.2.2.2.1 seen dbef drec ptx plen ppos pcnt cmds stE stF lch llen u.2.2.2.2.1 jd u.2.2.2.2.2.1 u.2.2.2.2.2.2.1 msav misS u.2.2.2.2.2.2.2.1 u.2.2.2.2.2.2.2.2.1 merr mfai u.2.2.2.2.2.2.2.2.2 minp minM mUp mcar mcam mahd magn mltr mbeg mcmd mcmM mpl msz mwr mlin mliM) → va_S A s.heap H locs → W p l e room_1 s m #[Value.ref b] below meth c H locs (cells + 51) (slots + 306) (lw_Z below #[Value.ref b] s) (F0 m 2792 ls [])) : W p l e room_1 s m #[Value.ref b] below meth c H locs cells slots (lw_Z below #[Value.ref b] s) (F0 m 483 ls []) := by
  have hc : cells + 51 ≤ room_1.cells := hc
  have hsl : slots + 306 ≤ room_1.slots := hsl
  unfold G_law_483 at hF
  refine lv_aload_n hx hb dL_law_483 rfl (lv_at hl 4 rfl) ?_
  refine lv_aload_n hx hb dL_law_484 rfl (lv_at hl 5 rfl) ?_
  refine lv_iload hx hb dL_law_485 (lv_at hl 0 rfl) ?_
  refine lv_iconst (v := 1) hx hb dL_law_487 (by decide) ?_
  refine lv_iadd hx hb dL_law_488 ?_
  obtain ⟨zg1, hF⟩ := z_grd hF
  refine va_sld hx hb hX hbl hbA hS zg1 dL_law_489 ?_
  refine lv_aload_n hx hb dL_law_490 rfl (lv_at hl 5 rfl) ?_
  refine lv_iload hx hb dL_law_491 (lv_at hl 0 rfl) ?_
  refine lv_iconst (v := 2) hx hb dL_law_493 (by decide) ?_
  refine lv_iadd hx hb dL_law_494 ?_
  obtain ⟨zg2, hF⟩ := z_grd hF
  refine va_sld hx hb hX hbl hbA hS zg2 dL_law_495 ?_
  refine lv_aload_n hx hb dL_law_496 rfl (lv_at hl 5 rfl) ?_
  refine lv_iload hx hb dL_law_497 (lv_at hl 0 rfl) ?_
  refine lv_iconst (v := 3) hx hb dL_law_499 (by decide) ?_
  refine lv_iadd hx hb dL_law_500 ?_
  obtain ⟨zg3, hF⟩ := z_grd hF
  refine va_sld hx hb hX hbl hbA hS zg3 dL_law_501 ?_
  refine lv_aload_n hx hb dL_law_502 rfl (lv_at hl 2 rfl) ?_
  obtain ⟨zo4, hzo4, hF⟩ := z_bind hF
  refine z_calli (fun (u : SS × (Nat → SS) × Int32 × Int32 × (Nat → Int64)) => (wRootJ g ad u.1 sv isS u.2.1 u.2.2.1 u.2.2.2.1 seen dbef drec ptx plen ppos pcnt cmds stE stF lch llen u.2.2.2.2)) zLJ (vx_runSW (As := [.ref (ad 0), .int (xs (Int32.toNatClampNeg (i + 1))), .int (xs (Int32.toNatClampNeg (i + 2))), .int (xs (Int32.toNatClampNeg (i + 3))), .ref (ad 74)]) (rest := []) ⟨hx, hb, hml, hown, hts⟩ (c_L_feed l hl0 g ad st sv isS hst spare undo seen dbef drec ptx plen ppos pcnt cmds stE stF lch llen jo _ (xs (Int32.toNatClampNeg (i + 1))) (xs (Int32.toNatClampNeg (i + 2))) (xs (Int32.toNatClampNeg (i + 3))) fu _ hzo4) (vx_cwSW 5 hts (gdS mU_723 mU_724 mU_65 mU_725) rfl rfl rfl (by decide +kernel) ⟨Nat.le_of_ble_eq_true rfl, Nat.le_of_ble_eq_true rfl⟩) ⟨z_blind _ _ _ _, fun U hU hW => z_pre zLJ hP hD hK hB hS hA wLaw_CJ wLaw_NJ hU hW⟩ rfl rfl hl.1 rfl (lv_room (Nat.le_of_ble_eq_true rfl)) dL_law_503 ⟨by omega, by omega⟩) hP hD hS hA wLaw_CJ (fun _ => rfl) (fun r u H locs hw hP hD hS => ?_)
  obtain ⟨rfl, rfl⟩ := hw
  have hP : va_P (gD g) zCl (wLaw g ad qd zo4.2.1 sv isS zo4.2.2.1 zo4.2.2.2.1 zo4.2.2.2.2.1 seen dbef drec ptx plen ppos pcnt cmds stE stF lch llen zo4.2.2.2.2.2 jd mm masd msav misS mpst mchg merr mfai mthr minp minM mUp mcar mcam mahd magn mltr mbeg mcmd mcmM mpl msz mwr mlin mliM) H := Eq.mp (congrArg (fun w => va_P (gD g) zCl w H) wLaw_SJ) hP
  have hD : va_D A (wLaw g ad qd zo4.2.1 sv isS zo4.2.2.1 zo4.2.2.2.1 zo4.2.2.2.2.1 seen dbef drec ptx plen ppos pcnt cmds stE stF lch llen zo4.2.2.2.2.2 jd mm masd msav misS mpst mchg merr mfai mthr minp minM mUp mcar mcam mahd magn mltr mbeg mcmd mcmM mpl msz mwr mlin mliM) := Eq.mp (congrArg (fun w => va_D A w) wLaw_SJ) hD
  refine lv_istore (lv' := [(6, .int zo4.1), (5, .int i), (4, .ref (ad 75)), (3, .ref (ad 74)), (2, .ref (qd 0)), (1, .ref (ad 0)), (0, .ref b)]) hx hb dL_law_506 hl (by decide) rfl (fun ls hl => ?_)
  refine lv_aload_n hx hb dL_law_508 rfl (lv_at hl 4 rfl) ?_
  refine lv_aload_n hx hb dL_law_509 rfl (lv_at hl 6 rfl) ?_
  refine lv_iload hx hb dL_law_510 (lv_at hl 1 rfl) ?_
  refine lv_iconst (v := 1) hx hb dL_law_512 (by decide) ?_
  refine lv_iadd hx hb dL_law_513 ?_
  obtain ⟨zg5, hF⟩ := z_grd hF
  refine va_sld hx hb hX hbl hbA hS zg5 dL_law_514 ?_
  refine lv_aload_n hx hb dL_law_515 rfl (lv_at hl 6 rfl) ?_
  refine lv_iload hx hb dL_law_516 (lv_at hl 1 rfl) ?_
  refine lv_iconst (v := 2) hx hb dL_law_518 (by decide) ?_
  refine lv_iadd hx hb dL_law_519 ?_
  obtain ⟨zg6, hF⟩ := z_grd hF
  refine va_sld hx hb hX hbl hbA hS zg6 dL_law_520 ?_
  refine lv_aload_n hx hb dL_law_521 rfl (lv_at hl 6 rfl) ?_
  refine lv_iload hx hb dL_law_522 (lv_at hl 1 rfl) ?_
  refine lv_iconst (v := 3) hx hb dL_law_524 (by decide) ?_
  refine lv_iadd hx hb dL_law_525 ?_
  obtain ⟨zg7, hF⟩ := z_grd hF
  refine va_sld hx hb hX hbl hbA hS zg7 dL_law_526 ?_
  obtain ⟨zo8, hzo8, hF⟩ := z_bind hF
  refine z_calll (fun (u : (Nat → Int64) × (Nat → Int64) × (Nat → Int64) × Int32 × Int32) => (wModel g (qd 0) (qd 1) (qd 2) (qd 3) (qd 4) (qd 5) (qd 6) (qd 7) (qd 8) (qd 9) (qd 10) (qd 11) (qd 12) u.1 u.2.1 msav misS u.2.2.1 u.2.2.2.1 merr mfai u.2.2.2.2 minp minM mUp mcar mcam mahd magn mltr mbeg mcmd mcmM mpl msz mwr mlin mliM)) zLM (va_runV (As := [.int (xs (Int32.toNatClampNeg (i + 1))), .int (xs (Int32.toNatClampNeg (i + 2))), .int (xs (Int32.toNatClampNeg (i + 3)))]) (rest := []) ⟨hx, hb, hml, hown, hts⟩ (c_X11_feed l g (qd 0) (qd 1) (qd 2) (qd 3) (qd 4) (qd 5) (qd 6) (qd 7) (qd 8) (qd 9) (qd 10) (qd 11) (qd 12) mm masd msav misS mpst mchg merr mfai mthr minp minM mUp mcar mcam mahd magn mltr mbeg mcmd mcmM mpl msz mwr mlin mliM _ (xs (Int32.toNatClampNeg (i + 1))) (xs (Int32.toNatClampNeg (i + 2))) (xs (Int32.toNatClampNeg (i + 3))) fu _ hzo8) (cwV 3 hts (gdV mU_1404 mU_1405 mU_1406 mU_75 mU_1407) rfl rfl rfl (by decide +kernel) ⟨Nat.le_of_ble_eq_true rfl, Nat.le_of_ble_eq_true rfl⟩) ⟨z_blind _ _ _ _, va_recv hK hP (ci := 7) (q0 := 76) rfl rfl, fun U hU hW => z_pre zLM hP hD hK hB hS hA wLaw_CM wLaw_NM hU hW⟩ rfl rfl hl.1 rfl (lv_room (Nat.le_of_ble_eq_true rfl)) dL_law_527 ⟨by omega, by omega⟩) hP hD hS hA wLaw_CM (fun _ => rfl) (fun r u H locs hw hP hD hS => ?_)
  obtain ⟨rfl, rfl⟩ := hw
  have hP : va_P (gD g) zCl (wLaw g ad qd zo4.2.1 sv isS zo4.2.2.1 zo4.2.2.2.1 zo4.2.2.2.2.1 seen dbef drec ptx plen ppos pcnt cmds stE stF lch llen zo4.2.2.2.2.2 jd zo8.2.1 zo8.2.2.1 msav misS zo8.2.2.2.1 zo8.2.2.2.2.1 merr mfai zo8.2.2.2.2.2 minp minM mUp mcar mcam mahd magn mltr mbeg mcmd mcmM mpl msz mwr mlin mliM) H := Eq.mp (congrArg (fun w => va_P (gD g) zCl w H) wLaw_SM) hP
  have hD : va_D A (wLaw g ad qd zo4.2.1 sv isS zo4.2.2.1 zo4.2.2.2.1 zo4.2.2.2.2.1 seen dbef drec ptx plen ppos pcnt cmds stE stF lch llen zo4.2.2.2.2.2 jd zo8.2.1 zo8.2.2.1 msav misS zo8.2.2.2.1 zo8.2.2.2.2.1 merr mfai zo8.2.2.2.2.2 minp minM mUp mcar mcam mahd magn mltr mbeg mcmd mcmM mpl msz mwr mlin mliM) := Eq.mp (congrArg (fun w => va_D A w) wLaw_SM) hD
  refine lv_lstore (lv' := [(7, .long zo8.1), (6, .int zo4.1), (5, .int i), (4, .ref (ad 75)), (3, .ref (ad 74)), (2, .ref (qd 0)), (1, .ref (ad 0)), (0, .ref b)]) hx hb dL_law_530 hl (by decide) rfl (fun ls hl => ?_)
  refine lv_aload_n hx hb dL_law_532 rfl (lv_at hl 5 rfl) ?_
  obtain ⟨zo9, hzo9, hF⟩ := z_bind hF
  refine z_calli (fun (_ : Unit) => (wModel g (qd 0) (qd 1) (qd 2) (qd 3) (qd 4) (qd 5) (qd 6) (qd 7) (qd 8) (qd 9) (qd 10) (qd 11) (qd 12) zo8.2.1 zo8.2.2.1 msav misS zo8.2.2.2.1 zo8.2.2.2.2.1 merr mfai zo8.2.2.2.2.2 minp minM mUp mcar mcam mahd magn mltr mbeg mcmd mcmM mpl msz mwr mlin mliM)) zLM (va_runV (As := []) (rest := []) ⟨hx, hb, hml, hown, hts⟩ (c_X11_thrown l g (qd 0) (qd 1) (qd 2) (qd 3) (qd 4) (qd 5) (qd 6) (qd 7) (qd 8) (qd 9) (qd 10) (qd 11) (qd 12) zo8.2.1 zo8.2.2.1 msav misS zo8.2.2.2.1 zo8.2.2.2.2.1 merr mfai zo8.2.2.2.2.2 minp minM mUp mcar mcam mahd magn mltr mbeg mcmd mcmM mpl msz mwr mlin mliM _ _ hzo9) (cwV 0 hts (gdV mU_1321 mU_1322 mU_1323 mU_75 mU_1324) rfl rfl rfl (by decide +kernel) ⟨Nat.le_of_ble_eq_true rfl, Nat.le_of_ble_eq_true rfl⟩) ⟨z_blind _ _ _ _, va_recv hK hP (ci := 7) (q0 := 76) rfl rfl, fun U hU hW => z_pre zLM hP hD hK hB hS hA wLaw_CM wLaw_NM hU hW⟩ rfl rfl hl.1 rfl (lv_room (Nat.le_of_ble_eq_true rfl)) dL_law_533 ⟨by omega, by omega⟩) hP hD hS hA wLaw_CM (fun _ => rfl) (fun r u H locs hw hP hD hS => ?_)
  subst hw
  have hP : va_P (gD g) zCl (wLaw g ad qd zo4.2.1 sv isS zo4.2.2.1 zo4.2.2.2.1 zo4.2.2.2.2.1 seen dbef drec ptx plen ppos pcnt cmds stE stF lch llen zo4.2.2.2.2.2 jd zo8.2.1 zo8.2.2.1 msav misS zo8.2.2.2.1 zo8.2.2.2.2.1 merr mfai zo8.2.2.2.2.2 minp minM mUp mcar mcam mahd magn mltr mbeg mcmd mcmM mpl msz mwr mlin mliM) H := Eq.mp (congrArg (fun w => va_P (gD g) zCl w H) wLaw_SM) hP
  have hD : va_D A (wLaw g ad qd zo4.2.1 sv isS zo4.2.2.1 zo4.2.2.2.1 zo4.2.2.2.2.1 seen dbef drec ptx plen ppos pcnt cmds stE stF lch llen zo4.2.2.2.2.2 jd zo8.2.1 zo8.2.2.1 msav misS zo8.2.2.2.1 zo8.2.2.2.2.1 merr mfai zo8.2.2.2.2.2 minp minM mUp mcar mcam mahd magn mltr mbeg mcmd mcmM mpl msz mwr mlin mliM) := Eq.mp (congrArg (fun w => va_D A w) wLaw_SM) hD
  refine lv_iload hx hb dL_law_536 (lv_at hl 1 rfl) ?_
  refine lv_icmp_eq (tgt := 543) hx hb dL_law_538 (by decide) (fun zc10 => ?_) (fun zc10 => ?_)
  · have hF := z_pos hF zc10
    refine lv_iload hx hb dL_law_543 (lv_at hl 1 rfl) ?_
    refine lv_if_ne (tgt := 559) hx hb dL_law_545 (by decide) (fun zc11 => ?_) (fun zc11 => ?_)
    · have hF := z_neg hF zc11
      refine lv_goto (tgt := 2792) hx hb dL_law_559 (by decide) ?_
      have ho := (Option.some.inj hF).symm
      subst ho
      refine W.widen (k := cells + 51) (n := slots + 306) (by omega) (by omega) ?_
      exact kj _ _ _ (lv_sub hl [2, 3, 4, 5, 6, 7] rfl) hP hD hS
    · have hF := z_pos hF zc11
      refine lv_aload_n hx hb dL_law_548 rfl (lv_at hl 4 rfl) ?_
      refine lv_iconst (v := 0) hx hb dL_law_549 (by decide) ?_
      refine va_lald hx hb hK hP 74 2 rfl rfl (by unfold vp_in; decide) dL_law_550 ?_
      refine lv_lload hx hb dL_law_551 (lv_at hl 0 rfl) ?_
      refine z_lcmp_eq (tgt := 559) hx hb dL_law_553 dL_law_554 (by decide) (fun zc12 => ?_) (fun zc12 => ?_)
      · have hF := z_pos hF zc12
        refine lv_goto (tgt := 2792) hx hb dL_law_559 (by decide) ?_
        have ho := (Option.some.inj hF).symm
        subst ho
        refine W.widen (k := cells + 51) (n := slots + 306) (by omega) (by omega) ?_
        exact kj _ _ _ (lv_sub hl [2, 3, 4, 5, 6, 7] rfl) hP hD hS
      · have hF := z_neg hF zc12
        refine lv_iconst (v := 0) hx hb dL_law_557 (by decide) ?_
        exact absurd hF (by simp)
  · have hF := z_neg hF zc10
    refine lv_iconst (v := 0) hx hb dL_law_541 (by decide) ?_
    exact absurd hF (by simp)
set_option maxHeartbeats 4000000 in
set_option maxRecDepth 100000 in
theorem k_law_562 {p : Program} {e : Env} {s : State} {m : MethodId} {below : List Frame} {meth : Method} {c : Code} (l : Launch) (hl0 : l.stackTraces = false) {b L : Nat} {xs : Nat → Int32} (hx : p.tables.exec = Jvm.exec) (hb : c.code = cL_law) (hml : c.maxLocals = 9) (hown : s.vm.findClass RL = some m.cls) (hts : ∀ w ∈ wU, w.before #[Value.ref b] s = true) (hX : va_X b L xs s s.heap) (hbl : b < s.heap.size) {A : Nat → Prop} (hbA : ¬ A b) (hA : ∀ q, s.heap.size ≤ q → A q) (g : GG) (ad qd : Nat → Nat) (st : SS) (sv : SS) (isS : Int32) (hst : Nat → SS) (spare : Int32) (undo : Int32) (seen : Nat → Int32) (dbef : Int32) (drec : Int32) (ptx : Nat → Int32) (plen : Int32) (ppos : Int32) (pcnt : Int32) (cmds : Nat → CC) (stE : Int32) (stF : Int32) (lch : Nat → Int32) (llen : Int32) (jo : Nat → Int64) (jd : Nat → UInt64) (mm : Nat → Int64) (masd : Nat → Int64) (msav : Nat → Int64) (misS : Int32) (mpst : Nat → Int64) (mchg : Int32) (merr : Int32) (mfai : Int32) (mthr : Int32) (minp : Nat → Int32) (minM : Int32) (mUp : Nat → Int32) (mcar : Nat → Int32) (mcam : Nat → Int32) (mahd : Int32) (magn : Int32) (mltr : Nat → Int32) (mbeg : Nat → Int32) (mcmd : Nat → Int32) (mcmM : Int32) (mpl : Int32) (msz : Int32) (mwr : Int32) (mlin : Nat → Int32) (mliM : Int32) (hK : va_K (gD g) zCl (gT g) s) (hB : KB g A s s.heap) (fu : Nat) (i : Int32) (u : SS × (Nat → SS) × Int32 × Int32 × (Nat → Int64) × (Nat → Int64) × (Nat → Int64) × (Nat → Int64) × Int32 × Int32) (hF : G_law_562 fu st hst spare undo jo mm masd mpst mchg mthr L xs i = some u) {H : Heap} {locs : List Loc} {ls : Array Slot} {cells slots : Nat} (hc : cells + 51 ≤ 603072) (hsl : slots + 306 ≤ 7170153) (hl : lv_has ls 9 [(5, .int i), (4, .ref (ad 75)), (3, .ref (ad 74)), (2, .ref (qd 0)), (1, .ref (ad 0)), (0, .ref b)]) (hP : va_P (gD g) zCl (wLaw g ad qd st sv isS hst spare undo seen dbef drec ptx plen ppos pcnt cmds stE stF lch llen jo jd mm masd msav misS mpst mchg merr mfai mthr minp minM mUp mcar mcam mahd magn mltr mbeg mcmd mcmM mpl msz mwr mlin mliM) H) (hD : va_D A (wLaw g ad qd st sv isS hst spare undo seen dbef drec ptx plen ppos pcnt cmds stE stF lch llen jo jd mm masd msav misS mpst mchg merr mfai mthr minp minM mUp mcar mcam mahd magn mltr mbeg mcmd mcmM mpl msz mwr mlin mliM)) (hS : va_S A s.heap H locs)
    (kj : ∀ (H : Heap) (locs : List Loc) (ls : Array Slot), lv_has ls 9 [(5, .int i), (4, .ref (ad 75)), (3, .ref (ad 74)), (2, .ref (qd 0)), (1, .ref (ad 0)), (0, .ref b)] → va_P (gD g) zCl (wLaw g ad qd u.1 sv isS u.2.1 u.2.2.1 u.2.2.2.1 seen dbef drec ptx plen ppos pcnt cmds stE stF lch llen u.2.2.2.2.1 jd u.2.2.2.2.2.1 u.2.2.2.2.2.2.1 msav misS u.2.2.2.2.2.2.2.1 u.2.2.2.2.2.2.2.2.1 merr mfai u.2.2.2.2.2.2.2.2.2 minp minM mUp mcar mcam mahd magn mltr mbeg mcmd mcmM mpl msz mwr mlin mliM) H → va_D A (wLaw g ad qd u.1 sv isS u.2.1 u.2.2.1 u.2.2.2.1 seen dbef drec ptx plen ppos pcnt cmds stE stF lch llen u.2.2.2.2.1 jd u.2.2.2.2.2.1 u.2.2.2.2.2.2.1 msav misS u.2.2.2.2.2.2.2.1 u.2.2.2.2.2.2.2.2.1 merr mfai u.2.2.2.2.2.2.2.2.2 minp minM mUp mcar mcam mahd magn mltr mbeg mcmd mcmM mpl msz mwr mlin mliM) → va_S A s.heap H locs → W p l e room_1 s m #[Value.ref b] below meth c H locs (cells + 51) (slots + 306) (lw_Z below #[Value.ref b] s) (F0 m 2792 ls [])) : W p l e room_1 s m #[Value.ref b] below meth c H locs cells slots (lw_Z below #[Value.ref b] s) (F0 m 562 ls []) := by
  have hc : cells + 51 ≤ room_1.cells := hc
  have hsl : slots + 306 ≤ room_1.slots := hsl
  unfold G_law_562 at hF
  refine lv_aload_n hx hb dL_law_562 rfl (lv_at hl 4 rfl) ?_
  refine lv_aload_n hx hb dL_law_563 rfl (lv_at hl 5 rfl) ?_
  refine lv_iload hx hb dL_law_564 (lv_at hl 0 rfl) ?_
  refine lv_iconst (v := 1) hx hb dL_law_566 (by decide) ?_
  refine lv_iadd hx hb dL_law_567 ?_
  obtain ⟨zg1, hF⟩ := z_grd hF
  refine va_sld hx hb hX hbl hbA hS zg1 dL_law_568 ?_
  refine lv_aload_n hx hb dL_law_569 rfl (lv_at hl 5 rfl) ?_
  refine lv_iload hx hb dL_law_570 (lv_at hl 0 rfl) ?_
  refine lv_iconst (v := 2) hx hb dL_law_572 (by decide) ?_
  refine lv_iadd hx hb dL_law_573 ?_
  obtain ⟨zg2, hF⟩ := z_grd hF
  refine va_sld hx hb hX hbl hbA hS zg2 dL_law_574 ?_
  refine lv_aload_n hx hb dL_law_575 rfl (lv_at hl 5 rfl) ?_
  refine lv_iload hx hb dL_law_576 (lv_at hl 0 rfl) ?_
  refine lv_iconst (v := 3) hx hb dL_law_578 (by decide) ?_
  refine lv_iadd hx hb dL_law_579 ?_
  obtain ⟨zg3, hF⟩ := z_grd hF
  refine va_sld hx hb hX hbl hbA hS zg3 dL_law_580 ?_
  refine lv_aload_n hx hb dL_law_581 rfl (lv_at hl 5 rfl) ?_
  refine lv_iload hx hb dL_law_582 (lv_at hl 0 rfl) ?_
  refine lv_iconst (v := 4) hx hb dL_law_584 (by decide) ?_
  refine lv_iadd hx hb dL_law_585 ?_
  obtain ⟨zg4, hF⟩ := z_grd hF
  refine va_sld hx hb hX hbl hbA hS zg4 dL_law_586 ?_
  refine lv_aload_n hx hb dL_law_587 rfl (lv_at hl 2 rfl) ?_
  obtain ⟨zo5, hzo5, hF⟩ := z_bind hF
  refine z_calli (fun (u : SS × (Nat → SS) × Int32 × Int32 × (Nat → Int64)) => (wRootJ g ad u.1 sv isS u.2.1 u.2.2.1 u.2.2.2.1 seen dbef drec ptx plen ppos pcnt cmds stE stF lch llen u.2.2.2.2)) zLJ (vx_runSW (As := [.ref (ad 0), .int (xs (Int32.toNatClampNeg (i + 1))), .int (xs (Int32.toNatClampNeg (i + 2))), .int (xs (Int32.toNatClampNeg (i + 3))), .int (xs (Int32.toNatClampNeg (i + 4))), .ref (ad 74)]) (rest := []) ⟨hx, hb, hml, hown, hts⟩ (c_L_trade l hl0 g ad st sv isS hst spare undo seen dbef drec ptx plen ppos pcnt cmds stE stF lch llen jo _ (xs (Int32.toNatClampNeg (i + 1))) (xs (Int32.toNatClampNeg (i + 2))) (xs (Int32.toNatClampNeg (i + 3))) (xs (Int32.toNatClampNeg (i + 4))) fu _ hzo5) (vx_cwSW 6 hts (gdS mU_743 mU_744 mU_65 mU_745) rfl rfl rfl (by decide +kernel) ⟨Nat.le_of_ble_eq_true rfl, Nat.le_of_ble_eq_true rfl⟩) ⟨z_blind _ _ _ _, fun U hU hW => z_pre zLJ hP hD hK hB hS hA wLaw_CJ wLaw_NJ hU hW⟩ rfl rfl hl.1 rfl (lv_room (Nat.le_of_ble_eq_true rfl)) dL_law_588 ⟨by omega, by omega⟩) hP hD hS hA wLaw_CJ (fun _ => rfl) (fun r u H locs hw hP hD hS => ?_)
  obtain ⟨rfl, rfl⟩ := hw
  have hP : va_P (gD g) zCl (wLaw g ad qd zo5.2.1 sv isS zo5.2.2.1 zo5.2.2.2.1 zo5.2.2.2.2.1 seen dbef drec ptx plen ppos pcnt cmds stE stF lch llen zo5.2.2.2.2.2 jd mm masd msav misS mpst mchg merr mfai mthr minp minM mUp mcar mcam mahd magn mltr mbeg mcmd mcmM mpl msz mwr mlin mliM) H := Eq.mp (congrArg (fun w => va_P (gD g) zCl w H) wLaw_SJ) hP
  have hD : va_D A (wLaw g ad qd zo5.2.1 sv isS zo5.2.2.1 zo5.2.2.2.1 zo5.2.2.2.2.1 seen dbef drec ptx plen ppos pcnt cmds stE stF lch llen zo5.2.2.2.2.2 jd mm masd msav misS mpst mchg merr mfai mthr minp minM mUp mcar mcam mahd magn mltr mbeg mcmd mcmM mpl msz mwr mlin mliM) := Eq.mp (congrArg (fun w => va_D A w) wLaw_SJ) hD
  refine lv_istore (lv' := [(6, .int zo5.1), (5, .int i), (4, .ref (ad 75)), (3, .ref (ad 74)), (2, .ref (qd 0)), (1, .ref (ad 0)), (0, .ref b)]) hx hb dL_law_591 hl (by decide) rfl (fun ls hl => ?_)
  refine lv_aload_n hx hb dL_law_593 rfl (lv_at hl 4 rfl) ?_
  refine lv_aload_n hx hb dL_law_594 rfl (lv_at hl 6 rfl) ?_
  refine lv_iload hx hb dL_law_595 (lv_at hl 1 rfl) ?_
  refine lv_iconst (v := 1) hx hb dL_law_597 (by decide) ?_
  refine lv_iadd hx hb dL_law_598 ?_
  obtain ⟨zg6, hF⟩ := z_grd hF
  refine va_sld hx hb hX hbl hbA hS zg6 dL_law_599 ?_
  refine lv_aload_n hx hb dL_law_600 rfl (lv_at hl 6 rfl) ?_
  refine lv_iload hx hb dL_law_601 (lv_at hl 1 rfl) ?_
  refine lv_iconst (v := 2) hx hb dL_law_603 (by decide) ?_
  refine lv_iadd hx hb dL_law_604 ?_
  obtain ⟨zg7, hF⟩ := z_grd hF
  refine va_sld hx hb hX hbl hbA hS zg7 dL_law_605 ?_
  refine lv_aload_n hx hb dL_law_606 rfl (lv_at hl 6 rfl) ?_
  refine lv_iload hx hb dL_law_607 (lv_at hl 1 rfl) ?_
  refine lv_iconst (v := 3) hx hb dL_law_609 (by decide) ?_
  refine lv_iadd hx hb dL_law_610 ?_
  obtain ⟨zg8, hF⟩ := z_grd hF
  refine va_sld hx hb hX hbl hbA hS zg8 dL_law_611 ?_
  refine lv_aload_n hx hb dL_law_612 rfl (lv_at hl 6 rfl) ?_
  refine lv_iload hx hb dL_law_613 (lv_at hl 1 rfl) ?_
  refine lv_iconst (v := 4) hx hb dL_law_615 (by decide) ?_
  refine lv_iadd hx hb dL_law_616 ?_
  obtain ⟨zg9, hF⟩ := z_grd hF
  refine va_sld hx hb hX hbl hbA hS zg9 dL_law_617 ?_
  obtain ⟨zo10, hzo10, hF⟩ := z_bind hF
  refine z_calll (fun (u : (Nat → Int64) × (Nat → Int64) × (Nat → Int64) × Int32 × Int32) => (wModel g (qd 0) (qd 1) (qd 2) (qd 3) (qd 4) (qd 5) (qd 6) (qd 7) (qd 8) (qd 9) (qd 10) (qd 11) (qd 12) u.1 u.2.1 msav misS u.2.2.1 u.2.2.2.1 merr mfai u.2.2.2.2 minp minM mUp mcar mcam mahd magn mltr mbeg mcmd mcmM mpl msz mwr mlin mliM)) zLM (va_runV (As := [.int (xs (Int32.toNatClampNeg (i + 1))), .int (xs (Int32.toNatClampNeg (i + 2))), .int (xs (Int32.toNatClampNeg (i + 3))), .int (xs (Int32.toNatClampNeg (i + 4)))]) (rest := []) ⟨hx, hb, hml, hown, hts⟩ (c_X11_trade l g (qd 0) (qd 1) (qd 2) (qd 3) (qd 4) (qd 5) (qd 6) (qd 7) (qd 8) (qd 9) (qd 10) (qd 11) (qd 12) mm masd msav misS mpst mchg merr mfai mthr minp minM mUp mcar mcam mahd magn mltr mbeg mcmd mcmM mpl msz mwr mlin mliM _ (xs (Int32.toNatClampNeg (i + 1))) (xs (Int32.toNatClampNeg (i + 2))) (xs (Int32.toNatClampNeg (i + 3))) (xs (Int32.toNatClampNeg (i + 4))) fu _ hzo10) (cwV 4 hts (gdV mU_1420 mU_1421 mU_1422 mU_75 mU_1423) rfl rfl rfl (by decide +kernel) ⟨Nat.le_of_ble_eq_true rfl, Nat.le_of_ble_eq_true rfl⟩) ⟨z_blind _ _ _ _, va_recv hK hP (ci := 7) (q0 := 76) rfl rfl, fun U hU hW => z_pre zLM hP hD hK hB hS hA wLaw_CM wLaw_NM hU hW⟩ rfl rfl hl.1 rfl (lv_room (Nat.le_of_ble_eq_true rfl)) dL_law_618 ⟨by omega, by omega⟩) hP hD hS hA wLaw_CM (fun _ => rfl) (fun r u H locs hw hP hD hS => ?_)
  obtain ⟨rfl, rfl⟩ := hw
  have hP : va_P (gD g) zCl (wLaw g ad qd zo5.2.1 sv isS zo5.2.2.1 zo5.2.2.2.1 zo5.2.2.2.2.1 seen dbef drec ptx plen ppos pcnt cmds stE stF lch llen zo5.2.2.2.2.2 jd zo10.2.1 zo10.2.2.1 msav misS zo10.2.2.2.1 zo10.2.2.2.2.1 merr mfai zo10.2.2.2.2.2 minp minM mUp mcar mcam mahd magn mltr mbeg mcmd mcmM mpl msz mwr mlin mliM) H := Eq.mp (congrArg (fun w => va_P (gD g) zCl w H) wLaw_SM) hP
  have hD : va_D A (wLaw g ad qd zo5.2.1 sv isS zo5.2.2.1 zo5.2.2.2.1 zo5.2.2.2.2.1 seen dbef drec ptx plen ppos pcnt cmds stE stF lch llen zo5.2.2.2.2.2 jd zo10.2.1 zo10.2.2.1 msav misS zo10.2.2.2.1 zo10.2.2.2.2.1 merr mfai zo10.2.2.2.2.2 minp minM mUp mcar mcam mahd magn mltr mbeg mcmd mcmM mpl msz mwr mlin mliM) := Eq.mp (congrArg (fun w => va_D A w) wLaw_SM) hD
  refine lv_lstore (lv' := [(7, .long zo10.1), (6, .int zo5.1), (5, .int i), (4, .ref (ad 75)), (3, .ref (ad 74)), (2, .ref (qd 0)), (1, .ref (ad 0)), (0, .ref b)]) hx hb dL_law_621 hl (by decide) rfl (fun ls hl => ?_)
  refine lv_aload_n hx hb dL_law_623 rfl (lv_at hl 5 rfl) ?_
  obtain ⟨zo11, hzo11, hF⟩ := z_bind hF
  refine z_calli (fun (_ : Unit) => (wModel g (qd 0) (qd 1) (qd 2) (qd 3) (qd 4) (qd 5) (qd 6) (qd 7) (qd 8) (qd 9) (qd 10) (qd 11) (qd 12) zo10.2.1 zo10.2.2.1 msav misS zo10.2.2.2.1 zo10.2.2.2.2.1 merr mfai zo10.2.2.2.2.2 minp minM mUp mcar mcam mahd magn mltr mbeg mcmd mcmM mpl msz mwr mlin mliM)) zLM (va_runV (As := []) (rest := []) ⟨hx, hb, hml, hown, hts⟩ (c_X11_thrown l g (qd 0) (qd 1) (qd 2) (qd 3) (qd 4) (qd 5) (qd 6) (qd 7) (qd 8) (qd 9) (qd 10) (qd 11) (qd 12) zo10.2.1 zo10.2.2.1 msav misS zo10.2.2.2.1 zo10.2.2.2.2.1 merr mfai zo10.2.2.2.2.2 minp minM mUp mcar mcam mahd magn mltr mbeg mcmd mcmM mpl msz mwr mlin mliM _ _ hzo11) (cwV 0 hts (gdV mU_1321 mU_1322 mU_1323 mU_75 mU_1324) rfl rfl rfl (by decide +kernel) ⟨Nat.le_of_ble_eq_true rfl, Nat.le_of_ble_eq_true rfl⟩) ⟨z_blind _ _ _ _, va_recv hK hP (ci := 7) (q0 := 76) rfl rfl, fun U hU hW => z_pre zLM hP hD hK hB hS hA wLaw_CM wLaw_NM hU hW⟩ rfl rfl hl.1 rfl (lv_room (Nat.le_of_ble_eq_true rfl)) dL_law_624 ⟨by omega, by omega⟩) hP hD hS hA wLaw_CM (fun _ => rfl) (fun r u H locs hw hP hD hS => ?_)
  subst hw
  have hP : va_P (gD g) zCl (wLaw g ad qd zo5.2.1 sv isS zo5.2.2.1 zo5.2.2.2.1 zo5.2.2.2.2.1 seen dbef drec ptx plen ppos pcnt cmds stE stF lch llen zo5.2.2.2.2.2 jd zo10.2.1 zo10.2.2.1 msav misS zo10.2.2.2.1 zo10.2.2.2.2.1 merr mfai zo10.2.2.2.2.2 minp minM mUp mcar mcam mahd magn mltr mbeg mcmd mcmM mpl msz mwr mlin mliM) H := Eq.mp (congrArg (fun w => va_P (gD g) zCl w H) wLaw_SM) hP
  have hD : va_D A (wLaw g ad qd zo5.2.1 sv isS zo5.2.2.1 zo5.2.2.2.1 zo5.2.2.2.2.1 seen dbef drec ptx plen ppos pcnt cmds stE stF lch llen zo5.2.2.2.2.2 jd zo10.2.1 zo10.2.2.1 msav misS zo10.2.2.2.1 zo10.2.2.2.2.1 merr mfai zo10.2.2.2.2.2 minp minM mUp mcar mcam mahd magn mltr mbeg mcmd mcmM mpl msz mwr mlin mliM) := Eq.mp (congrArg (fun w => va_D A w) wLaw_SM) hD
  refine lv_iload hx hb dL_law_627 (lv_at hl 1 rfl) ?_
  refine lv_icmp_eq (tgt := 634) hx hb dL_law_629 (by decide) (fun zc12 => ?_) (fun zc12 => ?_)
  · have hF := z_pos hF zc12
    refine lv_iload hx hb dL_law_634 (lv_at hl 1 rfl) ?_
    refine lv_if_ne (tgt := 650) hx hb dL_law_636 (by decide) (fun zc13 => ?_) (fun zc13 => ?_)
    · have hF := z_neg hF zc13
      refine lv_goto (tgt := 2792) hx hb dL_law_650 (by decide) ?_
      have ho := (Option.some.inj hF).symm
      subst ho
      refine W.widen (k := cells + 51) (n := slots + 306) (by omega) (by omega) ?_
      exact kj _ _ _ (lv_sub hl [2, 3, 4, 5, 6, 7] rfl) hP hD hS
    · have hF := z_pos hF zc13
      refine lv_aload_n hx hb dL_law_639 rfl (lv_at hl 4 rfl) ?_
      refine lv_iconst (v := 0) hx hb dL_law_640 (by decide) ?_
      refine va_lald hx hb hK hP 74 2 rfl rfl (by unfold vp_in; decide) dL_law_641 ?_
      refine lv_lload hx hb dL_law_642 (lv_at hl 0 rfl) ?_
      refine z_lcmp_eq (tgt := 650) hx hb dL_law_644 dL_law_645 (by decide) (fun zc14 => ?_) (fun zc14 => ?_)
      · have hF := z_pos hF zc14
        refine lv_goto (tgt := 2792) hx hb dL_law_650 (by decide) ?_
        have ho := (Option.some.inj hF).symm
        subst ho
        refine W.widen (k := cells + 51) (n := slots + 306) (by omega) (by omega) ?_
        exact kj _ _ _ (lv_sub hl [2, 3, 4, 5, 6, 7] rfl) hP hD hS
      · have hF := z_neg hF zc14
        refine lv_iconst (v := 0) hx hb dL_law_648 (by decide) ?_
        exact absurd hF (by simp)
  · have hF := z_neg hF zc12
    refine lv_iconst (v := 0) hx hb dL_law_632 (by decide) ?_
    exact absurd hF (by simp)
set_option maxHeartbeats 4000000 in
set_option maxRecDepth 100000 in
theorem k_law_653 {p : Program} {e : Env} {s : State} {m : MethodId} {below : List Frame} {meth : Method} {c : Code} (l : Launch) (hl0 : l.stackTraces = false) {b L : Nat} {xs : Nat → Int32} (hx : p.tables.exec = Jvm.exec) (hb : c.code = cL_law) (hml : c.maxLocals = 9) (hown : s.vm.findClass RL = some m.cls) (hts : ∀ w ∈ wU, w.before #[Value.ref b] s = true) (hX : va_X b L xs s s.heap) (hbl : b < s.heap.size) {A : Nat → Prop} (hbA : ¬ A b) (hA : ∀ q, s.heap.size ≤ q → A q) (g : GG) (ad qd : Nat → Nat) (st : SS) (sv : SS) (isS : Int32) (hst : Nat → SS) (spare : Int32) (undo : Int32) (seen : Nat → Int32) (dbef : Int32) (drec : Int32) (ptx : Nat → Int32) (plen : Int32) (ppos : Int32) (pcnt : Int32) (cmds : Nat → CC) (stE : Int32) (stF : Int32) (lch : Nat → Int32) (llen : Int32) (jo : Nat → Int64) (jd : Nat → UInt64) (mm : Nat → Int64) (masd : Nat → Int64) (msav : Nat → Int64) (misS : Int32) (mpst : Nat → Int64) (mchg : Int32) (merr : Int32) (mfai : Int32) (mthr : Int32) (minp : Nat → Int32) (minM : Int32) (mUp : Nat → Int32) (mcar : Nat → Int32) (mcam : Nat → Int32) (mahd : Int32) (magn : Int32) (mltr : Nat → Int32) (mbeg : Nat → Int32) (mcmd : Nat → Int32) (mcmM : Int32) (mpl : Int32) (msz : Int32) (mwr : Int32) (mlin : Nat → Int32) (mliM : Int32) (hK : va_K (gD g) zCl (gT g) s) (hB : KB g A s s.heap) (fu : Nat) (i : Int32) (u : SS × (Nat → SS) × Int32 × Int32 × (Nat → Int64) × (Nat → Int64) × (Nat → Int64) × (Nat → Int64) × Int32 × Int32) (hF : G_law_653 fu st hst spare undo jo mm masd mpst mchg mthr L xs i = some u) {H : Heap} {locs : List Loc} {ls : Array Slot} {cells slots : Nat} (hc : cells + 51 ≤ 603072) (hsl : slots + 306 ≤ 7170153) (hl : lv_has ls 9 [(5, .int i), (4, .ref (ad 75)), (3, .ref (ad 74)), (2, .ref (qd 0)), (1, .ref (ad 0)), (0, .ref b)]) (hP : va_P (gD g) zCl (wLaw g ad qd st sv isS hst spare undo seen dbef drec ptx plen ppos pcnt cmds stE stF lch llen jo jd mm masd msav misS mpst mchg merr mfai mthr minp minM mUp mcar mcam mahd magn mltr mbeg mcmd mcmM mpl msz mwr mlin mliM) H) (hD : va_D A (wLaw g ad qd st sv isS hst spare undo seen dbef drec ptx plen ppos pcnt cmds stE stF lch llen jo jd mm masd msav misS mpst mchg merr mfai mthr minp minM mUp mcar mcam mahd magn mltr mbeg mcmd mcmM mpl msz mwr mlin mliM)) (hS : va_S A s.heap H locs)
    (kj : ∀ (H : Heap) (locs : List Loc) (ls : Array Slot), lv_has ls 9 [(5, .int i), (4, .ref (ad 75)), (3, .ref (ad 74)), (2, .ref (qd 0)), (1, .ref (ad 0)), (0, .ref b)] → va_P (gD g) zCl (wLaw g ad qd u.1 sv isS u.2.1 u.2.2.1 u.2.2.2.1 seen dbef drec ptx plen ppos pcnt cmds stE stF lch llen u.2.2.2.2.1 jd u.2.2.2.2.2.1 u.2.2.2.2.2.2.1 msav misS u.2.2.2.2.2.2.2.1 u.2.2.2.2.2.2.2.2.1 merr mfai u.2.2.2.2.2.2.2.2.2 minp minM mUp mcar mcam mahd magn mltr mbeg mcmd mcmM mpl msz mwr mlin mliM) H → va_D A (wLaw g ad qd u.1 sv isS u.2.1 u.2.2.1 u.2.2.2.1 seen dbef drec ptx plen ppos pcnt cmds stE stF lch llen u.2.2.2.2.1 jd u.2.2.2.2.2.1 u.2.2.2.2.2.2.1 msav misS u.2.2.2.2.2.2.2.1 u.2.2.2.2.2.2.2.2.1 merr mfai u.2.2.2.2.2.2.2.2.2 minp minM mUp mcar mcam mahd magn mltr mbeg mcmd mcmM mpl msz mwr mlin mliM) → va_S A s.heap H locs → W p l e room_1 s m #[Value.ref b] below meth c H locs (cells + 51) (slots + 306) (lw_Z below #[Value.ref b] s) (F0 m 2792 ls [])) : W p l e room_1 s m #[Value.ref b] below meth c H locs cells slots (lw_Z below #[Value.ref b] s) (F0 m 653 ls []) := by
  have hc : cells + 51 ≤ room_1.cells := hc
  have hsl : slots + 306 ≤ room_1.slots := hsl
  unfold G_law_653 at hF
  refine lv_aload_n hx hb dL_law_653 rfl (lv_at hl 4 rfl) ?_
  refine lv_aload_n hx hb dL_law_654 rfl (lv_at hl 5 rfl) ?_
  refine lv_iload hx hb dL_law_655 (lv_at hl 0 rfl) ?_
  refine lv_iconst (v := 1) hx hb dL_law_657 (by decide) ?_
  refine lv_iadd hx hb dL_law_658 ?_
  obtain ⟨zg1, hF⟩ := z_grd hF
  refine va_sld hx hb hX hbl hbA hS zg1 dL_law_659 ?_
  refine lv_aload_n hx hb dL_law_660 rfl (lv_at hl 5 rfl) ?_
  refine lv_iload hx hb dL_law_661 (lv_at hl 0 rfl) ?_
  refine lv_iconst (v := 2) hx hb dL_law_663 (by decide) ?_
  refine lv_iadd hx hb dL_law_664 ?_
  obtain ⟨zg2, hF⟩ := z_grd hF
  refine va_sld hx hb hX hbl hbA hS zg2 dL_law_665 ?_
  refine lv_aload_n hx hb dL_law_666 rfl (lv_at hl 2 rfl) ?_
  obtain ⟨zo3, hzo3, hF⟩ := z_bind hF
  refine z_calli (fun (u : SS × (Nat → SS) × Int32 × Int32 × (Nat → Int64)) => (wRootJ g ad u.1 sv isS u.2.1 u.2.2.1 u.2.2.2.1 seen dbef drec ptx plen ppos pcnt cmds stE stF lch llen u.2.2.2.2)) zLJ (vx_runSW (As := [.ref (ad 0), .int (xs (Int32.toNatClampNeg (i + 1))), .int (xs (Int32.toNatClampNeg (i + 2))), .ref (ad 74)]) (rest := []) ⟨hx, hb, hml, hown, hts⟩ (c_L_setScale l hl0 g ad st sv isS hst spare undo seen dbef drec ptx plen ppos pcnt cmds stE stF lch llen jo _ (xs (Int32.toNatClampNeg (i + 1))) (xs (Int32.toNatClampNeg (i + 2))) fu _ hzo3) (vx_cwSW 4 hts (gdS mU_757 mU_758 mU_65 mU_759) rfl rfl rfl (by decide +kernel) ⟨Nat.le_of_ble_eq_true rfl, Nat.le_of_ble_eq_true rfl⟩) ⟨z_blind _ _ _ _, fun U hU hW => z_pre zLJ hP hD hK hB hS hA wLaw_CJ wLaw_NJ hU hW⟩ rfl rfl hl.1 rfl (lv_room (Nat.le_of_ble_eq_true rfl)) dL_law_667 ⟨by omega, by omega⟩) hP hD hS hA wLaw_CJ (fun _ => rfl) (fun r u H locs hw hP hD hS => ?_)
  obtain ⟨rfl, rfl⟩ := hw
  have hP : va_P (gD g) zCl (wLaw g ad qd zo3.2.1 sv isS zo3.2.2.1 zo3.2.2.2.1 zo3.2.2.2.2.1 seen dbef drec ptx plen ppos pcnt cmds stE stF lch llen zo3.2.2.2.2.2 jd mm masd msav misS mpst mchg merr mfai mthr minp minM mUp mcar mcam mahd magn mltr mbeg mcmd mcmM mpl msz mwr mlin mliM) H := Eq.mp (congrArg (fun w => va_P (gD g) zCl w H) wLaw_SJ) hP
  have hD : va_D A (wLaw g ad qd zo3.2.1 sv isS zo3.2.2.1 zo3.2.2.2.1 zo3.2.2.2.2.1 seen dbef drec ptx plen ppos pcnt cmds stE stF lch llen zo3.2.2.2.2.2 jd mm masd msav misS mpst mchg merr mfai mthr minp minM mUp mcar mcam mahd magn mltr mbeg mcmd mcmM mpl msz mwr mlin mliM) := Eq.mp (congrArg (fun w => va_D A w) wLaw_SJ) hD
  refine lv_istore (lv' := [(6, .int zo3.1), (5, .int i), (4, .ref (ad 75)), (3, .ref (ad 74)), (2, .ref (qd 0)), (1, .ref (ad 0)), (0, .ref b)]) hx hb dL_law_670 hl (by decide) rfl (fun ls hl => ?_)
  refine lv_aload_n hx hb dL_law_672 rfl (lv_at hl 4 rfl) ?_
  refine lv_aload_n hx hb dL_law_673 rfl (lv_at hl 6 rfl) ?_
  refine lv_iload hx hb dL_law_674 (lv_at hl 1 rfl) ?_
  refine lv_iconst (v := 1) hx hb dL_law_676 (by decide) ?_
  refine lv_iadd hx hb dL_law_677 ?_
  obtain ⟨zg4, hF⟩ := z_grd hF
  refine va_sld hx hb hX hbl hbA hS zg4 dL_law_678 ?_
  refine lv_aload_n hx hb dL_law_679 rfl (lv_at hl 6 rfl) ?_
  refine lv_iload hx hb dL_law_680 (lv_at hl 1 rfl) ?_
  refine lv_iconst (v := 2) hx hb dL_law_682 (by decide) ?_
  refine lv_iadd hx hb dL_law_683 ?_
  obtain ⟨zg5, hF⟩ := z_grd hF
  refine va_sld hx hb hX hbl hbA hS zg5 dL_law_684 ?_
  obtain ⟨zo6, hzo6, hF⟩ := z_bind hF
  refine z_calli (fun (u : (Nat → Int64) × (Nat → Int64) × (Nat → Int64) × Int32 × Int32) => (wModel g (qd 0) (qd 1) (qd 2) (qd 3) (qd 4) (qd 5) (qd 6) (qd 7) (qd 8) (qd 9) (qd 10) (qd 11) (qd 12) u.1 u.2.1 msav misS u.2.2.1 u.2.2.2.1 merr mfai u.2.2.2.2 minp minM mUp mcar mcam mahd magn mltr mbeg mcmd mcmM mpl msz mwr mlin mliM)) zLM (va_runV (As := [.int (xs (Int32.toNatClampNeg (i + 1))), .int (xs (Int32.toNatClampNeg (i + 2)))]) (rest := []) ⟨hx, hb, hml, hown, hts⟩ (c_X11_setScale l g (qd 0) (qd 1) (qd 2) (qd 3) (qd 4) (qd 5) (qd 6) (qd 7) (qd 8) (qd 9) (qd 10) (qd 11) (qd 12) mm masd msav misS mpst mchg merr mfai mthr minp minM mUp mcar mcam mahd magn mltr mbeg mcmd mcmM mpl msz mwr mlin mliM _ (xs (Int32.toNatClampNeg (i + 1))) (xs (Int32.toNatClampNeg (i + 2))) fu _ hzo6) (cwV 2 hts (gdV mU_1428 mU_1429 mU_1430 mU_75 mU_1431) rfl rfl rfl (by decide +kernel) ⟨Nat.le_of_ble_eq_true rfl, Nat.le_of_ble_eq_true rfl⟩) ⟨z_blind _ _ _ _, va_recv hK hP (ci := 7) (q0 := 76) rfl rfl, fun U hU hW => z_pre zLM hP hD hK hB hS hA wLaw_CM wLaw_NM hU hW⟩ rfl rfl hl.1 rfl (lv_room (Nat.le_of_ble_eq_true rfl)) dL_law_685 ⟨by omega, by omega⟩) hP hD hS hA wLaw_CM (fun _ => rfl) (fun r u H locs hw hP hD hS => ?_)
  obtain ⟨rfl, rfl⟩ := hw
  have hP : va_P (gD g) zCl (wLaw g ad qd zo3.2.1 sv isS zo3.2.2.1 zo3.2.2.2.1 zo3.2.2.2.2.1 seen dbef drec ptx plen ppos pcnt cmds stE stF lch llen zo3.2.2.2.2.2 jd zo6.2.1 zo6.2.2.1 msav misS zo6.2.2.2.1 zo6.2.2.2.2.1 merr mfai zo6.2.2.2.2.2 minp minM mUp mcar mcam mahd magn mltr mbeg mcmd mcmM mpl msz mwr mlin mliM) H := Eq.mp (congrArg (fun w => va_P (gD g) zCl w H) wLaw_SM) hP
  have hD : va_D A (wLaw g ad qd zo3.2.1 sv isS zo3.2.2.1 zo3.2.2.2.1 zo3.2.2.2.2.1 seen dbef drec ptx plen ppos pcnt cmds stE stF lch llen zo3.2.2.2.2.2 jd zo6.2.1 zo6.2.2.1 msav misS zo6.2.2.2.1 zo6.2.2.2.2.1 merr mfai zo6.2.2.2.2.2 minp minM mUp mcar mcam mahd magn mltr mbeg mcmd mcmM mpl msz mwr mlin mliM) := Eq.mp (congrArg (fun w => va_D A w) wLaw_SM) hD
  refine lv_istore (lv' := [(7, .int zo6.1), (6, .int zo3.1), (5, .int i), (4, .ref (ad 75)), (3, .ref (ad 74)), (2, .ref (qd 0)), (1, .ref (ad 0)), (0, .ref b)]) hx hb dL_law_688 hl (by decide) rfl (fun ls hl => ?_)
  refine lv_aload_n hx hb dL_law_690 rfl (lv_at hl 5 rfl) ?_
  obtain ⟨zo7, hzo7, hF⟩ := z_bind hF
  refine z_calli (fun (_ : Unit) => (wModel g (qd 0) (qd 1) (qd 2) (qd 3) (qd 4) (qd 5) (qd 6) (qd 7) (qd 8) (qd 9) (qd 10) (qd 11) (qd 12) zo6.2.1 zo6.2.2.1 msav misS zo6.2.2.2.1 zo6.2.2.2.2.1 merr mfai zo6.2.2.2.2.2 minp minM mUp mcar mcam mahd magn mltr mbeg mcmd mcmM mpl msz mwr mlin mliM)) zLM (va_runV (As := []) (rest := []) ⟨hx, hb, hml, hown, hts⟩ (c_X11_thrown l g (qd 0) (qd 1) (qd 2) (qd 3) (qd 4) (qd 5) (qd 6) (qd 7) (qd 8) (qd 9) (qd 10) (qd 11) (qd 12) zo6.2.1 zo6.2.2.1 msav misS zo6.2.2.2.1 zo6.2.2.2.2.1 merr mfai zo6.2.2.2.2.2 minp minM mUp mcar mcam mahd magn mltr mbeg mcmd mcmM mpl msz mwr mlin mliM _ _ hzo7) (cwV 0 hts (gdV mU_1321 mU_1322 mU_1323 mU_75 mU_1324) rfl rfl rfl (by decide +kernel) ⟨Nat.le_of_ble_eq_true rfl, Nat.le_of_ble_eq_true rfl⟩) ⟨z_blind _ _ _ _, va_recv hK hP (ci := 7) (q0 := 76) rfl rfl, fun U hU hW => z_pre zLM hP hD hK hB hS hA wLaw_CM wLaw_NM hU hW⟩ rfl rfl hl.1 rfl (lv_room (Nat.le_of_ble_eq_true rfl)) dL_law_691 ⟨by omega, by omega⟩) hP hD hS hA wLaw_CM (fun _ => rfl) (fun r u H locs hw hP hD hS => ?_)
  subst hw
  have hP : va_P (gD g) zCl (wLaw g ad qd zo3.2.1 sv isS zo3.2.2.1 zo3.2.2.2.1 zo3.2.2.2.2.1 seen dbef drec ptx plen ppos pcnt cmds stE stF lch llen zo3.2.2.2.2.2 jd zo6.2.1 zo6.2.2.1 msav misS zo6.2.2.2.1 zo6.2.2.2.2.1 merr mfai zo6.2.2.2.2.2 minp minM mUp mcar mcam mahd magn mltr mbeg mcmd mcmM mpl msz mwr mlin mliM) H := Eq.mp (congrArg (fun w => va_P (gD g) zCl w H) wLaw_SM) hP
  have hD : va_D A (wLaw g ad qd zo3.2.1 sv isS zo3.2.2.1 zo3.2.2.2.1 zo3.2.2.2.2.1 seen dbef drec ptx plen ppos pcnt cmds stE stF lch llen zo3.2.2.2.2.2 jd zo6.2.1 zo6.2.2.1 msav misS zo6.2.2.2.1 zo6.2.2.2.2.1 merr mfai zo6.2.2.2.2.2 minp minM mUp mcar mcam mahd magn mltr mbeg mcmd mcmM mpl msz mwr mlin mliM) := Eq.mp (congrArg (fun w => va_D A w) wLaw_SM) hD
  refine lv_iload hx hb dL_law_694 (lv_at hl 1 rfl) ?_
  refine lv_icmp_eq (tgt := 701) hx hb dL_law_696 (by decide) (fun zc8 => ?_) (fun zc8 => ?_)
  · have hF := z_pos hF zc8
    refine lv_iload hx hb dL_law_701 (lv_at hl 1 rfl) ?_
    refine lv_if_ne (tgt := 718) hx hb dL_law_703 (by decide) (fun zc9 => ?_) (fun zc9 => ?_)
    · have hF := z_neg hF zc9
      refine lv_goto (tgt := 2792) hx hb dL_law_718 (by decide) ?_
      have ho := (Option.some.inj hF).symm
      subst ho
      refine W.widen (k := cells + 51) (n := slots + 306) (by omega) (by omega) ?_
      exact kj _ _ _ (lv_sub hl [2, 3, 4, 5, 6, 7] rfl) hP hD hS
    · have hF := z_pos hF zc9
      refine lv_aload_n hx hb dL_law_706 rfl (lv_at hl 4 rfl) ?_
      refine lv_iconst (v := 0) hx hb dL_law_707 (by decide) ?_
      refine va_lald hx hb hK hP 74 2 rfl rfl (by unfold vp_in; decide) dL_law_708 ?_
      refine lv_iload hx hb dL_law_709 (lv_at hl 0 rfl) ?_
      refine lv_i2l (v := (Int32.toInt64 zo6.1)) hx hb dL_law_711 rfl ?_
      refine z_lcmp_eq (tgt := 718) hx hb dL_law_712 dL_law_713 (by decide) (fun zc10 => ?_) (fun zc10 => ?_)
      · have hF := z_pos hF zc10
        refine lv_goto (tgt := 2792) hx hb dL_law_718 (by decide) ?_
        have ho := (Option.some.inj hF).symm
        subst ho
        refine W.widen (k := cells + 51) (n := slots + 306) (by omega) (by omega) ?_
        exact kj _ _ _ (lv_sub hl [2, 3, 4, 5, 6, 7] rfl) hP hD hS
      · have hF := z_neg hF zc10
        refine lv_iconst (v := 0) hx hb dL_law_716 (by decide) ?_
        exact absurd hF (by simp)
  · have hF := z_neg hF zc8
    refine lv_iconst (v := 0) hx hb dL_law_699 (by decide) ?_
    exact absurd hF (by simp)
set_option maxHeartbeats 4000000 in
set_option maxRecDepth 100000 in
theorem k_law_721 {p : Program} {e : Env} {s : State} {m : MethodId} {below : List Frame} {meth : Method} {c : Code} (l : Launch) (hl0 : l.stackTraces = false) {b L : Nat} {xs : Nat → Int32} (hx : p.tables.exec = Jvm.exec) (hb : c.code = cL_law) (hml : c.maxLocals = 9) (hown : s.vm.findClass RL = some m.cls) (hts : ∀ w ∈ wU, w.before #[Value.ref b] s = true) (hX : va_X b L xs s s.heap) (hbl : b < s.heap.size) {A : Nat → Prop} (hbA : ¬ A b) (hA : ∀ q, s.heap.size ≤ q → A q) (g : GG) (ad qd : Nat → Nat) (st : SS) (sv : SS) (isS : Int32) (hst : Nat → SS) (spare : Int32) (undo : Int32) (seen : Nat → Int32) (dbef : Int32) (drec : Int32) (ptx : Nat → Int32) (plen : Int32) (ppos : Int32) (pcnt : Int32) (cmds : Nat → CC) (stE : Int32) (stF : Int32) (lch : Nat → Int32) (llen : Int32) (jo : Nat → Int64) (jd : Nat → UInt64) (mm : Nat → Int64) (masd : Nat → Int64) (msav : Nat → Int64) (misS : Int32) (mpst : Nat → Int64) (mchg : Int32) (merr : Int32) (mfai : Int32) (mthr : Int32) (minp : Nat → Int32) (minM : Int32) (mUp : Nat → Int32) (mcar : Nat → Int32) (mcam : Nat → Int32) (mahd : Int32) (magn : Int32) (mltr : Nat → Int32) (mbeg : Nat → Int32) (mcmd : Nat → Int32) (mcmM : Int32) (mpl : Int32) (msz : Int32) (mwr : Int32) (mlin : Nat → Int32) (mliM : Int32) (hK : va_K (gD g) zCl (gT g) s) (hB : KB g A s s.heap) (fu : Nat) (i : Int32) (u : SS × (Nat → SS) × Int32 × Int32 × (Nat → Int64) × (Nat → Int64) × (Nat → Int64) × (Nat → Int64) × Int32 × Int32) (hF : G_law_721 fu st hst spare undo jo mm masd mpst mchg mthr L xs i = some u) {H : Heap} {locs : List Loc} {ls : Array Slot} {cells slots : Nat} (hc : cells + 51 ≤ 603072) (hsl : slots + 306 ≤ 7170153) (hl : lv_has ls 9 [(5, .int i), (4, .ref (ad 75)), (3, .ref (ad 74)), (2, .ref (qd 0)), (1, .ref (ad 0)), (0, .ref b)]) (hP : va_P (gD g) zCl (wLaw g ad qd st sv isS hst spare undo seen dbef drec ptx plen ppos pcnt cmds stE stF lch llen jo jd mm masd msav misS mpst mchg merr mfai mthr minp minM mUp mcar mcam mahd magn mltr mbeg mcmd mcmM mpl msz mwr mlin mliM) H) (hD : va_D A (wLaw g ad qd st sv isS hst spare undo seen dbef drec ptx plen ppos pcnt cmds stE stF lch llen jo jd mm masd msav misS mpst mchg merr mfai mthr minp minM mUp mcar mcam mahd magn mltr mbeg mcmd mcmM mpl msz mwr mlin mliM)) (hS : va_S A s.heap H locs)
    (kj : ∀ (H : Heap) (locs : List Loc) (ls : Array Slot), lv_has ls 9 [(5, .int i), (4, .ref (ad 75)), (3, .ref (ad 74)), (2, .ref (qd 0)), (1, .ref (ad 0)), (0, .ref b)] → va_P (gD g) zCl (wLaw g ad qd u.1 sv isS u.2.1 u.2.2.1 u.2.2.2.1 seen dbef drec ptx plen ppos pcnt cmds stE stF lch llen u.2.2.2.2.1 jd u.2.2.2.2.2.1 u.2.2.2.2.2.2.1 msav misS u.2.2.2.2.2.2.2.1 u.2.2.2.2.2.2.2.2.1 merr mfai u.2.2.2.2.2.2.2.2.2 minp minM mUp mcar mcam mahd magn mltr mbeg mcmd mcmM mpl msz mwr mlin mliM) H → va_D A (wLaw g ad qd u.1 sv isS u.2.1 u.2.2.1 u.2.2.2.1 seen dbef drec ptx plen ppos pcnt cmds stE stF lch llen u.2.2.2.2.1 jd u.2.2.2.2.2.1 u.2.2.2.2.2.2.1 msav misS u.2.2.2.2.2.2.2.1 u.2.2.2.2.2.2.2.2.1 merr mfai u.2.2.2.2.2.2.2.2.2 minp minM mUp mcar mcam mahd magn mltr mbeg mcmd mcmM mpl msz mwr mlin mliM) → va_S A s.heap H locs → W p l e room_1 s m #[Value.ref b] below meth c H locs (cells + 51) (slots + 306) (lw_Z below #[Value.ref b] s) (F0 m 2792 ls [])) : W p l e room_1 s m #[Value.ref b] below meth c H locs cells slots (lw_Z below #[Value.ref b] s) (F0 m 721 ls []) := by
  have hc : cells + 51 ≤ room_1.cells := hc
  have hsl : slots + 306 ≤ room_1.slots := hsl
  unfold G_law_721 at hF
  refine lv_aload_n hx hb dL_law_721 rfl (lv_at hl 4 rfl) ?_
  refine lv_aload_n hx hb dL_law_722 rfl (lv_at hl 5 rfl) ?_
  refine lv_iload hx hb dL_law_723 (lv_at hl 0 rfl) ?_
  refine lv_iconst (v := 1) hx hb dL_law_725 (by decide) ?_
  refine lv_iadd hx hb dL_law_726 ?_
  obtain ⟨zg1, hF⟩ := z_grd hF
  refine va_sld hx hb hX hbl hbA hS zg1 dL_law_727 ?_
  refine lv_aload_n hx hb dL_law_728 rfl (lv_at hl 5 rfl) ?_
  refine lv_iload hx hb dL_law_729 (lv_at hl 0 rfl) ?_
  refine lv_iconst (v := 2) hx hb dL_law_731 (by decide) ?_
  refine lv_iadd hx hb dL_law_732 ?_
  obtain ⟨zg2, hF⟩ := z_grd hF
  refine va_sld hx hb hX hbl hbA hS zg2 dL_law_733 ?_
  refine lv_i2c (v := (zchar (xs (Int32.toNatClampNeg (i + 2))))) hx hb dL_law_734 rfl ?_
  refine lv_aload_n hx hb dL_law_735 rfl (lv_at hl 2 rfl) ?_
  obtain ⟨zo3, hzo3, hF⟩ := z_bind hF
  refine z_calli (fun (u : SS × (Nat → SS) × Int32 × Int32 × (Nat → Int64)) => (wRootJ g ad u.1 sv isS u.2.1 u.2.2.1 u.2.2.2.1 seen dbef drec ptx plen ppos pcnt cmds stE stF lch llen u.2.2.2.2)) zLJ (vx_runSW (As := [.ref (ad 0), .int (xs (Int32.toNatClampNeg (i + 1))), .int (zchar (xs (Int32.toNatClampNeg (i + 2)))), .ref (ad 74)]) (rest := []) ⟨hx, hb, hml, hown, hts⟩ (c_L_setMode l hl0 g ad st sv isS hst spare undo seen dbef drec ptx plen ppos pcnt cmds stE stF lch llen jo _ (xs (Int32.toNatClampNeg (i + 1))) (zchar (xs (Int32.toNatClampNeg (i + 2)))) fu _ hzo3) (vx_cwSW 4 hts (gdS mU_768 mU_769 mU_65 mU_770) rfl rfl rfl (by decide +kernel) ⟨Nat.le_of_ble_eq_true rfl, Nat.le_of_ble_eq_true rfl⟩) ⟨z_blind _ _ _ _, fun U hU hW => z_pre zLJ hP hD hK hB hS hA wLaw_CJ wLaw_NJ hU hW⟩ rfl rfl hl.1 rfl (lv_room (Nat.le_of_ble_eq_true rfl)) dL_law_736 ⟨by omega, by omega⟩) hP hD hS hA wLaw_CJ (fun _ => rfl) (fun r u H locs hw hP hD hS => ?_)
  obtain ⟨rfl, rfl⟩ := hw
  have hP : va_P (gD g) zCl (wLaw g ad qd zo3.2.1 sv isS zo3.2.2.1 zo3.2.2.2.1 zo3.2.2.2.2.1 seen dbef drec ptx plen ppos pcnt cmds stE stF lch llen zo3.2.2.2.2.2 jd mm masd msav misS mpst mchg merr mfai mthr minp minM mUp mcar mcam mahd magn mltr mbeg mcmd mcmM mpl msz mwr mlin mliM) H := Eq.mp (congrArg (fun w => va_P (gD g) zCl w H) wLaw_SJ) hP
  have hD : va_D A (wLaw g ad qd zo3.2.1 sv isS zo3.2.2.1 zo3.2.2.2.1 zo3.2.2.2.2.1 seen dbef drec ptx plen ppos pcnt cmds stE stF lch llen zo3.2.2.2.2.2 jd mm masd msav misS mpst mchg merr mfai mthr minp minM mUp mcar mcam mahd magn mltr mbeg mcmd mcmM mpl msz mwr mlin mliM) := Eq.mp (congrArg (fun w => va_D A w) wLaw_SJ) hD
  refine lv_istore (lv' := [(6, .int zo3.1), (5, .int i), (4, .ref (ad 75)), (3, .ref (ad 74)), (2, .ref (qd 0)), (1, .ref (ad 0)), (0, .ref b)]) hx hb dL_law_739 hl (by decide) rfl (fun ls hl => ?_)
  refine lv_aload_n hx hb dL_law_741 rfl (lv_at hl 4 rfl) ?_
  refine lv_aload_n hx hb dL_law_742 rfl (lv_at hl 6 rfl) ?_
  refine lv_iload hx hb dL_law_743 (lv_at hl 1 rfl) ?_
  refine lv_iconst (v := 1) hx hb dL_law_745 (by decide) ?_
  refine lv_iadd hx hb dL_law_746 ?_
  obtain ⟨zg4, hF⟩ := z_grd hF
  refine va_sld hx hb hX hbl hbA hS zg4 dL_law_747 ?_
  refine lv_aload_n hx hb dL_law_748 rfl (lv_at hl 6 rfl) ?_
  refine lv_iload hx hb dL_law_749 (lv_at hl 1 rfl) ?_
  refine lv_iconst (v := 2) hx hb dL_law_751 (by decide) ?_
  refine lv_iadd hx hb dL_law_752 ?_
  obtain ⟨zg5, hF⟩ := z_grd hF
  refine va_sld hx hb hX hbl hbA hS zg5 dL_law_753 ?_
  refine lv_i2c (v := (zchar (xs (Int32.toNatClampNeg (i + 2))))) hx hb dL_law_754 rfl ?_
  obtain ⟨zo6, hzo6, hF⟩ := z_bind hF
  refine z_calli (fun (u : (Nat → Int64) × (Nat → Int64) × (Nat → Int64) × Int32 × Int32) => (wModel g (qd 0) (qd 1) (qd 2) (qd 3) (qd 4) (qd 5) (qd 6) (qd 7) (qd 8) (qd 9) (qd 10) (qd 11) (qd 12) u.1 u.2.1 msav misS u.2.2.1 u.2.2.2.1 merr mfai u.2.2.2.2 minp minM mUp mcar mcam mahd magn mltr mbeg mcmd mcmM mpl msz mwr mlin mliM)) zLM (va_runV (As := [.int (xs (Int32.toNatClampNeg (i + 1))), .int (zchar (xs (Int32.toNatClampNeg (i + 2))))]) (rest := []) ⟨hx, hb, hml, hown, hts⟩ (c_X11_setMode l g (qd 0) (qd 1) (qd 2) (qd 3) (qd 4) (qd 5) (qd 6) (qd 7) (qd 8) (qd 9) (qd 10) (qd 11) (qd 12) mm masd msav misS mpst mchg merr mfai mthr minp minM mUp mcar mcam mahd magn mltr mbeg mcmd mcmM mpl msz mwr mlin mliM _ (xs (Int32.toNatClampNeg (i + 1))) (zchar (xs (Int32.toNatClampNeg (i + 2)))) fu _ hzo6) (cwV 2 hts (gdV mU_1436 mU_1437 mU_1438 mU_75 mU_1439) rfl rfl rfl (by decide +kernel) ⟨Nat.le_of_ble_eq_true rfl, Nat.le_of_ble_eq_true rfl⟩) ⟨z_blind _ _ _ _, va_recv hK hP (ci := 7) (q0 := 76) rfl rfl, fun U hU hW => z_pre zLM hP hD hK hB hS hA wLaw_CM wLaw_NM hU hW⟩ rfl rfl hl.1 rfl (lv_room (Nat.le_of_ble_eq_true rfl)) dL_law_755 ⟨by omega, by omega⟩) hP hD hS hA wLaw_CM (fun _ => rfl) (fun r u H locs hw hP hD hS => ?_)
  obtain ⟨rfl, rfl⟩ := hw
  have hP : va_P (gD g) zCl (wLaw g ad qd zo3.2.1 sv isS zo3.2.2.1 zo3.2.2.2.1 zo3.2.2.2.2.1 seen dbef drec ptx plen ppos pcnt cmds stE stF lch llen zo3.2.2.2.2.2 jd zo6.2.1 zo6.2.2.1 msav misS zo6.2.2.2.1 zo6.2.2.2.2.1 merr mfai zo6.2.2.2.2.2 minp minM mUp mcar mcam mahd magn mltr mbeg mcmd mcmM mpl msz mwr mlin mliM) H := Eq.mp (congrArg (fun w => va_P (gD g) zCl w H) wLaw_SM) hP
  have hD : va_D A (wLaw g ad qd zo3.2.1 sv isS zo3.2.2.1 zo3.2.2.2.1 zo3.2.2.2.2.1 seen dbef drec ptx plen ppos pcnt cmds stE stF lch llen zo3.2.2.2.2.2 jd zo6.2.1 zo6.2.2.1 msav misS zo6.2.2.2.1 zo6.2.2.2.2.1 merr mfai zo6.2.2.2.2.2 minp minM mUp mcar mcam mahd magn mltr mbeg mcmd mcmM mpl msz mwr mlin mliM) := Eq.mp (congrArg (fun w => va_D A w) wLaw_SM) hD
  refine lv_istore (lv' := [(7, .int zo6.1), (6, .int zo3.1), (5, .int i), (4, .ref (ad 75)), (3, .ref (ad 74)), (2, .ref (qd 0)), (1, .ref (ad 0)), (0, .ref b)]) hx hb dL_law_758 hl (by decide) rfl (fun ls hl => ?_)
  refine lv_aload_n hx hb dL_law_760 rfl (lv_at hl 5 rfl) ?_
  obtain ⟨zo7, hzo7, hF⟩ := z_bind hF
  refine z_calli (fun (_ : Unit) => (wModel g (qd 0) (qd 1) (qd 2) (qd 3) (qd 4) (qd 5) (qd 6) (qd 7) (qd 8) (qd 9) (qd 10) (qd 11) (qd 12) zo6.2.1 zo6.2.2.1 msav misS zo6.2.2.2.1 zo6.2.2.2.2.1 merr mfai zo6.2.2.2.2.2 minp minM mUp mcar mcam mahd magn mltr mbeg mcmd mcmM mpl msz mwr mlin mliM)) zLM (va_runV (As := []) (rest := []) ⟨hx, hb, hml, hown, hts⟩ (c_X11_thrown l g (qd 0) (qd 1) (qd 2) (qd 3) (qd 4) (qd 5) (qd 6) (qd 7) (qd 8) (qd 9) (qd 10) (qd 11) (qd 12) zo6.2.1 zo6.2.2.1 msav misS zo6.2.2.2.1 zo6.2.2.2.2.1 merr mfai zo6.2.2.2.2.2 minp minM mUp mcar mcam mahd magn mltr mbeg mcmd mcmM mpl msz mwr mlin mliM _ _ hzo7) (cwV 0 hts (gdV mU_1321 mU_1322 mU_1323 mU_75 mU_1324) rfl rfl rfl (by decide +kernel) ⟨Nat.le_of_ble_eq_true rfl, Nat.le_of_ble_eq_true rfl⟩) ⟨z_blind _ _ _ _, va_recv hK hP (ci := 7) (q0 := 76) rfl rfl, fun U hU hW => z_pre zLM hP hD hK hB hS hA wLaw_CM wLaw_NM hU hW⟩ rfl rfl hl.1 rfl (lv_room (Nat.le_of_ble_eq_true rfl)) dL_law_761 ⟨by omega, by omega⟩) hP hD hS hA wLaw_CM (fun _ => rfl) (fun r u H locs hw hP hD hS => ?_)
  subst hw
  have hP : va_P (gD g) zCl (wLaw g ad qd zo3.2.1 sv isS zo3.2.2.1 zo3.2.2.2.1 zo3.2.2.2.2.1 seen dbef drec ptx plen ppos pcnt cmds stE stF lch llen zo3.2.2.2.2.2 jd zo6.2.1 zo6.2.2.1 msav misS zo6.2.2.2.1 zo6.2.2.2.2.1 merr mfai zo6.2.2.2.2.2 minp minM mUp mcar mcam mahd magn mltr mbeg mcmd mcmM mpl msz mwr mlin mliM) H := Eq.mp (congrArg (fun w => va_P (gD g) zCl w H) wLaw_SM) hP
  have hD : va_D A (wLaw g ad qd zo3.2.1 sv isS zo3.2.2.1 zo3.2.2.2.1 zo3.2.2.2.2.1 seen dbef drec ptx plen ppos pcnt cmds stE stF lch llen zo3.2.2.2.2.2 jd zo6.2.1 zo6.2.2.1 msav misS zo6.2.2.2.1 zo6.2.2.2.2.1 merr mfai zo6.2.2.2.2.2 minp minM mUp mcar mcam mahd magn mltr mbeg mcmd mcmM mpl msz mwr mlin mliM) := Eq.mp (congrArg (fun w => va_D A w) wLaw_SM) hD
  refine lv_iload hx hb dL_law_764 (lv_at hl 1 rfl) ?_
  refine lv_icmp_eq (tgt := 771) hx hb dL_law_766 (by decide) (fun zc8 => ?_) (fun zc8 => ?_)
  · have hF := z_pos hF zc8
    refine lv_iload hx hb dL_law_771 (lv_at hl 1 rfl) ?_
    refine lv_if_ne (tgt := 788) hx hb dL_law_773 (by decide) (fun zc9 => ?_) (fun zc9 => ?_)
    · have hF := z_neg hF zc9
      refine lv_goto (tgt := 2792) hx hb dL_law_788 (by decide) ?_
      have ho := (Option.some.inj hF).symm
      subst ho
      refine W.widen (k := cells + 51) (n := slots + 306) (by omega) (by omega) ?_
      exact kj _ _ _ (lv_sub hl [2, 3, 4, 5, 6, 7] rfl) hP hD hS
    · have hF := z_pos hF zc9
      refine lv_aload_n hx hb dL_law_776 rfl (lv_at hl 4 rfl) ?_
      refine lv_iconst (v := 0) hx hb dL_law_777 (by decide) ?_
      refine va_lald hx hb hK hP 74 2 rfl rfl (by unfold vp_in; decide) dL_law_778 ?_
      refine lv_iload hx hb dL_law_779 (lv_at hl 0 rfl) ?_
      refine lv_i2l (v := (Int32.toInt64 zo6.1)) hx hb dL_law_781 rfl ?_
      refine z_lcmp_eq (tgt := 788) hx hb dL_law_782 dL_law_783 (by decide) (fun zc10 => ?_) (fun zc10 => ?_)
      · have hF := z_pos hF zc10
        refine lv_goto (tgt := 2792) hx hb dL_law_788 (by decide) ?_
        have ho := (Option.some.inj hF).symm
        subst ho
        refine W.widen (k := cells + 51) (n := slots + 306) (by omega) (by omega) ?_
        exact kj _ _ _ (lv_sub hl [2, 3, 4, 5, 6, 7] rfl) hP hD hS
      · have hF := z_neg hF zc10
        refine lv_iconst (v := 0) hx hb dL_law_786 (by decide) ?_
        exact absurd hF (by simp)
  · have hF := z_neg hF zc8
    refine lv_iconst (v := 0) hx hb dL_law_769 (by decide) ?_
    exact absurd hF (by simp)
set_option maxHeartbeats 4000000 in
set_option maxRecDepth 100000 in
theorem k_law_791 {p : Program} {e : Env} {s : State} {m : MethodId} {below : List Frame} {meth : Method} {c : Code} (l : Launch) (hl0 : l.stackTraces = false) {b L : Nat} {xs : Nat → Int32} (hx : p.tables.exec = Jvm.exec) (hb : c.code = cL_law) (hml : c.maxLocals = 9) (hown : s.vm.findClass RL = some m.cls) (hts : ∀ w ∈ wU, w.before #[Value.ref b] s = true) (hX : va_X b L xs s s.heap) (hbl : b < s.heap.size) {A : Nat → Prop} (hbA : ¬ A b) (hA : ∀ q, s.heap.size ≤ q → A q) (g : GG) (ad qd : Nat → Nat) (st : SS) (sv : SS) (isS : Int32) (hst : Nat → SS) (spare : Int32) (undo : Int32) (seen : Nat → Int32) (dbef : Int32) (drec : Int32) (ptx : Nat → Int32) (plen : Int32) (ppos : Int32) (pcnt : Int32) (cmds : Nat → CC) (stE : Int32) (stF : Int32) (lch : Nat → Int32) (llen : Int32) (jo : Nat → Int64) (jd : Nat → UInt64) (mm : Nat → Int64) (masd : Nat → Int64) (msav : Nat → Int64) (misS : Int32) (mpst : Nat → Int64) (mchg : Int32) (merr : Int32) (mfai : Int32) (mthr : Int32) (minp : Nat → Int32) (minM : Int32) (mUp : Nat → Int32) (mcar : Nat → Int32) (mcam : Nat → Int32) (mahd : Int32) (magn : Int32) (mltr : Nat → Int32) (mbeg : Nat → Int32) (mcmd : Nat → Int32) (mcmM : Int32) (mpl : Int32) (msz : Int32) (mwr : Int32) (mlin : Nat → Int32) (mliM : Int32) (hK : va_K (gD g) zCl (gT g) s) (hB : KB g A s s.heap) (fu : Nat) (i : Int32) (u : SS × (Nat → SS) × Int32 × Int32 × (Nat → Int64) × (Nat → Int64) × (Nat → Int64) × (Nat → Int64) × Int32 × Int32 × (Nat → Int32)) (hF : G_law_791 fu st hst spare undo jo mm masd mpst mchg mthr mUp L xs i = some u) {H : Heap} {locs : List Loc} {ls : Array Slot} {cells slots : Nat} (hc : cells + 51 ≤ 603072) (hsl : slots + 306 ≤ 7170153) (hl : lv_has ls 9 [(5, .int i), (4, .ref (ad 75)), (3, .ref (ad 74)), (2, .ref (qd 0)), (1, .ref (ad 0)), (0, .ref b)]) (hP : va_P (gD g) zCl (wLaw g ad qd st sv isS hst spare undo seen dbef drec ptx plen ppos pcnt cmds stE stF lch llen jo jd mm masd msav misS mpst mchg merr mfai mthr minp minM mUp mcar mcam mahd magn mltr mbeg mcmd mcmM mpl msz mwr mlin mliM) H) (hD : va_D A (wLaw g ad qd st sv isS hst spare undo seen dbef drec ptx plen ppos pcnt cmds stE stF lch llen jo jd mm masd msav misS mpst mchg merr mfai mthr minp minM mUp mcar mcam mahd magn mltr mbeg mcmd mcmM mpl msz mwr mlin mliM)) (hS : va_S A s.heap H locs)
    (kj : ∀ (H : Heap) (locs : List Loc) (ls : Array Slot), lv_has ls 9 [(5, .int i), (4, .ref (ad 75)), (3, .ref (ad 74)), (2, .ref (qd 0)), (1, .ref (ad 0)), (0, .ref b)] → va_P (gD g) zCl (wLaw g ad qd u.1 sv isS u.2.1 u.2.2.1 u.2.2.2.1 seen dbef drec ptx plen ppos pcnt cmds stE stF lch llen u.2.2.2.2.1 jd u.2.2.2.2.2.1 u.2.2.2.2.2.2.1 msav misS u.2.2.2.2.2.2.2.1 u.2.2.2.2.2.2.2.2.1 merr mfai u.2.2.2.2.2.2.2.2.2.1 minp minM u.2.2.2.2.2.2.2.2.2.2 mcar mcam mahd magn mltr mbeg mcmd mcmM mpl msz mwr mlin mliM) H → va_D A (wLaw g ad qd u.1 sv isS u.2.1 u.2.2.1 u.2.2.2.1 seen dbef drec ptx plen ppos pcnt cmds stE stF lch llen u.2.2.2.2.1 jd u.2.2.2.2.2.1 u.2.2.2.2.2.2.1 msav misS u.2.2.2.2.2.2.2.1 u.2.2.2.2.2.2.2.2.1 merr mfai u.2.2.2.2.2.2.2.2.2.1 minp minM u.2.2.2.2.2.2.2.2.2.2 mcar mcam mahd magn mltr mbeg mcmd mcmM mpl msz mwr mlin mliM) → va_S A s.heap H locs → W p l e room_1 s m #[Value.ref b] below meth c H locs (cells + 51) (slots + 306) (lw_Z below #[Value.ref b] s) (F0 m 2792 ls [])) : W p l e room_1 s m #[Value.ref b] below meth c H locs cells slots (lw_Z below #[Value.ref b] s) (F0 m 791 ls []) := by
  have hc : cells + 51 ≤ room_1.cells := hc
  have hsl : slots + 306 ≤ room_1.slots := hsl
  unfold G_law_791 at hF
  refine lv_aload_n hx hb dL_law_791 rfl (lv_at hl 4 rfl) ?_
  refine lv_aload_n hx hb dL_law_792 rfl (lv_at hl 5 rfl) ?_
  refine lv_iload hx hb dL_law_793 (lv_at hl 0 rfl) ?_
  refine lv_iconst (v := 1) hx hb dL_law_795 (by decide) ?_
  refine lv_iadd hx hb dL_law_796 ?_
  obtain ⟨zg1, hF⟩ := z_grd hF
  refine va_sld hx hb hX hbl hbA hS zg1 dL_law_797 ?_
  refine lv_aload_n hx hb dL_law_798 rfl (lv_at hl 2 rfl) ?_
  obtain ⟨zo2, hzo2, hF⟩ := z_bind hF
  refine z_calli (fun (u : SS × (Nat → SS) × Int32 × Int32 × (Nat → Int64)) => (wRootJ g ad u.1 sv isS u.2.1 u.2.2.1 u.2.2.2.1 seen dbef drec ptx plen ppos pcnt cmds stE stF lch llen u.2.2.2.2)) zLJ (vx_runSW (As := [.ref (ad 0), .int (xs (Int32.toNatClampNeg (i + 1))), .ref (ad 74)]) (rest := []) ⟨hx, hb, hml, hown, hts⟩ (c_L_roundTogether l hl0 g ad st sv isS hst spare undo seen dbef drec ptx plen ppos pcnt cmds stE stF lch llen jo _ (xs (Int32.toNatClampNeg (i + 1))) fu _ hzo2) (vx_cwSW 3 hts (gdS mU_779 mU_780 mU_65 mU_781) rfl rfl rfl (by decide +kernel) ⟨Nat.le_of_ble_eq_true rfl, Nat.le_of_ble_eq_true rfl⟩) ⟨z_blind _ _ _ _, fun U hU hW => z_pre zLJ hP hD hK hB hS hA wLaw_CJ wLaw_NJ hU hW⟩ rfl rfl hl.1 rfl (lv_room (Nat.le_of_ble_eq_true rfl)) dL_law_799 ⟨by omega, by omega⟩) hP hD hS hA wLaw_CJ (fun _ => rfl) (fun r u H locs hw hP hD hS => ?_)
  obtain ⟨rfl, rfl⟩ := hw
  have hP : va_P (gD g) zCl (wLaw g ad qd zo2.2.1 sv isS zo2.2.2.1 zo2.2.2.2.1 zo2.2.2.2.2.1 seen dbef drec ptx plen ppos pcnt cmds stE stF lch llen zo2.2.2.2.2.2 jd mm masd msav misS mpst mchg merr mfai mthr minp minM mUp mcar mcam mahd magn mltr mbeg mcmd mcmM mpl msz mwr mlin mliM) H := Eq.mp (congrArg (fun w => va_P (gD g) zCl w H) wLaw_SJ) hP
  have hD : va_D A (wLaw g ad qd zo2.2.1 sv isS zo2.2.2.1 zo2.2.2.2.1 zo2.2.2.2.2.1 seen dbef drec ptx plen ppos pcnt cmds stE stF lch llen zo2.2.2.2.2.2 jd mm masd msav misS mpst mchg merr mfai mthr minp minM mUp mcar mcam mahd magn mltr mbeg mcmd mcmM mpl msz mwr mlin mliM) := Eq.mp (congrArg (fun w => va_D A w) wLaw_SJ) hD
  refine lv_istore (lv' := [(6, .int zo2.1), (5, .int i), (4, .ref (ad 75)), (3, .ref (ad 74)), (2, .ref (qd 0)), (1, .ref (ad 0)), (0, .ref b)]) hx hb dL_law_802 hl (by decide) rfl (fun ls hl => ?_)
  refine lv_aload_n hx hb dL_law_804 rfl (lv_at hl 4 rfl) ?_
  refine lv_aload_n hx hb dL_law_805 rfl (lv_at hl 6 rfl) ?_
  refine lv_iload hx hb dL_law_806 (lv_at hl 1 rfl) ?_
  refine lv_iconst (v := 1) hx hb dL_law_808 (by decide) ?_
  refine lv_iadd hx hb dL_law_809 ?_
  obtain ⟨zg3, hF⟩ := z_grd hF
  refine va_sld hx hb hX hbl hbA hS zg3 dL_law_810 ?_
  obtain ⟨zo4, hzo4, hF⟩ := z_bind hF
  refine z_calli (fun (u : (Nat → Int64) × (Nat → Int64) × (Nat → Int64) × Int32 × Int32 × (Nat → Int32)) => (wModel g (qd 0) (qd 1) (qd 2) (qd 3) (qd 4) (qd 5) (qd 6) (qd 7) (qd 8) (qd 9) (qd 10) (qd 11) (qd 12) u.1 u.2.1 msav misS u.2.2.1 u.2.2.2.1 merr mfai u.2.2.2.2.1 minp minM u.2.2.2.2.2 mcar mcam mahd magn mltr mbeg mcmd mcmM mpl msz mwr mlin mliM)) zLM (va_runV (As := [.int (xs (Int32.toNatClampNeg (i + 1)))]) (rest := []) ⟨hx, hb, hml, hown, hts⟩ (c_X11_roundTogether l g (qd 0) (qd 1) (qd 2) (qd 3) (qd 4) (qd 5) (qd 6) (qd 7) (qd 8) (qd 9) (qd 10) (qd 11) (qd 12) mm masd msav misS mpst mchg merr mfai mthr minp minM mUp mcar mcam mahd magn mltr mbeg mcmd mcmM mpl msz mwr mlin mliM _ (xs (Int32.toNatClampNeg (i + 1))) fu _ hzo4) (cwV 1 hts (gdV mU_1444 mU_1445 mU_1446 mU_75 mU_1447) rfl rfl rfl (by decide +kernel) ⟨Nat.le_of_ble_eq_true rfl, Nat.le_of_ble_eq_true rfl⟩) ⟨z_blind _ _ _ _, va_recv hK hP (ci := 7) (q0 := 76) rfl rfl, fun U hU hW => z_pre zLM hP hD hK hB hS hA wLaw_CM wLaw_NM hU hW⟩ rfl rfl hl.1 rfl (lv_room (Nat.le_of_ble_eq_true rfl)) dL_law_811 ⟨by omega, by omega⟩) hP hD hS hA wLaw_CM (fun _ => rfl) (fun r u H locs hw hP hD hS => ?_)
  obtain ⟨rfl, rfl⟩ := hw
  have hP : va_P (gD g) zCl (wLaw g ad qd zo2.2.1 sv isS zo2.2.2.1 zo2.2.2.2.1 zo2.2.2.2.2.1 seen dbef drec ptx plen ppos pcnt cmds stE stF lch llen zo2.2.2.2.2.2 jd zo4.2.1 zo4.2.2.1 msav misS zo4.2.2.2.1 zo4.2.2.2.2.1 merr mfai zo4.2.2.2.2.2.1 minp minM zo4.2.2.2.2.2.2 mcar mcam mahd magn mltr mbeg mcmd mcmM mpl msz mwr mlin mliM) H := Eq.mp (congrArg (fun w => va_P (gD g) zCl w H) wLaw_SM) hP
  have hD : va_D A (wLaw g ad qd zo2.2.1 sv isS zo2.2.2.1 zo2.2.2.2.1 zo2.2.2.2.2.1 seen dbef drec ptx plen ppos pcnt cmds stE stF lch llen zo2.2.2.2.2.2 jd zo4.2.1 zo4.2.2.1 msav misS zo4.2.2.2.1 zo4.2.2.2.2.1 merr mfai zo4.2.2.2.2.2.1 minp minM zo4.2.2.2.2.2.2 mcar mcam mahd magn mltr mbeg mcmd mcmM mpl msz mwr mlin mliM) := Eq.mp (congrArg (fun w => va_D A w) wLaw_SM) hD
  refine lv_istore (lv' := [(7, .int zo4.1), (6, .int zo2.1), (5, .int i), (4, .ref (ad 75)), (3, .ref (ad 74)), (2, .ref (qd 0)), (1, .ref (ad 0)), (0, .ref b)]) hx hb dL_law_814 hl (by decide) rfl (fun ls hl => ?_)
  refine lv_aload_n hx hb dL_law_816 rfl (lv_at hl 5 rfl) ?_
  obtain ⟨zo5, hzo5, hF⟩ := z_bind hF
  refine z_calli (fun (_ : Unit) => (wModel g (qd 0) (qd 1) (qd 2) (qd 3) (qd 4) (qd 5) (qd 6) (qd 7) (qd 8) (qd 9) (qd 10) (qd 11) (qd 12) zo4.2.1 zo4.2.2.1 msav misS zo4.2.2.2.1 zo4.2.2.2.2.1 merr mfai zo4.2.2.2.2.2.1 minp minM zo4.2.2.2.2.2.2 mcar mcam mahd magn mltr mbeg mcmd mcmM mpl msz mwr mlin mliM)) zLM (va_runV (As := []) (rest := []) ⟨hx, hb, hml, hown, hts⟩ (c_X11_thrown l g (qd 0) (qd 1) (qd 2) (qd 3) (qd 4) (qd 5) (qd 6) (qd 7) (qd 8) (qd 9) (qd 10) (qd 11) (qd 12) zo4.2.1 zo4.2.2.1 msav misS zo4.2.2.2.1 zo4.2.2.2.2.1 merr mfai zo4.2.2.2.2.2.1 minp minM zo4.2.2.2.2.2.2 mcar mcam mahd magn mltr mbeg mcmd mcmM mpl msz mwr mlin mliM _ _ hzo5) (cwV 0 hts (gdV mU_1321 mU_1322 mU_1323 mU_75 mU_1324) rfl rfl rfl (by decide +kernel) ⟨Nat.le_of_ble_eq_true rfl, Nat.le_of_ble_eq_true rfl⟩) ⟨z_blind _ _ _ _, va_recv hK hP (ci := 7) (q0 := 76) rfl rfl, fun U hU hW => z_pre zLM hP hD hK hB hS hA wLaw_CM wLaw_NM hU hW⟩ rfl rfl hl.1 rfl (lv_room (Nat.le_of_ble_eq_true rfl)) dL_law_817 ⟨by omega, by omega⟩) hP hD hS hA wLaw_CM (fun _ => rfl) (fun r u H locs hw hP hD hS => ?_)
  subst hw
  have hP : va_P (gD g) zCl (wLaw g ad qd zo2.2.1 sv isS zo2.2.2.1 zo2.2.2.2.1 zo2.2.2.2.2.1 seen dbef drec ptx plen ppos pcnt cmds stE stF lch llen zo2.2.2.2.2.2 jd zo4.2.1 zo4.2.2.1 msav misS zo4.2.2.2.1 zo4.2.2.2.2.1 merr mfai zo4.2.2.2.2.2.1 minp minM zo4.2.2.2.2.2.2 mcar mcam mahd magn mltr mbeg mcmd mcmM mpl msz mwr mlin mliM) H := Eq.mp (congrArg (fun w => va_P (gD g) zCl w H) wLaw_SM) hP
  have hD : va_D A (wLaw g ad qd zo2.2.1 sv isS zo2.2.2.1 zo2.2.2.2.1 zo2.2.2.2.2.1 seen dbef drec ptx plen ppos pcnt cmds stE stF lch llen zo2.2.2.2.2.2 jd zo4.2.1 zo4.2.2.1 msav misS zo4.2.2.2.1 zo4.2.2.2.2.1 merr mfai zo4.2.2.2.2.2.1 minp minM zo4.2.2.2.2.2.2 mcar mcam mahd magn mltr mbeg mcmd mcmM mpl msz mwr mlin mliM) := Eq.mp (congrArg (fun w => va_D A w) wLaw_SM) hD
  refine lv_iload hx hb dL_law_820 (lv_at hl 1 rfl) ?_
  refine lv_icmp_eq (tgt := 827) hx hb dL_law_822 (by decide) (fun zc6 => ?_) (fun zc6 => ?_)
  · have hF := z_pos hF zc6
    refine lv_iload hx hb dL_law_827 (lv_at hl 1 rfl) ?_
    refine lv_if_ne (tgt := 844) hx hb dL_law_829 (by decide) (fun zc7 => ?_) (fun zc7 => ?_)
    · have hF := z_neg hF zc7
      refine lv_goto (tgt := 2792) hx hb dL_law_844 (by decide) ?_
      have ho := (Option.some.inj hF).symm
      subst ho
      refine W.widen (k := cells + 51) (n := slots + 306) (by omega) (by omega) ?_
      exact kj _ _ _ (lv_sub hl [2, 3, 4, 5, 6, 7] rfl) hP hD hS
    · have hF := z_pos hF zc7
      refine lv_aload_n hx hb dL_law_832 rfl (lv_at hl 4 rfl) ?_
      refine lv_iconst (v := 0) hx hb dL_law_833 (by decide) ?_
      refine va_lald hx hb hK hP 74 2 rfl rfl (by unfold vp_in; decide) dL_law_834 ?_
      refine lv_iload hx hb dL_law_835 (lv_at hl 0 rfl) ?_
      refine lv_i2l (v := (Int32.toInt64 zo4.1)) hx hb dL_law_837 rfl ?_
      refine z_lcmp_eq (tgt := 844) hx hb dL_law_838 dL_law_839 (by decide) (fun zc8 => ?_) (fun zc8 => ?_)
      · have hF := z_pos hF zc8
        refine lv_goto (tgt := 2792) hx hb dL_law_844 (by decide) ?_
        have ho := (Option.some.inj hF).symm
        subst ho
        refine W.widen (k := cells + 51) (n := slots + 306) (by omega) (by omega) ?_
        exact kj _ _ _ (lv_sub hl [2, 3, 4, 5, 6, 7] rfl) hP hD hS
      · have hF := z_neg hF zc8
        refine lv_iconst (v := 0) hx hb dL_law_842 (by decide) ?_
        exact absurd hF (by simp)
  · have hF := z_neg hF zc6
    refine lv_iconst (v := 0) hx hb dL_law_825 (by decide) ?_
    exact absurd hF (by simp)
set_option maxHeartbeats 4000000 in
set_option maxRecDepth 100000 in
theorem k_law_847 {p : Program} {e : Env} {s : State} {m : MethodId} {below : List Frame} {meth : Method} {c : Code} (l : Launch) (hl0 : l.stackTraces = false) {b L : Nat} {xs : Nat → Int32} (hx : p.tables.exec = Jvm.exec) (hb : c.code = cL_law) (hml : c.maxLocals = 9) (hown : s.vm.findClass RL = some m.cls) (hts : ∀ w ∈ wU, w.before #[Value.ref b] s = true) (hX : va_X b L xs s s.heap) (hbl : b < s.heap.size) {A : Nat → Prop} (hbA : ¬ A b) (hA : ∀ q, s.heap.size ≤ q → A q) (g : GG) (ad qd : Nat → Nat) (st : SS) (sv : SS) (isS : Int32) (hst : Nat → SS) (spare : Int32) (undo : Int32) (seen : Nat → Int32) (dbef : Int32) (drec : Int32) (ptx : Nat → Int32) (plen : Int32) (ppos : Int32) (pcnt : Int32) (cmds : Nat → CC) (stE : Int32) (stF : Int32) (lch : Nat → Int32) (llen : Int32) (jo : Nat → Int64) (jd : Nat → UInt64) (mm : Nat → Int64) (masd : Nat → Int64) (msav : Nat → Int64) (misS : Int32) (mpst : Nat → Int64) (mchg : Int32) (merr : Int32) (mfai : Int32) (mthr : Int32) (minp : Nat → Int32) (minM : Int32) (mUp : Nat → Int32) (mcar : Nat → Int32) (mcam : Nat → Int32) (mahd : Int32) (magn : Int32) (mltr : Nat → Int32) (mbeg : Nat → Int32) (mcmd : Nat → Int32) (mcmM : Int32) (mpl : Int32) (msz : Int32) (mwr : Int32) (mlin : Nat → Int32) (mliM : Int32) (hK : va_K (gD g) zCl (gT g) s) (hB : KB g A s s.heap) (i : Int32) (u : Int32) (hF : G_law_847 st mm mthr L xs i = some u) {H : Heap} {locs : List Loc} {ls : Array Slot} {cells slots : Nat} (hc : cells + 51 ≤ 603072) (hsl : slots + 306 ≤ 7170153) (hl : lv_has ls 9 [(5, .int i), (4, .ref (ad 75)), (3, .ref (ad 74)), (2, .ref (qd 0)), (1, .ref (ad 0)), (0, .ref b)]) (hP : va_P (gD g) zCl (wLaw g ad qd st sv isS hst spare undo seen dbef drec ptx plen ppos pcnt cmds stE stF lch llen jo jd mm masd msav misS mpst mchg merr mfai mthr minp minM mUp mcar mcam mahd magn mltr mbeg mcmd mcmM mpl msz mwr mlin mliM) H) (hD : va_D A (wLaw g ad qd st sv isS hst spare undo seen dbef drec ptx plen ppos pcnt cmds stE stF lch llen jo jd mm masd msav misS mpst mchg merr mfai mthr minp minM mUp mcar mcam mahd magn mltr mbeg mcmd mcmM mpl msz mwr mlin mliM)) (hS : va_S A s.heap H locs)
    (kj : ∀ (H : Heap) (locs : List Loc) (ls : Array Slot), lv_has ls 9 [(5, .int i), (4, .ref (ad 75)), (3, .ref (ad 74)), (2, .ref (qd 0)), (1, .ref (ad 0)), (0, .ref b)] → va_P (gD g) zCl (wLaw g ad qd st sv isS hst spare undo seen dbef drec ptx plen ppos pcnt cmds stE stF lch llen jo jd mm masd msav misS mpst mchg merr mfai u minp minM mUp mcar mcam mahd magn mltr mbeg mcmd mcmM mpl msz mwr mlin mliM) H → va_D A (wLaw g ad qd st sv isS hst spare undo seen dbef drec ptx plen ppos pcnt cmds stE stF lch llen jo jd mm masd msav misS mpst mchg merr mfai u minp minM mUp mcar mcam mahd magn mltr mbeg mcmd mcmM mpl msz mwr mlin mliM) → va_S A s.heap H locs → W p l e room_1 s m #[Value.ref b] below meth c H locs (cells + 51) (slots + 306) (lw_Z below #[Value.ref b] s) (F0 m 2792 ls [])) : W p l e room_1 s m #[Value.ref b] below meth c H locs cells slots (lw_Z below #[Value.ref b] s) (F0 m 847 ls []) := by
  have hc : cells + 51 ≤ room_1.cells := hc
  have hsl : slots + 306 ≤ room_1.slots := hsl
  unfold G_law_847 at hF
  refine lv_aload_n hx hb dL_law_847 rfl (lv_at hl 4 rfl) ?_
  obtain ⟨zo1, hzo1, hF⟩ := z_bind hF
  refine z_calli (fun (_ : Unit) => (wRoot g ad st sv isS hst spare undo seen dbef drec ptx plen ppos pcnt cmds stE stF lch llen)) zRJ (va_runV (As := []) (rest := []) ⟨hx, hb, hml, hown, hts⟩ (c_X10_count l g ad st sv isS hst spare undo seen dbef drec ptx plen ppos pcnt cmds stE stF lch llen _ _ hzo1) (cwV 0 hts (gdV mU_305 mU_306 mU_307 mU_66 mU_308) rfl rfl rfl (by decide +kernel) ⟨Nat.le_of_ble_eq_true rfl, Nat.le_of_ble_eq_true rfl⟩) ⟨z_blind _ _ _ _, va_recv hK hP (ci := 6) (q0 := 0) rfl rfl, fun U hU hW => z_pre zRJ hP hD hK hB hS hA wLaw_CR wRootJ_N hU hW⟩ rfl rfl hl.1 rfl (lv_room (Nat.le_of_ble_eq_true rfl)) dL_law_848 ⟨by omega, by omega⟩) hP hD hS hA wLaw_CR (fun _ => rfl) (fun r u H locs hw hP hD hS => ?_)
  subst hw
  have hP : va_P (gD g) zCl (wLaw g ad qd st sv isS hst spare undo seen dbef drec ptx plen ppos pcnt cmds stE stF lch llen jo jd mm masd msav misS mpst mchg merr mfai mthr minp minM mUp mcar mcam mahd magn mltr mbeg mcmd mcmM mpl msz mwr mlin mliM) H := Eq.mp (congrArg (fun w => va_P (gD g) zCl w H) wLaw_SR) hP
  have hD : va_D A (wLaw g ad qd st sv isS hst spare undo seen dbef drec ptx plen ppos pcnt cmds stE stF lch llen jo jd mm masd msav misS mpst mchg merr mfai mthr minp minM mUp mcar mcam mahd magn mltr mbeg mcmd mcmM mpl msz mwr mlin mliM) := Eq.mp (congrArg (fun w => va_D A w) wLaw_SR) hD
  refine lv_aload_n hx hb dL_law_851 rfl (lv_at hl 3 rfl) ?_
  obtain ⟨zo2, hzo2, hF⟩ := z_bind hF
  refine z_calli (fun (u : Int32) => (wModel g (qd 0) (qd 1) (qd 2) (qd 3) (qd 4) (qd 5) (qd 6) (qd 7) (qd 8) (qd 9) (qd 10) (qd 11) (qd 12) mm masd msav misS mpst mchg merr mfai u minp minM mUp mcar mcam mahd magn mltr mbeg mcmd mcmM mpl msz mwr mlin mliM)) zLM (va_runV (As := []) (rest := [.int zo1]) ⟨hx, hb, hml, hown, hts⟩ (c_X11_count l g (qd 0) (qd 1) (qd 2) (qd 3) (qd 4) (qd 5) (qd 6) (qd 7) (qd 8) (qd 9) (qd 10) (qd 11) (qd 12) mm masd msav misS mpst mchg merr mfai mthr minp minM mUp mcar mcam mahd magn mltr mbeg mcmd mcmM mpl msz mwr mlin mliM _ _ hzo2) (cwV 0 hts (gdV mU_1465 mU_1466 mU_1467 mU_75 mU_1468) rfl rfl rfl (by decide +kernel) ⟨Nat.le_of_ble_eq_true rfl, Nat.le_of_ble_eq_true rfl⟩) ⟨z_blind _ _ _ _, va_recv hK hP (ci := 7) (q0 := 76) rfl rfl, fun U hU hW => z_pre zLM hP hD hK hB hS hA wLaw_CM wLaw_NM hU hW⟩ rfl rfl hl.1 rfl (lv_room (Nat.le_of_ble_eq_true rfl)) dL_law_852 ⟨by omega, by omega⟩) hP hD hS hA wLaw_CM (fun _ => rfl) (fun r u H locs hw hP hD hS => ?_)
  obtain ⟨rfl, rfl⟩ := hw
  have hP : va_P (gD g) zCl (wLaw g ad qd st sv isS hst spare undo seen dbef drec ptx plen ppos pcnt cmds stE stF lch llen jo jd mm masd msav misS mpst mchg merr mfai zo2.2 minp minM mUp mcar mcam mahd magn mltr mbeg mcmd mcmM mpl msz mwr mlin mliM) H := Eq.mp (congrArg (fun w => va_P (gD g) zCl w H) wLaw_SM) hP
  have hD : va_D A (wLaw g ad qd st sv isS hst spare undo seen dbef drec ptx plen ppos pcnt cmds stE stF lch llen jo jd mm masd msav misS mpst mchg merr mfai zo2.2 minp minM mUp mcar mcam mahd magn mltr mbeg mcmd mcmM mpl msz mwr mlin mliM) := Eq.mp (congrArg (fun w => va_D A w) wLaw_SM) hD
  refine lv_icmp_eq (tgt := 2792) hx hb dL_law_855 (by decide) (fun zc3 => ?_) (fun zc3 => ?_)
  · have hF := z_pos hF zc3
    have ho := (Option.some.inj hF).symm
    subst ho
    refine W.widen (k := cells + 51) (n := slots + 306) (by omega) (by omega) ?_
    exact kj _ _ _ (lv_sub hl [0, 1, 2, 3, 4, 5] rfl) hP hD hS
  · have hF := z_neg hF zc3
    refine lv_iconst (v := 0) hx hb dL_law_858 (by decide) ?_
    exact absurd hF (by simp)
