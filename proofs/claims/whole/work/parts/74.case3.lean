set_option maxHeartbeats 4000000 in
set_option maxRecDepth 100000 in
theorem k_law_2064 {p : Program} {e : Env} {s : State} {m : MethodId} {below : List Frame} {meth : Method} {c : Code} (l : Launch) (hl0 : l.stackTraces = false) {b L : Nat} {xs : Nat → Int32} (hx : p.tables.exec = Jvm.exec) (hb : c.code = cL_law) (hml : c.maxLocals = 9) (hown : s.vm.findClass RL = some m.cls) (hts : ∀ w ∈ wU, w.before #[Value.ref b] s = true) (hX : va_X b L xs s s.heap) (hbl : b < s.heap.size) {A : Nat → Prop} (hbA : ¬ A b) (hA : ∀ q, s.heap.size ≤ q → A q) (g : GG) (ad qd : Nat → Nat) (st : SS) (sv : SS) (isS : Int32) (hst : Nat → SS) (spare : Int32) (undo : Int32) (seen : Nat → Int32) (dbef : Int32) (drec : Int32) (ptx : Nat → Int32) (plen : Int32) (ppos : Int32) (pcnt : Int32) (cmds : Nat → CC) (stE : Int32) (stF : Int32) (lch : Nat → Int32) (llen : Int32) (jo : Nat → Int64) (jd : Nat → UInt64) (mm : Nat → Int64) (masd : Nat → Int64) (msav : Nat → Int64) (misS : Int32) (mpst : Nat → Int64) (mchg : Int32) (merr : Int32) (mfai : Int32) (mthr : Int32) (minp : Nat → Int32) (minM : Int32) (mUp : Nat → Int32) (mcar : Nat → Int32) (mcam : Nat → Int32) (mahd : Int32) (magn : Int32) (mltr : Nat → Int32) (mbeg : Nat → Int32) (mcmd : Nat → Int32) (mcmM : Int32) (mpl : Int32) (msz : Int32) (mwr : Int32) (mlin : Nat → Int32) (mliM : Int32) (hK : va_K (gD g) zCl (gT g) s) (hB : KB g A s s.heap) (fu : Nat) (i : Int32) (u : (Nat → Int64) × Int32 × (Nat → Int32) × Int32 × Int32) (hF : G_law_2064 fu jo mthr mcam mahd magn L xs i = some u) {H : Heap} {locs : List Loc} {ls : Array Slot} {cells slots : Nat} (hc : cells + 51 ≤ 603072) (hsl : slots + 306 ≤ 7170153) (hl : lv_has ls 9 [(5, .int i), (4, .ref (ad 75)), (3, .ref (ad 74)), (2, .ref (qd 0)), (1, .ref (ad 0)), (0, .ref b)]) (hP : va_P (gD g) zCl (wLaw g ad qd st sv isS hst spare undo seen dbef drec ptx plen ppos pcnt cmds stE stF lch llen jo jd mm masd msav misS mpst mchg merr mfai mthr minp minM mUp mcar mcam mahd magn mltr mbeg mcmd mcmM mpl msz mwr mlin mliM) H) (hD : va_D A (wLaw g ad qd st sv isS hst spare undo seen dbef drec ptx plen ppos pcnt cmds stE stF lch llen jo jd mm masd msav misS mpst mchg merr mfai mthr minp minM mUp mcar mcam mahd magn mltr mbeg mcmd mcmM mpl msz mwr mlin mliM)) (hS : va_S A s.heap H locs)
    (kj : ∀ (H : Heap) (locs : List Loc) (ls : Array Slot), lv_has ls 9 [(5, .int i), (4, .ref (ad 75)), (3, .ref (ad 74)), (2, .ref (qd 0)), (1, .ref (ad 0)), (0, .ref b)] → va_P (gD g) zCl (wLaw g ad qd st sv isS hst spare undo seen dbef drec ptx plen ppos pcnt cmds stE stF lch llen u.1 jd mm masd msav misS mpst mchg merr mfai u.2.1 minp minM mUp mcar u.2.2.1 u.2.2.2.1 u.2.2.2.2 mltr mbeg mcmd mcmM mpl msz mwr mlin mliM) H → va_D A (wLaw g ad qd st sv isS hst spare undo seen dbef drec ptx plen ppos pcnt cmds stE stF lch llen u.1 jd mm masd msav misS mpst mchg merr mfai u.2.1 minp minM mUp mcar u.2.2.1 u.2.2.2.1 u.2.2.2.2 mltr mbeg mcmd mcmM mpl msz mwr mlin mliM) → va_S A s.heap H locs → W p l e room_1 s m #[Value.ref b] below meth c H locs (cells + 51) (slots + 306) (lw_Z below #[Value.ref b] s) (F0 m 2792 ls [])) : W p l e room_1 s m #[Value.ref b] below meth c H locs cells slots (lw_Z below #[Value.ref b] s) (F0 m 2064 ls []) := by
  have hc : cells + 51 ≤ room_1.cells := hc
  have hsl : slots + 306 ≤ room_1.slots := hsl
  unfold G_law_2064 at hF
  refine lv_aload_n hx hb dL_law_2064 rfl (lv_at hl 4 rfl) ?_
  refine lv_aload_n hx hb dL_law_2065 rfl (lv_at hl 5 rfl) ?_
  refine lv_iload hx hb dL_law_2066 (lv_at hl 0 rfl) ?_
  refine lv_iconst (v := 1) hx hb dL_law_2068 (by decide) ?_
  refine lv_iadd hx hb dL_law_2069 ?_
  obtain ⟨zg1, hF⟩ := z_grd hF
  refine va_sld hx hb hX hbl hbA hS zg1 dL_law_2070 ?_
  refine lv_aload_n hx hb dL_law_2071 rfl (lv_at hl 5 rfl) ?_
  refine lv_iload hx hb dL_law_2072 (lv_at hl 0 rfl) ?_
  refine lv_iconst (v := 2) hx hb dL_law_2074 (by decide) ?_
  refine lv_iadd hx hb dL_law_2075 ?_
  obtain ⟨zg2, hF⟩ := z_grd hF
  refine va_sld hx hb hX hbl hbA hS zg2 dL_law_2076 ?_
  refine lv_aload_n hx hb dL_law_2077 rfl (lv_at hl 2 rfl) ?_
  obtain ⟨zo3, hzo3, hF⟩ := z_bind hF
  refine z_calli (fun (u : (Nat → Int64)) => (wRootJ g ad st sv isS hst spare undo seen dbef drec ptx plen ppos pcnt cmds stE stF lch llen u)) zLJ (vx_runSW (As := [.ref (ad 0), .int (xs (Int32.toNatClampNeg (i + 1))), .int (xs (Int32.toNatClampNeg (i + 2))), .ref (ad 74)]) (rest := []) ⟨hx, hb, hml, hown, hts⟩ (c_L_periodByPowers l hl0 g ad st sv isS hst spare undo seen dbef drec ptx plen ppos pcnt cmds stE stF lch llen jo _ (xs (Int32.toNatClampNeg (i + 1))) (xs (Int32.toNatClampNeg (i + 2))) fu _ hzo3) (vx_cwSW 4 hts (gdS mU_979 mU_980 mU_65 mU_981) rfl rfl rfl (by decide +kernel) ⟨Nat.le_of_ble_eq_true rfl, Nat.le_of_ble_eq_true rfl⟩) ⟨z_blind _ _ _ _, fun U hU hW => z_pre zLJ hP hD hK hB hS hA wLaw_CJ wLaw_NJ hU hW⟩ rfl rfl hl.1 rfl (lv_room (Nat.le_of_ble_eq_true rfl)) dL_law_2078 ⟨by omega, by omega⟩) hP hD hS hA wLaw_CJ (fun _ => rfl) (fun r u H locs hw hP hD hS => ?_)
  obtain ⟨rfl, rfl⟩ := hw
  have hP : va_P (gD g) zCl (wLaw g ad qd st sv isS hst spare undo seen dbef drec ptx plen ppos pcnt cmds stE stF lch llen zo3.2 jd mm masd msav misS mpst mchg merr mfai mthr minp minM mUp mcar mcam mahd magn mltr mbeg mcmd mcmM mpl msz mwr mlin mliM) H := Eq.mp (congrArg (fun w => va_P (gD g) zCl w H) wLaw_SJ) hP
  have hD : va_D A (wLaw g ad qd st sv isS hst spare undo seen dbef drec ptx plen ppos pcnt cmds stE stF lch llen zo3.2 jd mm masd msav misS mpst mchg merr mfai mthr minp minM mUp mcar mcam mahd magn mltr mbeg mcmd mcmM mpl msz mwr mlin mliM) := Eq.mp (congrArg (fun w => va_D A w) wLaw_SJ) hD
  refine lv_istore (lv' := [(6, .int zo3.1), (5, .int i), (4, .ref (ad 75)), (3, .ref (ad 74)), (2, .ref (qd 0)), (1, .ref (ad 0)), (0, .ref b)]) hx hb dL_law_2081 hl (by decide) rfl (fun ls hl => ?_)
  refine lv_aload_n hx hb dL_law_2083 rfl (lv_at hl 4 rfl) ?_
  refine lv_aload_n hx hb dL_law_2084 rfl (lv_at hl 6 rfl) ?_
  refine lv_iload hx hb dL_law_2085 (lv_at hl 1 rfl) ?_
  refine lv_iconst (v := 1) hx hb dL_law_2087 (by decide) ?_
  refine lv_iadd hx hb dL_law_2088 ?_
  obtain ⟨zg4, hF⟩ := z_grd hF
  refine va_sld hx hb hX hbl hbA hS zg4 dL_law_2089 ?_
  refine lv_aload_n hx hb dL_law_2090 rfl (lv_at hl 6 rfl) ?_
  refine lv_iload hx hb dL_law_2091 (lv_at hl 1 rfl) ?_
  refine lv_iconst (v := 2) hx hb dL_law_2093 (by decide) ?_
  refine lv_iadd hx hb dL_law_2094 ?_
  obtain ⟨zg5, hF⟩ := z_grd hF
  refine va_sld hx hb hX hbl hbA hS zg5 dL_law_2095 ?_
  obtain ⟨zo6, hzo6, hF⟩ := z_bind hF
  refine z_calli (fun (u : Int32 × (Nat → Int32) × Int32 × Int32) => (wModel g (qd 0) (qd 1) (qd 2) (qd 3) (qd 4) (qd 5) (qd 6) (qd 7) (qd 8) (qd 9) (qd 10) (qd 11) (qd 12) mm masd msav misS mpst mchg merr mfai u.1 minp minM mUp mcar u.2.1 u.2.2.1 u.2.2.2 mltr mbeg mcmd mcmM mpl msz mwr mlin mliM)) zLM (va_runV (As := [.int (xs (Int32.toNatClampNeg (i + 1))), .int (xs (Int32.toNatClampNeg (i + 2)))]) (rest := []) ⟨hx, hb, hml, hown, hts⟩ (c_X11_periodByPowers l g (qd 0) (qd 1) (qd 2) (qd 3) (qd 4) (qd 5) (qd 6) (qd 7) (qd 8) (qd 9) (qd 10) (qd 11) (qd 12) mm masd msav misS mpst mchg merr mfai mthr minp minM mUp mcar mcam mahd magn mltr mbeg mcmd mcmM mpl msz mwr mlin mliM _ (xs (Int32.toNatClampNeg (i + 1))) (xs (Int32.toNatClampNeg (i + 2))) fu _ hzo6) (cwV 2 hts (gdV mU_1573 mU_1574 mU_1575 mU_75 mU_1576) rfl rfl rfl (by decide +kernel) ⟨Nat.le_of_ble_eq_true rfl, Nat.le_of_ble_eq_true rfl⟩) ⟨z_blind _ _ _ _, va_recv hK hP (ci := 7) (q0 := 76) rfl rfl, fun U hU hW => z_pre zLM hP hD hK hB hS hA wLaw_CM wLaw_NM hU hW⟩ rfl rfl hl.1 rfl (lv_room (Nat.le_of_ble_eq_true rfl)) dL_law_2096 ⟨by omega, by omega⟩) hP hD hS hA wLaw_CM (fun _ => rfl) (fun r u H locs hw hP hD hS => ?_)
  obtain ⟨rfl, rfl⟩ := hw
  have hP : va_P (gD g) zCl (wLaw g ad qd st sv isS hst spare undo seen dbef drec ptx plen ppos pcnt cmds stE stF lch llen zo3.2 jd mm masd msav misS mpst mchg merr mfai zo6.2.1 minp minM mUp mcar zo6.2.2.1 zo6.2.2.2.1 zo6.2.2.2.2 mltr mbeg mcmd mcmM mpl msz mwr mlin mliM) H := Eq.mp (congrArg (fun w => va_P (gD g) zCl w H) wLaw_SM) hP
  have hD : va_D A (wLaw g ad qd st sv isS hst spare undo seen dbef drec ptx plen ppos pcnt cmds stE stF lch llen zo3.2 jd mm masd msav misS mpst mchg merr mfai zo6.2.1 minp minM mUp mcar zo6.2.2.1 zo6.2.2.2.1 zo6.2.2.2.2 mltr mbeg mcmd mcmM mpl msz mwr mlin mliM) := Eq.mp (congrArg (fun w => va_D A w) wLaw_SM) hD
  refine lv_istore (lv' := [(7, .int zo6.1), (6, .int zo3.1), (5, .int i), (4, .ref (ad 75)), (3, .ref (ad 74)), (2, .ref (qd 0)), (1, .ref (ad 0)), (0, .ref b)]) hx hb dL_law_2099 hl (by decide) rfl (fun ls hl => ?_)
  refine lv_aload_n hx hb dL_law_2101 rfl (lv_at hl 5 rfl) ?_
  obtain ⟨zo7, hzo7, hF⟩ := z_bind hF
  refine z_calli (fun (_ : Unit) => (wModel g (qd 0) (qd 1) (qd 2) (qd 3) (qd 4) (qd 5) (qd 6) (qd 7) (qd 8) (qd 9) (qd 10) (qd 11) (qd 12) mm masd msav misS mpst mchg merr mfai zo6.2.1 minp minM mUp mcar zo6.2.2.1 zo6.2.2.2.1 zo6.2.2.2.2 mltr mbeg mcmd mcmM mpl msz mwr mlin mliM)) zLM (va_runV (As := []) (rest := []) ⟨hx, hb, hml, hown, hts⟩ (c_X11_thrown l g (qd 0) (qd 1) (qd 2) (qd 3) (qd 4) (qd 5) (qd 6) (qd 7) (qd 8) (qd 9) (qd 10) (qd 11) (qd 12) mm masd msav misS mpst mchg merr mfai zo6.2.1 minp minM mUp mcar zo6.2.2.1 zo6.2.2.2.1 zo6.2.2.2.2 mltr mbeg mcmd mcmM mpl msz mwr mlin mliM _ _ hzo7) (cwV 0 hts (gdV mU_1321 mU_1322 mU_1323 mU_75 mU_1324) rfl rfl rfl (by decide +kernel) ⟨Nat.le_of_ble_eq_true rfl, Nat.le_of_ble_eq_true rfl⟩) ⟨z_blind _ _ _ _, va_recv hK hP (ci := 7) (q0 := 76) rfl rfl, fun U hU hW => z_pre zLM hP hD hK hB hS hA wLaw_CM wLaw_NM hU hW⟩ rfl rfl hl.1 rfl (lv_room (Nat.le_of_ble_eq_true rfl)) dL_law_2102 ⟨by omega, by omega⟩) hP hD hS hA wLaw_CM (fun _ => rfl) (fun r u H locs hw hP hD hS => ?_)
  subst hw
  have hP : va_P (gD g) zCl (wLaw g ad qd st sv isS hst spare undo seen dbef drec ptx plen ppos pcnt cmds stE stF lch llen zo3.2 jd mm masd msav misS mpst mchg merr mfai zo6.2.1 minp minM mUp mcar zo6.2.2.1 zo6.2.2.2.1 zo6.2.2.2.2 mltr mbeg mcmd mcmM mpl msz mwr mlin mliM) H := Eq.mp (congrArg (fun w => va_P (gD g) zCl w H) wLaw_SM) hP
  have hD : va_D A (wLaw g ad qd st sv isS hst spare undo seen dbef drec ptx plen ppos pcnt cmds stE stF lch llen zo3.2 jd mm masd msav misS mpst mchg merr mfai zo6.2.1 minp minM mUp mcar zo6.2.2.1 zo6.2.2.2.1 zo6.2.2.2.2 mltr mbeg mcmd mcmM mpl msz mwr mlin mliM) := Eq.mp (congrArg (fun w => va_D A w) wLaw_SM) hD
  refine lv_iload hx hb dL_law_2105 (lv_at hl 1 rfl) ?_
  refine lv_icmp_eq (tgt := 2112) hx hb dL_law_2107 (by decide) (fun zc8 => ?_) (fun zc8 => ?_)
  · have hF := z_pos hF zc8
    refine lv_iload hx hb dL_law_2112 (lv_at hl 1 rfl) ?_
    refine lv_if_ne (tgt := 2129) hx hb dL_law_2114 (by decide) (fun zc9 => ?_) (fun zc9 => ?_)
    · have hF := z_neg hF zc9
      refine lv_goto (tgt := 2792) hx hb dL_law_2129 (by decide) ?_
      have ho := (Option.some.inj hF).symm
      subst ho
      refine W.widen (k := cells + 51) (n := slots + 306) (by omega) (by omega) ?_
      exact kj _ _ _ (lv_sub hl [2, 3, 4, 5, 6, 7] rfl) hP hD hS
    · have hF := z_pos hF zc9
      refine lv_aload_n hx hb dL_law_2117 rfl (lv_at hl 4 rfl) ?_
      refine lv_iconst (v := 0) hx hb dL_law_2118 (by decide) ?_
      refine va_lald hx hb hK hP 74 2 rfl rfl (by unfold vp_in; decide) dL_law_2119 ?_
      refine lv_iload hx hb dL_law_2120 (lv_at hl 0 rfl) ?_
      refine lv_i2l (v := (Int32.toInt64 zo6.1)) hx hb dL_law_2122 rfl ?_
      refine z_lcmp_eq (tgt := 2129) hx hb dL_law_2123 dL_law_2124 (by decide) (fun zc10 => ?_) (fun zc10 => ?_)
      · have hF := z_pos hF zc10
        refine lv_goto (tgt := 2792) hx hb dL_law_2129 (by decide) ?_
        have ho := (Option.some.inj hF).symm
        subst ho
        refine W.widen (k := cells + 51) (n := slots + 306) (by omega) (by omega) ?_
        exact kj _ _ _ (lv_sub hl [2, 3, 4, 5, 6, 7] rfl) hP hD hS
      · have hF := z_neg hF zc10
        refine lv_iconst (v := 0) hx hb dL_law_2127 (by decide) ?_
        exact absurd hF (by simp)
  · have hF := z_neg hF zc8
    refine lv_iconst (v := 0) hx hb dL_law_2110 (by decide) ?_
    exact absurd hF (by simp)
set_option maxHeartbeats 4000000 in
set_option maxRecDepth 100000 in
theorem k_law_2132 {p : Program} {e : Env} {s : State} {m : MethodId} {below : List Frame} {meth : Method} {c : Code} (l : Launch) (hl0 : l.stackTraces = false) {b L : Nat} {xs : Nat → Int32} (hx : p.tables.exec = Jvm.exec) (hb : c.code = cL_law) (hml : c.maxLocals = 9) (hown : s.vm.findClass RL = some m.cls) (hts : ∀ w ∈ wU, w.before #[Value.ref b] s = true) (hX : va_X b L xs s s.heap) (hbl : b < s.heap.size) {A : Nat → Prop} (hbA : ¬ A b) (hA : ∀ q, s.heap.size ≤ q → A q) (g : GG) (ad qd : Nat → Nat) (st : SS) (sv : SS) (isS : Int32) (hst : Nat → SS) (spare : Int32) (undo : Int32) (seen : Nat → Int32) (dbef : Int32) (drec : Int32) (ptx : Nat → Int32) (plen : Int32) (ppos : Int32) (pcnt : Int32) (cmds : Nat → CC) (stE : Int32) (stF : Int32) (lch : Nat → Int32) (llen : Int32) (jo : Nat → Int64) (jd : Nat → UInt64) (mm : Nat → Int64) (masd : Nat → Int64) (msav : Nat → Int64) (misS : Int32) (mpst : Nat → Int64) (mchg : Int32) (merr : Int32) (mfai : Int32) (mthr : Int32) (minp : Nat → Int32) (minM : Int32) (mUp : Nat → Int32) (mcar : Nat → Int32) (mcam : Nat → Int32) (mahd : Int32) (magn : Int32) (mltr : Nat → Int32) (mbeg : Nat → Int32) (mcmd : Nat → Int32) (mcmM : Int32) (mpl : Int32) (msz : Int32) (mwr : Int32) (mlin : Nat → Int32) (mliM : Int32) (hK : va_K (gD g) zCl (gT g) s) (hB : KB g A s s.heap) (fu : Nat) (i : Int32) (u : Int32) (hF : G_law_2132 fu st mm mthr L xs i = some u) {H : Heap} {locs : List Loc} {ls : Array Slot} {cells slots : Nat} (hc : cells + 51 ≤ 603072) (hsl : slots + 306 ≤ 7170153) (hl : lv_has ls 9 [(5, .int i), (4, .ref (ad 75)), (3, .ref (ad 74)), (2, .ref (qd 0)), (1, .ref (ad 0)), (0, .ref b)]) (hP : va_P (gD g) zCl (wLaw g ad qd st sv isS hst spare undo seen dbef drec ptx plen ppos pcnt cmds stE stF lch llen jo jd mm masd msav misS mpst mchg merr mfai mthr minp minM mUp mcar mcam mahd magn mltr mbeg mcmd mcmM mpl msz mwr mlin mliM) H) (hD : va_D A (wLaw g ad qd st sv isS hst spare undo seen dbef drec ptx plen ppos pcnt cmds stE stF lch llen jo jd mm masd msav misS mpst mchg merr mfai mthr minp minM mUp mcar mcam mahd magn mltr mbeg mcmd mcmM mpl msz mwr mlin mliM)) (hS : va_S A s.heap H locs)
    (kj : ∀ (H : Heap) (locs : List Loc) (ls : Array Slot), lv_has ls 9 [(5, .int i), (4, .ref (ad 75)), (3, .ref (ad 74)), (2, .ref (qd 0)), (1, .ref (ad 0)), (0, .ref b)] → va_P (gD g) zCl (wLaw g ad qd st sv isS hst spare undo seen dbef drec ptx plen ppos pcnt cmds stE stF lch llen jo jd mm masd msav misS mpst mchg merr mfai u minp minM mUp mcar mcam mahd magn mltr mbeg mcmd mcmM mpl msz mwr mlin mliM) H → va_D A (wLaw g ad qd st sv isS hst spare undo seen dbef drec ptx plen ppos pcnt cmds stE stF lch llen jo jd mm masd msav misS mpst mchg merr mfai u minp minM mUp mcar mcam mahd magn mltr mbeg mcmd mcmM mpl msz mwr mlin mliM) → va_S A s.heap H locs → W p l e room_1 s m #[Value.ref b] below meth c H locs (cells + 51) (slots + 306) (lw_Z below #[Value.ref b] s) (F0 m 2792 ls [])) : W p l e room_1 s m #[Value.ref b] below meth c H locs cells slots (lw_Z below #[Value.ref b] s) (F0 m 2132 ls []) := by
  have hc : cells + 51 ≤ room_1.cells := hc
  have hsl : slots + 306 ≤ room_1.slots := hsl
  unfold G_law_2132 at hF
  refine lv_aload_n hx hb dL_law_2132 rfl (lv_at hl 4 rfl) ?_
  obtain ⟨zo1, hzo1, hF⟩ := z_bind hF
  refine z_calll (fun (_ : Unit) => (wRoot g ad st sv isS hst spare undo seen dbef drec ptx plen ppos pcnt cmds stE stF lch llen)) zRJ (va_runV (As := []) (rest := []) ⟨hx, hb, hml, hown, hts⟩ (c_X10_total l g ad st sv isS hst spare undo seen dbef drec ptx plen ppos pcnt cmds stE stF lch llen _ fu _ hzo1) (cwV 0 hts (gdV mU_309 mU_310 mU_311 mU_66 mU_312) rfl rfl rfl (by decide +kernel) ⟨Nat.le_of_ble_eq_true rfl, Nat.le_of_ble_eq_true rfl⟩) ⟨z_blind _ _ _ _, va_recv hK hP (ci := 6) (q0 := 0) rfl rfl, fun U hU hW => z_pre zRJ hP hD hK hB hS hA wLaw_CR wRootJ_N hU hW⟩ rfl rfl hl.1 rfl (lv_room (Nat.le_of_ble_eq_true rfl)) dL_law_2133 ⟨by omega, by omega⟩) hP hD hS hA wLaw_CR (fun _ => rfl) (fun r u H locs hw hP hD hS => ?_)
  subst hw
  have hP : va_P (gD g) zCl (wLaw g ad qd st sv isS hst spare undo seen dbef drec ptx plen ppos pcnt cmds stE stF lch llen jo jd mm masd msav misS mpst mchg merr mfai mthr minp minM mUp mcar mcam mahd magn mltr mbeg mcmd mcmM mpl msz mwr mlin mliM) H := Eq.mp (congrArg (fun w => va_P (gD g) zCl w H) wLaw_SR) hP
  have hD : va_D A (wLaw g ad qd st sv isS hst spare undo seen dbef drec ptx plen ppos pcnt cmds stE stF lch llen jo jd mm masd msav misS mpst mchg merr mfai mthr minp minM mUp mcar mcam mahd magn mltr mbeg mcmd mcmM mpl msz mwr mlin mliM) := Eq.mp (congrArg (fun w => va_D A w) wLaw_SR) hD
  refine lv_aload_n hx hb dL_law_2136 rfl (lv_at hl 3 rfl) ?_
  obtain ⟨zo2, hzo2, hF⟩ := z_bind hF
  refine z_calll (fun (u : Int32) => (wModel g (qd 0) (qd 1) (qd 2) (qd 3) (qd 4) (qd 5) (qd 6) (qd 7) (qd 8) (qd 9) (qd 10) (qd 11) (qd 12) mm masd msav misS mpst mchg merr mfai u minp minM mUp mcar mcam mahd magn mltr mbeg mcmd mcmM mpl msz mwr mlin mliM)) zLM (va_runV (As := []) (rest := [.long zo1]) ⟨hx, hb, hml, hown, hts⟩ (c_X11_total l g (qd 0) (qd 1) (qd 2) (qd 3) (qd 4) (qd 5) (qd 6) (qd 7) (qd 8) (qd 9) (qd 10) (qd 11) (qd 12) mm masd msav misS mpst mchg merr mfai mthr minp minM mUp mcar mcam mahd magn mltr mbeg mcmd mcmM mpl msz mwr mlin mliM _ fu _ hzo2) (cwV 0 hts (gdV mU_1578 mU_1579 mU_1580 mU_75 mU_1581) rfl rfl rfl (by decide +kernel) ⟨Nat.le_of_ble_eq_true rfl, Nat.le_of_ble_eq_true rfl⟩) ⟨z_blind _ _ _ _, va_recv hK hP (ci := 7) (q0 := 76) rfl rfl, fun U hU hW => z_pre zLM hP hD hK hB hS hA wLaw_CM wLaw_NM hU hW⟩ rfl rfl hl.1 rfl (lv_room (Nat.le_of_ble_eq_true rfl)) dL_law_2137 ⟨by omega, by omega⟩) hP hD hS hA wLaw_CM (fun _ => rfl) (fun r u H locs hw hP hD hS => ?_)
  obtain ⟨rfl, rfl⟩ := hw
  have hP : va_P (gD g) zCl (wLaw g ad qd st sv isS hst spare undo seen dbef drec ptx plen ppos pcnt cmds stE stF lch llen jo jd mm masd msav misS mpst mchg merr mfai zo2.2 minp minM mUp mcar mcam mahd magn mltr mbeg mcmd mcmM mpl msz mwr mlin mliM) H := Eq.mp (congrArg (fun w => va_P (gD g) zCl w H) wLaw_SM) hP
  have hD : va_D A (wLaw g ad qd st sv isS hst spare undo seen dbef drec ptx plen ppos pcnt cmds stE stF lch llen jo jd mm masd msav misS mpst mchg merr mfai zo2.2 minp minM mUp mcar mcam mahd magn mltr mbeg mcmd mcmM mpl msz mwr mlin mliM) := Eq.mp (congrArg (fun w => va_D A w) wLaw_SM) hD
  refine z_lcmp_eq (tgt := 2792) hx hb dL_law_2140 dL_law_2141 (by decide) (fun zc3 => ?_) (fun zc3 => ?_)
  · have hF := z_pos hF zc3
    have ho := (Option.some.inj hF).symm
    subst ho
    refine W.widen (k := cells + 51) (n := slots + 306) (by omega) (by omega) ?_
    exact kj _ _ _ (lv_sub hl [0, 1, 2, 3, 4, 5] rfl) hP hD hS
  · have hF := z_neg hF zc3
    refine lv_iconst (v := 0) hx hb dL_law_2144 (by decide) ?_
    exact absurd hF (by simp)
set_option maxHeartbeats 4000000 in
set_option maxRecDepth 100000 in
theorem k_law_2146 {p : Program} {e : Env} {s : State} {m : MethodId} {below : List Frame} {meth : Method} {c : Code} (l : Launch) (hl0 : l.stackTraces = false) {b L : Nat} {xs : Nat → Int32} (hx : p.tables.exec = Jvm.exec) (hb : c.code = cL_law) (hml : c.maxLocals = 9) (hown : s.vm.findClass RL = some m.cls) (hts : ∀ w ∈ wU, w.before #[Value.ref b] s = true) (hX : va_X b L xs s s.heap) (hbl : b < s.heap.size) {A : Nat → Prop} (hbA : ¬ A b) (hA : ∀ q, s.heap.size ≤ q → A q) (g : GG) (ad qd : Nat → Nat) (st : SS) (sv : SS) (isS : Int32) (hst : Nat → SS) (spare : Int32) (undo : Int32) (seen : Nat → Int32) (dbef : Int32) (drec : Int32) (ptx : Nat → Int32) (plen : Int32) (ppos : Int32) (pcnt : Int32) (cmds : Nat → CC) (stE : Int32) (stF : Int32) (lch : Nat → Int32) (llen : Int32) (jo : Nat → Int64) (jd : Nat → UInt64) (mm : Nat → Int64) (masd : Nat → Int64) (msav : Nat → Int64) (misS : Int32) (mpst : Nat → Int64) (mchg : Int32) (merr : Int32) (mfai : Int32) (mthr : Int32) (minp : Nat → Int32) (minM : Int32) (mUp : Nat → Int32) (mcar : Nat → Int32) (mcam : Nat → Int32) (mahd : Int32) (magn : Int32) (mltr : Nat → Int32) (mbeg : Nat → Int32) (mcmd : Nat → Int32) (mcmM : Int32) (mpl : Int32) (msz : Int32) (mwr : Int32) (mlin : Nat → Int32) (mliM : Int32) (hK : va_K (gD g) zCl (gT g) s) (hB : KB g A s s.heap) (fu : Nat) (i : Int32) (u : Int32) (hF : G_law_2146 fu st mm mthr L xs i = some u) {H : Heap} {locs : List Loc} {ls : Array Slot} {cells slots : Nat} (hc : cells + 51 ≤ 603072) (hsl : slots + 306 ≤ 7170153) (hl : lv_has ls 9 [(5, .int i), (4, .ref (ad 75)), (3, .ref (ad 74)), (2, .ref (qd 0)), (1, .ref (ad 0)), (0, .ref b)]) (hP : va_P (gD g) zCl (wLaw g ad qd st sv isS hst spare undo seen dbef drec ptx plen ppos pcnt cmds stE stF lch llen jo jd mm masd msav misS mpst mchg merr mfai mthr minp minM mUp mcar mcam mahd magn mltr mbeg mcmd mcmM mpl msz mwr mlin mliM) H) (hD : va_D A (wLaw g ad qd st sv isS hst spare undo seen dbef drec ptx plen ppos pcnt cmds stE stF lch llen jo jd mm masd msav misS mpst mchg merr mfai mthr minp minM mUp mcar mcam mahd magn mltr mbeg mcmd mcmM mpl msz mwr mlin mliM)) (hS : va_S A s.heap H locs)
    (kj : ∀ (H : Heap) (locs : List Loc) (ls : Array Slot), lv_has ls 9 [(5, .int i), (4, .ref (ad 75)), (3, .ref (ad 74)), (2, .ref (qd 0)), (1, .ref (ad 0)), (0, .ref b)] → va_P (gD g) zCl (wLaw g ad qd st sv isS hst spare undo seen dbef drec ptx plen ppos pcnt cmds stE stF lch llen jo jd mm masd msav misS mpst mchg merr mfai u minp minM mUp mcar mcam mahd magn mltr mbeg mcmd mcmM mpl msz mwr mlin mliM) H → va_D A (wLaw g ad qd st sv isS hst spare undo seen dbef drec ptx plen ppos pcnt cmds stE stF lch llen jo jd mm masd msav misS mpst mchg merr mfai u minp minM mUp mcar mcam mahd magn mltr mbeg mcmd mcmM mpl msz mwr mlin mliM) → va_S A s.heap H locs → W p l e room_1 s m #[Value.ref b] below meth c H locs (cells + 51) (slots + 306) (lw_Z below #[Value.ref b] s) (F0 m 2792 ls [])) : W p l e room_1 s m #[Value.ref b] below meth c H locs cells slots (lw_Z below #[Value.ref b] s) (F0 m 2146 ls []) := by
  have hc : cells + 51 ≤ room_1.cells := hc
  have hsl : slots + 306 ≤ room_1.slots := hsl
  unfold G_law_2146 at hF
  refine lv_aload_n hx hb dL_law_2146 rfl (lv_at hl 4 rfl) ?_
  obtain ⟨zo1, hzo1, hF⟩ := z_bind hF
  refine z_calll (fun (_ : Unit) => (wRoot g ad st sv isS hst spare undo seen dbef drec ptx plen ppos pcnt cmds stE stF lch llen)) zRJ (va_runV (As := []) (rest := []) ⟨hx, hb, hml, hown, hts⟩ (c_X10_totalByAccounts l g ad st sv isS hst spare undo seen dbef drec ptx plen ppos pcnt cmds stE stF lch llen _ _ hzo1) (cwV 0 hts (gdV mU_317 mU_318 mU_319 mU_66 mU_320) rfl rfl rfl (by decide +kernel) ⟨Nat.le_of_ble_eq_true rfl, Nat.le_of_ble_eq_true rfl⟩) ⟨z_blind _ _ _ _, va_recv hK hP (ci := 6) (q0 := 0) rfl rfl, fun U hU hW => z_pre zRJ hP hD hK hB hS hA wLaw_CR wRootJ_N hU hW⟩ rfl rfl hl.1 rfl (lv_room (Nat.le_of_ble_eq_true rfl)) dL_law_2147 ⟨by omega, by omega⟩) hP hD hS hA wLaw_CR (fun _ => rfl) (fun r u H locs hw hP hD hS => ?_)
  subst hw
  have hP : va_P (gD g) zCl (wLaw g ad qd st sv isS hst spare undo seen dbef drec ptx plen ppos pcnt cmds stE stF lch llen jo jd mm masd msav misS mpst mchg merr mfai mthr minp minM mUp mcar mcam mahd magn mltr mbeg mcmd mcmM mpl msz mwr mlin mliM) H := Eq.mp (congrArg (fun w => va_P (gD g) zCl w H) wLaw_SR) hP
  have hD : va_D A (wLaw g ad qd st sv isS hst spare undo seen dbef drec ptx plen ppos pcnt cmds stE stF lch llen jo jd mm masd msav misS mpst mchg merr mfai mthr minp minM mUp mcar mcam mahd magn mltr mbeg mcmd mcmM mpl msz mwr mlin mliM) := Eq.mp (congrArg (fun w => va_D A w) wLaw_SR) hD
  refine lv_aload_n hx hb dL_law_2150 rfl (lv_at hl 3 rfl) ?_
  obtain ⟨zo2, hzo2, hF⟩ := z_bind hF
  refine z_calll (fun (u : Int32) => (wModel g (qd 0) (qd 1) (qd 2) (qd 3) (qd 4) (qd 5) (qd 6) (qd 7) (qd 8) (qd 9) (qd 10) (qd 11) (qd 12) mm masd msav misS mpst mchg merr mfai u minp minM mUp mcar mcam mahd magn mltr mbeg mcmd mcmM mpl msz mwr mlin mliM)) zLM (va_runV (As := []) (rest := [.long zo1]) ⟨hx, hb, hml, hown, hts⟩ (c_X11_totalByAccounts l g (qd 0) (qd 1) (qd 2) (qd 3) (qd 4) (qd 5) (qd 6) (qd 7) (qd 8) (qd 9) (qd 10) (qd 11) (qd 12) mm masd msav misS mpst mchg merr mfai mthr minp minM mUp mcar mcam mahd magn mltr mbeg mcmd mcmM mpl msz mwr mlin mliM _ fu _ hzo2) (cwV 0 hts (gdV mU_1582 mU_1583 mU_1584 mU_75 mU_1585) rfl rfl rfl (by decide +kernel) ⟨Nat.le_of_ble_eq_true rfl, Nat.le_of_ble_eq_true rfl⟩) ⟨z_blind _ _ _ _, va_recv hK hP (ci := 7) (q0 := 76) rfl rfl, fun U hU hW => z_pre zLM hP hD hK hB hS hA wLaw_CM wLaw_NM hU hW⟩ rfl rfl hl.1 rfl (lv_room (Nat.le_of_ble_eq_true rfl)) dL_law_2151 ⟨by omega, by omega⟩) hP hD hS hA wLaw_CM (fun _ => rfl) (fun r u H locs hw hP hD hS => ?_)
  obtain ⟨rfl, rfl⟩ := hw
  have hP : va_P (gD g) zCl (wLaw g ad qd st sv isS hst spare undo seen dbef drec ptx plen ppos pcnt cmds stE stF lch llen jo jd mm masd msav misS mpst mchg merr mfai zo2.2 minp minM mUp mcar mcam mahd magn mltr mbeg mcmd mcmM mpl msz mwr mlin mliM) H := Eq.mp (congrArg (fun w => va_P (gD g) zCl w H) wLaw_SM) hP
  have hD : va_D A (wLaw g ad qd st sv isS hst spare undo seen dbef drec ptx plen ppos pcnt cmds stE stF lch llen jo jd mm masd msav misS mpst mchg merr mfai zo2.2 minp minM mUp mcar mcam mahd magn mltr mbeg mcmd mcmM mpl msz mwr mlin mliM) := Eq.mp (congrArg (fun w => va_D A w) wLaw_SM) hD
  refine z_lcmp_eq (tgt := 2792) hx hb dL_law_2154 dL_law_2155 (by decide) (fun zc3 => ?_) (fun zc3 => ?_)
  · have hF := z_pos hF zc3
    have ho := (Option.some.inj hF).symm
    subst ho
    refine W.widen (k := cells + 51) (n := slots + 306) (by omega) (by omega) ?_
    exact kj _ _ _ (lv_sub hl [0, 1, 2, 3, 4, 5] rfl) hP hD hS
  · have hF := z_neg hF zc3
    refine lv_iconst (v := 0) hx hb dL_law_2158 (by decide) ?_
    exact absurd hF (by simp)
set_option maxHeartbeats 4000000 in
set_option maxRecDepth 100000 in
theorem k_law_2160 {p : Program} {e : Env} {s : State} {m : MethodId} {below : List Frame} {meth : Method} {c : Code} (l : Launch) (hl0 : l.stackTraces = false) {b L : Nat} {xs : Nat → Int32} (hx : p.tables.exec = Jvm.exec) (hb : c.code = cL_law) (hml : c.maxLocals = 9) (hown : s.vm.findClass RL = some m.cls) (hts : ∀ w ∈ wU, w.before #[Value.ref b] s = true) (hX : va_X b L xs s s.heap) (hbl : b < s.heap.size) {A : Nat → Prop} (hbA : ¬ A b) (hA : ∀ q, s.heap.size ≤ q → A q) (g : GG) (ad qd : Nat → Nat) (st : SS) (sv : SS) (isS : Int32) (hst : Nat → SS) (spare : Int32) (undo : Int32) (seen : Nat → Int32) (dbef : Int32) (drec : Int32) (ptx : Nat → Int32) (plen : Int32) (ppos : Int32) (pcnt : Int32) (cmds : Nat → CC) (stE : Int32) (stF : Int32) (lch : Nat → Int32) (llen : Int32) (jo : Nat → Int64) (jd : Nat → UInt64) (mm : Nat → Int64) (masd : Nat → Int64) (msav : Nat → Int64) (misS : Int32) (mpst : Nat → Int64) (mchg : Int32) (merr : Int32) (mfai : Int32) (mthr : Int32) (minp : Nat → Int32) (minM : Int32) (mUp : Nat → Int32) (mcar : Nat → Int32) (mcam : Nat → Int32) (mahd : Int32) (magn : Int32) (mltr : Nat → Int32) (mbeg : Nat → Int32) (mcmd : Nat → Int32) (mcmM : Int32) (mpl : Int32) (msz : Int32) (mwr : Int32) (mlin : Nat → Int32) (mliM : Int32) (hK : va_K (gD g) zCl (gT g) s) (hB : KB g A s s.heap) (i : Int32) (u : Int32) (hF : G_law_2160 st mm mthr L xs i = some u) {H : Heap} {locs : List Loc} {ls : Array Slot} {cells slots : Nat} (hc : cells + 51 ≤ 603072) (hsl : slots + 306 ≤ 7170153) (hl : lv_has ls 9 [(5, .int i), (4, .ref (ad 75)), (3, .ref (ad 74)), (2, .ref (qd 0)), (1, .ref (ad 0)), (0, .ref b)]) (hP : va_P (gD g) zCl (wLaw g ad qd st sv isS hst spare undo seen dbef drec ptx plen ppos pcnt cmds stE stF lch llen jo jd mm masd msav misS mpst mchg merr mfai mthr minp minM mUp mcar mcam mahd magn mltr mbeg mcmd mcmM mpl msz mwr mlin mliM) H) (hD : va_D A (wLaw g ad qd st sv isS hst spare undo seen dbef drec ptx plen ppos pcnt cmds stE stF lch llen jo jd mm masd msav misS mpst mchg merr mfai mthr minp minM mUp mcar mcam mahd magn mltr mbeg mcmd mcmM mpl msz mwr mlin mliM)) (hS : va_S A s.heap H locs)
    (kj : ∀ (H : Heap) (locs : List Loc) (ls : Array Slot), lv_has ls 9 [(5, .int i), (4, .ref (ad 75)), (3, .ref (ad 74)), (2, .ref (qd 0)), (1, .ref (ad 0)), (0, .ref b)] → va_P (gD g) zCl (wLaw g ad qd st sv isS hst spare undo seen dbef drec ptx plen ppos pcnt cmds stE stF lch llen jo jd mm masd msav misS mpst mchg merr mfai u minp minM mUp mcar mcam mahd magn mltr mbeg mcmd mcmM mpl msz mwr mlin mliM) H → va_D A (wLaw g ad qd st sv isS hst spare undo seen dbef drec ptx plen ppos pcnt cmds stE stF lch llen jo jd mm masd msav misS mpst mchg merr mfai u minp minM mUp mcar mcam mahd magn mltr mbeg mcmd mcmM mpl msz mwr mlin mliM) → va_S A s.heap H locs → W p l e room_1 s m #[Value.ref b] below meth c H locs (cells + 51) (slots + 306) (lw_Z below #[Value.ref b] s) (F0 m 2792 ls [])) : W p l e room_1 s m #[Value.ref b] below meth c H locs cells slots (lw_Z below #[Value.ref b] s) (F0 m 2160 ls []) := by
  have hc : cells + 51 ≤ room_1.cells := hc
  have hsl : slots + 306 ≤ room_1.slots := hsl
  unfold G_law_2160 at hF
  refine lv_aload_n hx hb dL_law_2160 rfl (lv_at hl 4 rfl) ?_
  obtain ⟨zo1, hzo1, hF⟩ := z_bind hF
  refine z_calli (fun (_ : Unit) => (wRoot g ad st sv isS hst spare undo seen dbef drec ptx plen ppos pcnt cmds stE stF lch llen)) zRJ (va_runV (As := []) (rest := []) ⟨hx, hb, hml, hown, hts⟩ (c_X10_escapes l g ad st sv isS hst spare undo seen dbef drec ptx plen ppos pcnt cmds stE stF lch llen _ _ hzo1) (cwV 0 hts (gdV mU_326 mU_327 mU_328 mU_66 mU_329) rfl rfl rfl (by decide +kernel) ⟨Nat.le_of_ble_eq_true rfl, Nat.le_of_ble_eq_true rfl⟩) ⟨z_blind _ _ _ _, va_recv hK hP (ci := 6) (q0 := 0) rfl rfl, fun U hU hW => z_pre zRJ hP hD hK hB hS hA wLaw_CR wRootJ_N hU hW⟩ rfl rfl hl.1 rfl (lv_room (Nat.le_of_ble_eq_true rfl)) dL_law_2161 ⟨by omega, by omega⟩) hP hD hS hA wLaw_CR (fun _ => rfl) (fun r u H locs hw hP hD hS => ?_)
  subst hw
  have hP : va_P (gD g) zCl (wLaw g ad qd st sv isS hst spare undo seen dbef drec ptx plen ppos pcnt cmds stE stF lch llen jo jd mm masd msav misS mpst mchg merr mfai mthr minp minM mUp mcar mcam mahd magn mltr mbeg mcmd mcmM mpl msz mwr mlin mliM) H := Eq.mp (congrArg (fun w => va_P (gD g) zCl w H) wLaw_SR) hP
  have hD : va_D A (wLaw g ad qd st sv isS hst spare undo seen dbef drec ptx plen ppos pcnt cmds stE stF lch llen jo jd mm masd msav misS mpst mchg merr mfai mthr minp minM mUp mcar mcam mahd magn mltr mbeg mcmd mcmM mpl msz mwr mlin mliM) := Eq.mp (congrArg (fun w => va_D A w) wLaw_SR) hD
  refine lv_aload_n hx hb dL_law_2164 rfl (lv_at hl 3 rfl) ?_
  obtain ⟨zo2, hzo2, hF⟩ := z_bind hF
  refine z_calli (fun (u : Int32) => (wModel g (qd 0) (qd 1) (qd 2) (qd 3) (qd 4) (qd 5) (qd 6) (qd 7) (qd 8) (qd 9) (qd 10) (qd 11) (qd 12) mm masd msav misS mpst mchg merr mfai u minp minM mUp mcar mcam mahd magn mltr mbeg mcmd mcmM mpl msz mwr mlin mliM)) zLM (va_runV (As := []) (rest := [.int zo1]) ⟨hx, hb, hml, hown, hts⟩ (c_X11_escapes l g (qd 0) (qd 1) (qd 2) (qd 3) (qd 4) (qd 5) (qd 6) (qd 7) (qd 8) (qd 9) (qd 10) (qd 11) (qd 12) mm masd msav misS mpst mchg merr mfai mthr minp minM mUp mcar mcam mahd magn mltr mbeg mcmd mcmM mpl msz mwr mlin mliM _ _ hzo2) (cwV 0 hts (gdV mU_1587 mU_1588 mU_1589 mU_75 mU_1590) rfl rfl rfl (by decide +kernel) ⟨Nat.le_of_ble_eq_true rfl, Nat.le_of_ble_eq_true rfl⟩) ⟨z_blind _ _ _ _, va_recv hK hP (ci := 7) (q0 := 76) rfl rfl, fun U hU hW => z_pre zLM hP hD hK hB hS hA wLaw_CM wLaw_NM hU hW⟩ rfl rfl hl.1 rfl (lv_room (Nat.le_of_ble_eq_true rfl)) dL_law_2165 ⟨by omega, by omega⟩) hP hD hS hA wLaw_CM (fun _ => rfl) (fun r u H locs hw hP hD hS => ?_)
  obtain ⟨rfl, rfl⟩ := hw
  have hP : va_P (gD g) zCl (wLaw g ad qd st sv isS hst spare undo seen dbef drec ptx plen ppos pcnt cmds stE stF lch llen jo jd mm masd msav misS mpst mchg merr mfai zo2.2 minp minM mUp mcar mcam mahd magn mltr mbeg mcmd mcmM mpl msz mwr mlin mliM) H := Eq.mp (congrArg (fun w => va_P (gD g) zCl w H) wLaw_SM) hP
  have hD : va_D A (wLaw g ad qd st sv isS hst spare undo seen dbef drec ptx plen ppos pcnt cmds stE stF lch llen jo jd mm masd msav misS mpst mchg merr mfai zo2.2 minp minM mUp mcar mcam mahd magn mltr mbeg mcmd mcmM mpl msz mwr mlin mliM) := Eq.mp (congrArg (fun w => va_D A w) wLaw_SM) hD
  refine lv_icmp_eq (tgt := 2792) hx hb dL_law_2168 (by decide) (fun zc3 => ?_) (fun zc3 => ?_)
  · have hF := z_pos hF zc3
    have ho := (Option.some.inj hF).symm
    subst ho
    refine W.widen (k := cells + 51) (n := slots + 306) (by omega) (by omega) ?_
    exact kj _ _ _ (lv_sub hl [0, 1, 2, 3, 4, 5] rfl) hP hD hS
  · have hF := z_neg hF zc3
    refine lv_iconst (v := 0) hx hb dL_law_2171 (by decide) ?_
    exact absurd hF (by simp)
set_option maxHeartbeats 4000000 in
set_option maxRecDepth 100000 in
theorem k_law_2173 {p : Program} {e : Env} {s : State} {m : MethodId} {below : List Frame} {meth : Method} {c : Code} (l : Launch) (hl0 : l.stackTraces = false) {b L : Nat} {xs : Nat → Int32} (hx : p.tables.exec = Jvm.exec) (hb : c.code = cL_law) (hml : c.maxLocals = 9) (hown : s.vm.findClass RL = some m.cls) (hts : ∀ w ∈ wU, w.before #[Value.ref b] s = true) (hX : va_X b L xs s s.heap) (hbl : b < s.heap.size) {A : Nat → Prop} (hbA : ¬ A b) (hA : ∀ q, s.heap.size ≤ q → A q) (g : GG) (ad qd : Nat → Nat) (st : SS) (sv : SS) (isS : Int32) (hst : Nat → SS) (spare : Int32) (undo : Int32) (seen : Nat → Int32) (dbef : Int32) (drec : Int32) (ptx : Nat → Int32) (plen : Int32) (ppos : Int32) (pcnt : Int32) (cmds : Nat → CC) (stE : Int32) (stF : Int32) (lch : Nat → Int32) (llen : Int32) (jo : Nat → Int64) (jd : Nat → UInt64) (mm : Nat → Int64) (masd : Nat → Int64) (msav : Nat → Int64) (misS : Int32) (mpst : Nat → Int64) (mchg : Int32) (merr : Int32) (mfai : Int32) (mthr : Int32) (minp : Nat → Int32) (minM : Int32) (mUp : Nat → Int32) (mcar : Nat → Int32) (mcam : Nat → Int32) (mahd : Int32) (magn : Int32) (mltr : Nat → Int32) (mbeg : Nat → Int32) (mcmd : Nat → Int32) (mcmM : Int32) (mpl : Int32) (msz : Int32) (mwr : Int32) (mlin : Nat → Int32) (mliM : Int32) (hK : va_K (gD g) zCl (gT g) s) (hB : KB g A s s.heap) (i : Int32) (u : Int32) (hF : G_law_2173 st mm mthr L xs i = some u) {H : Heap} {locs : List Loc} {ls : Array Slot} {cells slots : Nat} (hc : cells + 51 ≤ 603072) (hsl : slots + 306 ≤ 7170153) (hl : lv_has ls 9 [(5, .int i), (4, .ref (ad 75)), (3, .ref (ad 74)), (2, .ref (qd 0)), (1, .ref (ad 0)), (0, .ref b)]) (hP : va_P (gD g) zCl (wLaw g ad qd st sv isS hst spare undo seen dbef drec ptx plen ppos pcnt cmds stE stF lch llen jo jd mm masd msav misS mpst mchg merr mfai mthr minp minM mUp mcar mcam mahd magn mltr mbeg mcmd mcmM mpl msz mwr mlin mliM) H) (hD : va_D A (wLaw g ad qd st sv isS hst spare undo seen dbef drec ptx plen ppos pcnt cmds stE stF lch llen jo jd mm masd msav misS mpst mchg merr mfai mthr minp minM mUp mcar mcam mahd magn mltr mbeg mcmd mcmM mpl msz mwr mlin mliM)) (hS : va_S A s.heap H locs)
    (kj : ∀ (H : Heap) (locs : List Loc) (ls : Array Slot), lv_has ls 9 [(5, .int i), (4, .ref (ad 75)), (3, .ref (ad 74)), (2, .ref (qd 0)), (1, .ref (ad 0)), (0, .ref b)] → va_P (gD g) zCl (wLaw g ad qd st sv isS hst spare undo seen dbef drec ptx plen ppos pcnt cmds stE stF lch llen jo jd mm masd msav misS mpst mchg merr mfai u minp minM mUp mcar mcam mahd magn mltr mbeg mcmd mcmM mpl msz mwr mlin mliM) H → va_D A (wLaw g ad qd st sv isS hst spare undo seen dbef drec ptx plen ppos pcnt cmds stE stF lch llen jo jd mm masd msav misS mpst mchg merr mfai u minp minM mUp mcar mcam mahd magn mltr mbeg mcmd mcmM mpl msz mwr mlin mliM) → va_S A s.heap H locs → W p l e room_1 s m #[Value.ref b] below meth c H locs (cells + 51) (slots + 306) (lw_Z below #[Value.ref b] s) (F0 m 2792 ls [])) : W p l e room_1 s m #[Value.ref b] below meth c H locs cells slots (lw_Z below #[Value.ref b] s) (F0 m 2173 ls []) := by
  have hc : cells + 51 ≤ room_1.cells := hc
  have hsl : slots + 306 ≤ room_1.slots := hsl
  unfold G_law_2173 at hF
  refine lv_aload_n hx hb dL_law_2173 rfl (lv_at hl 4 rfl) ?_
  obtain ⟨zo1, hzo1, hF⟩ := z_bind hF
  refine z_calll (fun (_ : Unit) => (wRoot g ad st sv isS hst spare undo seen dbef drec ptx plen ppos pcnt cmds stE stF lch llen)) zRJ (va_runV (As := []) (rest := []) ⟨hx, hb, hml, hown, hts⟩ (c_X10_crumbs l g ad st sv isS hst spare undo seen dbef drec ptx plen ppos pcnt cmds stE stF lch llen _ _ hzo1) (cwV 0 hts (gdV mU_330 mU_331 mU_332 mU_66 mU_333) rfl rfl rfl (by decide +kernel) ⟨Nat.le_of_ble_eq_true rfl, Nat.le_of_ble_eq_true rfl⟩) ⟨z_blind _ _ _ _, va_recv hK hP (ci := 6) (q0 := 0) rfl rfl, fun U hU hW => z_pre zRJ hP hD hK hB hS hA wLaw_CR wRootJ_N hU hW⟩ rfl rfl hl.1 rfl (lv_room (Nat.le_of_ble_eq_true rfl)) dL_law_2174 ⟨by omega, by omega⟩) hP hD hS hA wLaw_CR (fun _ => rfl) (fun r u H locs hw hP hD hS => ?_)
  subst hw
  have hP : va_P (gD g) zCl (wLaw g ad qd st sv isS hst spare undo seen dbef drec ptx plen ppos pcnt cmds stE stF lch llen jo jd mm masd msav misS mpst mchg merr mfai mthr minp minM mUp mcar mcam mahd magn mltr mbeg mcmd mcmM mpl msz mwr mlin mliM) H := Eq.mp (congrArg (fun w => va_P (gD g) zCl w H) wLaw_SR) hP
  have hD : va_D A (wLaw g ad qd st sv isS hst spare undo seen dbef drec ptx plen ppos pcnt cmds stE stF lch llen jo jd mm masd msav misS mpst mchg merr mfai mthr minp minM mUp mcar mcam mahd magn mltr mbeg mcmd mcmM mpl msz mwr mlin mliM) := Eq.mp (congrArg (fun w => va_D A w) wLaw_SR) hD
  refine lv_aload_n hx hb dL_law_2177 rfl (lv_at hl 3 rfl) ?_
  obtain ⟨zo2, hzo2, hF⟩ := z_bind hF
  refine z_calll (fun (u : Int32) => (wModel g (qd 0) (qd 1) (qd 2) (qd 3) (qd 4) (qd 5) (qd 6) (qd 7) (qd 8) (qd 9) (qd 10) (qd 11) (qd 12) mm masd msav misS mpst mchg merr mfai u minp minM mUp mcar mcam mahd magn mltr mbeg mcmd mcmM mpl msz mwr mlin mliM)) zLM (va_runV (As := []) (rest := [.long zo1]) ⟨hx, hb, hml, hown, hts⟩ (c_X11_crumbs l g (qd 0) (qd 1) (qd 2) (qd 3) (qd 4) (qd 5) (qd 6) (qd 7) (qd 8) (qd 9) (qd 10) (qd 11) (qd 12) mm masd msav misS mpst mchg merr mfai mthr minp minM mUp mcar mcam mahd magn mltr mbeg mcmd mcmM mpl msz mwr mlin mliM _ _ hzo2) (cwV 0 hts (gdV mU_1591 mU_1592 mU_1593 mU_75 mU_1594) rfl rfl rfl (by decide +kernel) ⟨Nat.le_of_ble_eq_true rfl, Nat.le_of_ble_eq_true rfl⟩) ⟨z_blind _ _ _ _, va_recv hK hP (ci := 7) (q0 := 76) rfl rfl, fun U hU hW => z_pre zLM hP hD hK hB hS hA wLaw_CM wLaw_NM hU hW⟩ rfl rfl hl.1 rfl (lv_room (Nat.le_of_ble_eq_true rfl)) dL_law_2178 ⟨by omega, by omega⟩) hP hD hS hA wLaw_CM (fun _ => rfl) (fun r u H locs hw hP hD hS => ?_)
  obtain ⟨rfl, rfl⟩ := hw
  have hP : va_P (gD g) zCl (wLaw g ad qd st sv isS hst spare undo seen dbef drec ptx plen ppos pcnt cmds stE stF lch llen jo jd mm masd msav misS mpst mchg merr mfai zo2.2 minp minM mUp mcar mcam mahd magn mltr mbeg mcmd mcmM mpl msz mwr mlin mliM) H := Eq.mp (congrArg (fun w => va_P (gD g) zCl w H) wLaw_SM) hP
  have hD : va_D A (wLaw g ad qd st sv isS hst spare undo seen dbef drec ptx plen ppos pcnt cmds stE stF lch llen jo jd mm masd msav misS mpst mchg merr mfai zo2.2 minp minM mUp mcar mcam mahd magn mltr mbeg mcmd mcmM mpl msz mwr mlin mliM) := Eq.mp (congrArg (fun w => va_D A w) wLaw_SM) hD
  refine z_lcmp_eq (tgt := 2792) hx hb dL_law_2181 dL_law_2182 (by decide) (fun zc3 => ?_) (fun zc3 => ?_)
  · have hF := z_pos hF zc3
    have ho := (Option.some.inj hF).symm
    subst ho
    refine W.widen (k := cells + 51) (n := slots + 306) (by omega) (by omega) ?_
    exact kj _ _ _ (lv_sub hl [0, 1, 2, 3, 4, 5] rfl) hP hD hS
  · have hF := z_neg hF zc3
    refine lv_iconst (v := 0) hx hb dL_law_2185 (by decide) ?_
    exact absurd hF (by simp)
set_option maxHeartbeats 4000000 in
set_option maxRecDepth 100000 in
theorem k_law_2187 {p : Program} {e : Env} {s : State} {m : MethodId} {below : List Frame} {meth : Method} {c : Code} (l : Launch) (hl0 : l.stackTraces = false) {b L : Nat} {xs : Nat → Int32} (hx : p.tables.exec = Jvm.exec) (hb : c.code = cL_law) (hml : c.maxLocals = 9) (hown : s.vm.findClass RL = some m.cls) (hts : ∀ w ∈ wU, w.before #[Value.ref b] s = true) (hX : va_X b L xs s s.heap) (hbl : b < s.heap.size) {A : Nat → Prop} (hbA : ¬ A b) (hA : ∀ q, s.heap.size ≤ q → A q) (g : GG) (ad qd : Nat → Nat) (st : SS) (sv : SS) (isS : Int32) (hst : Nat → SS) (spare : Int32) (undo : Int32) (seen : Nat → Int32) (dbef : Int32) (drec : Int32) (ptx : Nat → Int32) (plen : Int32) (ppos : Int32) (pcnt : Int32) (cmds : Nat → CC) (stE : Int32) (stF : Int32) (lch : Nat → Int32) (llen : Int32) (jo : Nat → Int64) (jd : Nat → UInt64) (mm : Nat → Int64) (masd : Nat → Int64) (msav : Nat → Int64) (misS : Int32) (mpst : Nat → Int64) (mchg : Int32) (merr : Int32) (mfai : Int32) (mthr : Int32) (minp : Nat → Int32) (minM : Int32) (mUp : Nat → Int32) (mcar : Nat → Int32) (mcam : Nat → Int32) (mahd : Int32) (magn : Int32) (mltr : Nat → Int32) (mbeg : Nat → Int32) (mcmd : Nat → Int32) (mcmM : Int32) (mpl : Int32) (msz : Int32) (mwr : Int32) (mlin : Nat → Int32) (mliM : Int32) (hK : va_K (gD g) zCl (gT g) s) (hB : KB g A s s.heap) (fu : Nat) (i : Int32) (u : (Nat → UInt64) × Int32) (hF : G_law_2187 fu st jd mm mthr L xs i = some u) {H : Heap} {locs : List Loc} {ls : Array Slot} {cells slots : Nat} (hc : cells + 51 ≤ 603072) (hsl : slots + 306 ≤ 7170153) (hl : lv_has ls 9 [(5, .int i), (4, .ref (ad 75)), (3, .ref (ad 74)), (2, .ref (qd 0)), (1, .ref (ad 0)), (0, .ref b)]) (hP : va_P (gD g) zCl (wLaw g ad qd st sv isS hst spare undo seen dbef drec ptx plen ppos pcnt cmds stE stF lch llen jo jd mm masd msav misS mpst mchg merr mfai mthr minp minM mUp mcar mcam mahd magn mltr mbeg mcmd mcmM mpl msz mwr mlin mliM) H) (hD : va_D A (wLaw g ad qd st sv isS hst spare undo seen dbef drec ptx plen ppos pcnt cmds stE stF lch llen jo jd mm masd msav misS mpst mchg merr mfai mthr minp minM mUp mcar mcam mahd magn mltr mbeg mcmd mcmM mpl msz mwr mlin mliM)) (hS : va_S A s.heap H locs)
    (kj : ∀ (H : Heap) (locs : List Loc) (ls : Array Slot), lv_has ls 9 [(5, .int i), (4, .ref (ad 75)), (3, .ref (ad 74)), (2, .ref (qd 0)), (1, .ref (ad 0)), (0, .ref b)] → va_P (gD g) zCl (wLaw g ad qd st sv isS hst spare undo seen dbef drec ptx plen ppos pcnt cmds stE stF lch llen jo u.1 mm masd msav misS mpst mchg merr mfai u.2 minp minM mUp mcar mcam mahd magn mltr mbeg mcmd mcmM mpl msz mwr mlin mliM) H → va_D A (wLaw g ad qd st sv isS hst spare undo seen dbef drec ptx plen ppos pcnt cmds stE stF lch llen jo u.1 mm masd msav misS mpst mchg merr mfai u.2 minp minM mUp mcar mcam mahd magn mltr mbeg mcmd mcmM mpl msz mwr mlin mliM) → va_S A s.heap H locs → W p l e room_1 s m #[Value.ref b] below meth c H locs (cells + 51) (slots + 306) (lw_Z below #[Value.ref b] s) (F0 m 2792 ls [])) : W p l e room_1 s m #[Value.ref b] below meth c H locs cells slots (lw_Z below #[Value.ref b] s) (F0 m 2187 ls []) := by
  have hc : cells + 51 ≤ room_1.cells := hc
  have hsl : slots + 306 ≤ room_1.slots := hsl
  unfold G_law_2187 at hF
  refine lv_aload_n hx hb dL_law_2187 rfl (lv_at hl 4 rfl) ?_
  refine lv_aload hx hb dL_law_2188 (lv_at hl 1 rfl) ?_
  obtain ⟨zo1, hzo1, hF⟩ := z_bind hF
  refine z_calli (fun (u : (Nat → UInt64)) => (wRootD g ad st sv isS hst spare undo seen dbef drec ptx plen ppos pcnt cmds stE stF lch llen u)) zLD (vx_runSW (As := [.ref (ad 0), .ref (ad 75)]) (rest := []) ⟨hx, hb, hml, hown, hts⟩ (c_L_meanValue l hl0 g ad st sv isS hst spare undo seen dbef drec ptx plen ppos pcnt cmds stE stF lch llen jd _ fu _ hzo1) (vx_cwSW 2 hts (gdS mU_998 mU_999 mU_65 mU_1000) rfl rfl rfl (by decide +kernel) ⟨Nat.le_of_ble_eq_true rfl, Nat.le_of_ble_eq_true rfl⟩) ⟨z_blind _ _ _ _, fun U hU hW => z_pre zLD hP hD hK hB hS hA wLaw_CD wLaw_ND hU hW⟩ rfl rfl hl.1 rfl (lv_room (Nat.le_of_ble_eq_true rfl)) dL_law_2190 ⟨by omega, by omega⟩) hP hD hS hA wLaw_CD (fun _ => rfl) (fun r u H locs hw hP hD hS => ?_)
  obtain ⟨rfl, rfl⟩ := hw
  have hP : va_P (gD g) zCl (wLaw g ad qd st sv isS hst spare undo seen dbef drec ptx plen ppos pcnt cmds stE stF lch llen jo zo1.2 mm masd msav misS mpst mchg merr mfai mthr minp minM mUp mcar mcam mahd magn mltr mbeg mcmd mcmM mpl msz mwr mlin mliM) H := Eq.mp (congrArg (fun w => va_P (gD g) zCl w H) wLaw_SD) hP
  have hD : va_D A (wLaw g ad qd st sv isS hst spare undo seen dbef drec ptx plen ppos pcnt cmds stE stF lch llen jo zo1.2 mm masd msav misS mpst mchg merr mfai mthr minp minM mUp mcar mcam mahd magn mltr mbeg mcmd mcmM mpl msz mwr mlin mliM) := Eq.mp (congrArg (fun w => va_D A w) wLaw_SD) hD
  refine lv_istore (lv' := [(6, .int zo1.1), (5, .int i), (4, .ref (ad 75)), (3, .ref (ad 74)), (2, .ref (qd 0)), (1, .ref (ad 0)), (0, .ref b)]) hx hb dL_law_2193 hl (by decide) rfl (fun ls hl => ?_)
  refine lv_aload_n hx hb dL_law_2195 rfl (lv_at hl 4 rfl) ?_
  obtain ⟨zo2, hzo2, hF⟩ := z_bind hF
  refine z_calld (fun (u : Int32) => (wModel g (qd 0) (qd 1) (qd 2) (qd 3) (qd 4) (qd 5) (qd 6) (qd 7) (qd 8) (qd 9) (qd 10) (qd 11) (qd 12) mm masd msav misS mpst mchg merr mfai u minp minM mUp mcar mcam mahd magn mltr mbeg mcmd mcmM mpl msz mwr mlin mliM)) zLM (va_runV (As := []) (rest := []) ⟨hx, hb, hml, hown, hts⟩ (c_X11_meanValue l g (qd 0) (qd 1) (qd 2) (qd 3) (qd 4) (qd 5) (qd 6) (qd 7) (qd 8) (qd 9) (qd 10) (qd 11) (qd 12) mm masd msav misS mpst mchg merr mfai mthr minp minM mUp mcar mcam mahd magn mltr mbeg mcmd mcmM mpl msz mwr mlin mliM _ fu _ hzo2) (cwV 0 hts (gdV mU_1595 mU_1596 mU_1597 mU_75 mU_1598) rfl rfl rfl (by decide +kernel) ⟨Nat.le_of_ble_eq_true rfl, Nat.le_of_ble_eq_true rfl⟩) ⟨z_blind _ _ _ _, va_recv hK hP (ci := 7) (q0 := 76) rfl rfl, fun U hU hW => z_pre zLM hP hD hK hB hS hA wLaw_CM wLaw_NM hU hW⟩ rfl rfl hl.1 rfl (lv_room (Nat.le_of_ble_eq_true rfl)) dL_law_2196 ⟨by omega, by omega⟩) hP hD hS hA wLaw_CM (fun _ => rfl) (fun r u H locs hw hP hD hS => ?_)
  obtain ⟨rfl, rfl⟩ := hw
  have hP : va_P (gD g) zCl (wLaw g ad qd st sv isS hst spare undo seen dbef drec ptx plen ppos pcnt cmds stE stF lch llen jo zo1.2 mm masd msav misS mpst mchg merr mfai zo2.2 minp minM mUp mcar mcam mahd magn mltr mbeg mcmd mcmM mpl msz mwr mlin mliM) H := Eq.mp (congrArg (fun w => va_P (gD g) zCl w H) wLaw_SM) hP
  have hD : va_D A (wLaw g ad qd st sv isS hst spare undo seen dbef drec ptx plen ppos pcnt cmds stE stF lch llen jo zo1.2 mm masd msav misS mpst mchg merr mfai zo2.2 minp minM mUp mcar mcam mahd magn mltr mbeg mcmd mcmM mpl msz mwr mlin mliM) := Eq.mp (congrArg (fun w => va_D A w) wLaw_SM) hD
  refine lv_dstore (lv' := [(7, .double zo2.1), (6, .int zo1.1), (5, .int i), (4, .ref (ad 75)), (3, .ref (ad 74)), (2, .ref (qd 0)), (1, .ref (ad 0)), (0, .ref b)]) hx hb dL_law_2199 hl (by decide) rfl (fun ls hl => ?_)
  refine lv_aload_n hx hb dL_law_2201 rfl (lv_at hl 5 rfl) ?_
  obtain ⟨zo3, hzo3, hF⟩ := z_bind hF
  refine z_calli (fun (_ : Unit) => (wModel g (qd 0) (qd 1) (qd 2) (qd 3) (qd 4) (qd 5) (qd 6) (qd 7) (qd 8) (qd 9) (qd 10) (qd 11) (qd 12) mm masd msav misS mpst mchg merr mfai zo2.2 minp minM mUp mcar mcam mahd magn mltr mbeg mcmd mcmM mpl msz mwr mlin mliM)) zLM (va_runV (As := []) (rest := []) ⟨hx, hb, hml, hown, hts⟩ (c_X11_thrown l g (qd 0) (qd 1) (qd 2) (qd 3) (qd 4) (qd 5) (qd 6) (qd 7) (qd 8) (qd 9) (qd 10) (qd 11) (qd 12) mm masd msav misS mpst mchg merr mfai zo2.2 minp minM mUp mcar mcam mahd magn mltr mbeg mcmd mcmM mpl msz mwr mlin mliM _ _ hzo3) (cwV 0 hts (gdV mU_1321 mU_1322 mU_1323 mU_75 mU_1324) rfl rfl rfl (by decide +kernel) ⟨Nat.le_of_ble_eq_true rfl, Nat.le_of_ble_eq_true rfl⟩) ⟨z_blind _ _ _ _, va_recv hK hP (ci := 7) (q0 := 76) rfl rfl, fun U hU hW => z_pre zLM hP hD hK hB hS hA wLaw_CM wLaw_NM hU hW⟩ rfl rfl hl.1 rfl (lv_room (Nat.le_of_ble_eq_true rfl)) dL_law_2202 ⟨by omega, by omega⟩) hP hD hS hA wLaw_CM (fun _ => rfl) (fun r u H locs hw hP hD hS => ?_)
  subst hw
  have hP : va_P (gD g) zCl (wLaw g ad qd st sv isS hst spare undo seen dbef drec ptx plen ppos pcnt cmds stE stF lch llen jo zo1.2 mm masd msav misS mpst mchg merr mfai zo2.2 minp minM mUp mcar mcam mahd magn mltr mbeg mcmd mcmM mpl msz mwr mlin mliM) H := Eq.mp (congrArg (fun w => va_P (gD g) zCl w H) wLaw_SM) hP
  have hD : va_D A (wLaw g ad qd st sv isS hst spare undo seen dbef drec ptx plen ppos pcnt cmds stE stF lch llen jo zo1.2 mm masd msav misS mpst mchg merr mfai zo2.2 minp minM mUp mcar mcam mahd magn mltr mbeg mcmd mcmM mpl msz mwr mlin mliM) := Eq.mp (congrArg (fun w => va_D A w) wLaw_SM) hD
  refine lv_iload hx hb dL_law_2205 (lv_at hl 1 rfl) ?_
  refine lv_icmp_eq (tgt := 2212) hx hb dL_law_2207 (by decide) (fun zc4 => ?_) (fun zc4 => ?_)
  · have hF := z_pos hF zc4
    refine lv_iload hx hb dL_law_2212 (lv_at hl 1 rfl) ?_
    refine lv_if_ne (tgt := 2249) hx hb dL_law_2214 (by decide) (fun zc5 => ?_) (fun zc5 => ?_)
    · have hF := z_neg hF zc5
      refine lv_goto (tgt := 2792) hx hb dL_law_2249 (by decide) ?_
      have ho := (Option.some.inj hF).symm
      subst ho
      refine W.widen (k := cells + 51) (n := slots + 306) (by omega) (by omega) ?_
      exact kj _ _ _ (lv_sub hl [2, 3, 4, 5, 6, 7] rfl) hP hD hS
    · have hF := z_pos hF zc5
      refine lv_aload hx hb dL_law_2217 (lv_at hl 3 rfl) ?_
      refine lv_iconst (v := 0) hx hb dL_law_2219 (by decide) ?_
      refine va_dald hx hb hK hP 75 6 rfl rfl (by unfold vp_in; decide) dL_law_2220 ?_
      refine lv_dload hx hb dL_law_2221 (lv_at hl 0 rfl) ?_
      refine lv_dcmp hx hb dL_law_2223 ?_
      refine lv_if_eq (tgt := 2249) hx hb dL_law_2224 (by decide) (fun zc6 => ?_) (fun zc6 => ?_)
      · have hF := z_pos hF zc6
        refine lv_goto (tgt := 2792) hx hb dL_law_2249 (by decide) ?_
        have ho := (Option.some.inj hF).symm
        subst ho
        refine W.widen (k := cells + 51) (n := slots + 306) (by omega) (by omega) ?_
        exact kj _ _ _ (lv_sub hl [2, 3, 4, 5, 6, 7] rfl) hP hD hS
      · have hF := z_neg hF zc6
        refine lv_aload hx hb dL_law_2227 (lv_at hl 3 rfl) ?_
        refine lv_iconst (v := 0) hx hb dL_law_2229 (by decide) ?_
        refine va_dald hx hb hK hP 75 6 rfl rfl (by unfold vp_in; decide) dL_law_2230 ?_
        refine lv_aload hx hb dL_law_2231 (lv_at hl 3 rfl) ?_
        refine lv_iconst (v := 0) hx hb dL_law_2233 (by decide) ?_
        refine va_dald hx hb hK hP 75 6 rfl rfl (by unfold vp_in; decide) dL_law_2234 ?_
        refine lv_dcmp hx hb dL_law_2235 ?_
        refine lv_if_eq (tgt := 2247) hx hb dL_law_2236 (by decide) (fun zc7 => ?_) (fun zc7 => ?_)
        · have hF := z_pos hF zc7
          refine lv_iconst (v := 0) hx hb dL_law_2247 (by decide) ?_
          exact absurd hF (by simp)
        · have hF := z_neg hF zc7
          refine lv_dload hx hb dL_law_2239 (lv_at hl 0 rfl) ?_
          refine lv_dload hx hb dL_law_2241 (lv_at hl 0 rfl) ?_
          refine lv_dcmp hx hb dL_law_2243 ?_
          refine lv_if_ne (tgt := 2249) hx hb dL_law_2244 (by decide) (fun zc8 => ?_) (fun zc8 => ?_)
          · have hF := z_neg hF zc8
            refine lv_goto (tgt := 2792) hx hb dL_law_2249 (by decide) ?_
            have ho := (Option.some.inj hF).symm
            subst ho
            refine W.widen (k := cells + 51) (n := slots + 306) (by omega) (by omega) ?_
            exact kj _ _ _ (lv_sub hl [2, 3, 4, 5, 6, 7] rfl) hP hD hS
          · have hF := z_pos hF zc8
            refine lv_iconst (v := 0) hx hb dL_law_2247 (by decide) ?_
            exact absurd hF (by simp)
  · have hF := z_neg hF zc4
    refine lv_iconst (v := 0) hx hb dL_law_2210 (by decide) ?_
    exact absurd hF (by simp)
set_option maxHeartbeats 4000000 in
set_option maxRecDepth 100000 in
theorem k_law_2252 {p : Program} {e : Env} {s : State} {m : MethodId} {below : List Frame} {meth : Method} {c : Code} (l : Launch) (hl0 : l.stackTraces = false) {b L : Nat} {xs : Nat → Int32} (hx : p.tables.exec = Jvm.exec) (hb : c.code = cL_law) (hml : c.maxLocals = 9) (hown : s.vm.findClass RL = some m.cls) (hts : ∀ w ∈ wU, w.before #[Value.ref b] s = true) (hX : va_X b L xs s s.heap) (hbl : b < s.heap.size) {A : Nat → Prop} (hbA : ¬ A b) (hA : ∀ q, s.heap.size ≤ q → A q) (g : GG) (ad qd : Nat → Nat) (st : SS) (sv : SS) (isS : Int32) (hst : Nat → SS) (spare : Int32) (undo : Int32) (seen : Nat → Int32) (dbef : Int32) (drec : Int32) (ptx : Nat → Int32) (plen : Int32) (ppos : Int32) (pcnt : Int32) (cmds : Nat → CC) (stE : Int32) (stF : Int32) (lch : Nat → Int32) (llen : Int32) (jo : Nat → Int64) (jd : Nat → UInt64) (mm : Nat → Int64) (masd : Nat → Int64) (msav : Nat → Int64) (misS : Int32) (mpst : Nat → Int64) (mchg : Int32) (merr : Int32) (mfai : Int32) (mthr : Int32) (minp : Nat → Int32) (minM : Int32) (mUp : Nat → Int32) (mcar : Nat → Int32) (mcam : Nat → Int32) (mahd : Int32) (magn : Int32) (mltr : Nat → Int32) (mbeg : Nat → Int32) (mcmd : Nat → Int32) (mcmM : Int32) (mpl : Int32) (msz : Int32) (mwr : Int32) (mlin : Nat → Int32) (mliM : Int32) (hK : va_K (gD g) zCl (gT g) s) (hB : KB g A s s.heap) (fu : Nat) (i : Int32) (u : (Nat → UInt64) × Int32) (hF : G_law_2252 fu st jd mm mthr L xs i = some u) {H : Heap} {locs : List Loc} {ls : Array Slot} {cells slots : Nat} (hc : cells + 51 ≤ 603072) (hsl : slots + 306 ≤ 7170153) (hl : lv_has ls 9 [(5, .int i), (4, .ref (ad 75)), (3, .ref (ad 74)), (2, .ref (qd 0)), (1, .ref (ad 0)), (0, .ref b)]) (hP : va_P (gD g) zCl (wLaw g ad qd st sv isS hst spare undo seen dbef drec ptx plen ppos pcnt cmds stE stF lch llen jo jd mm masd msav misS mpst mchg merr mfai mthr minp minM mUp mcar mcam mahd magn mltr mbeg mcmd mcmM mpl msz mwr mlin mliM) H) (hD : va_D A (wLaw g ad qd st sv isS hst spare undo seen dbef drec ptx plen ppos pcnt cmds stE stF lch llen jo jd mm masd msav misS mpst mchg merr mfai mthr minp minM mUp mcar mcam mahd magn mltr mbeg mcmd mcmM mpl msz mwr mlin mliM)) (hS : va_S A s.heap H locs)
    (kj : ∀ (H : Heap) (locs : List Loc) (ls : Array Slot), lv_has ls 9 [(5, .int i), (4, .ref (ad 75)), (3, .ref (ad 74)), (2, .ref (qd 0)), (1, .ref (ad 0)), (0, .ref b)] → va_P (gD g) zCl (wLaw g ad qd st sv isS hst spare undo seen dbef drec ptx plen ppos pcnt cmds stE stF lch llen jo u.1 mm masd msav misS mpst mchg merr mfai u.2 minp minM mUp mcar mcam mahd magn mltr mbeg mcmd mcmM mpl msz mwr mlin mliM) H → va_D A (wLaw g ad qd st sv isS hst spare undo seen dbef drec ptx plen ppos pcnt cmds stE stF lch llen jo u.1 mm masd msav misS mpst mchg merr mfai u.2 minp minM mUp mcar mcam mahd magn mltr mbeg mcmd mcmM mpl msz mwr mlin mliM) → va_S A s.heap H locs → W p l e room_1 s m #[Value.ref b] below meth c H locs (cells + 51) (slots + 306) (lw_Z below #[Value.ref b] s) (F0 m 2792 ls [])) : W p l e room_1 s m #[Value.ref b] below meth c H locs cells slots (lw_Z below #[Value.ref b] s) (F0 m 2252 ls []) := by
  have hc : cells + 51 ≤ room_1.cells := hc
  have hsl : slots + 306 ≤ room_1.slots := hsl
  unfold G_law_2252 at hF
  refine lv_aload_n hx hb dL_law_2252 rfl (lv_at hl 4 rfl) ?_
  refine lv_aload_n hx hb dL_law_2253 rfl (lv_at hl 5 rfl) ?_
  refine lv_iload hx hb dL_law_2254 (lv_at hl 0 rfl) ?_
  refine lv_iconst (v := 1) hx hb dL_law_2256 (by decide) ?_
  refine lv_iadd hx hb dL_law_2257 ?_
  obtain ⟨zg1, hF⟩ := z_grd hF
  refine va_sld hx hb hX hbl hbA hS zg1 dL_law_2258 ?_
  refine lv_aload hx hb dL_law_2259 (lv_at hl 1 rfl) ?_
  obtain ⟨zo2, hzo2, hF⟩ := z_bind hF
  refine z_calli (fun (u : (Nat → UInt64)) => (wRootD g ad st sv isS hst spare undo seen dbef drec ptx plen ppos pcnt cmds stE stF lch llen u)) zLD (vx_runSW (As := [.ref (ad 0), .int (xs (Int32.toNatClampNeg (i + 1))), .ref (ad 75)]) (rest := []) ⟨hx, hb, hml, hown, hts⟩ (c_L_share l hl0 g ad st sv isS hst spare undo seen dbef drec ptx plen ppos pcnt cmds stE stF lch llen jd _ (xs (Int32.toNatClampNeg (i + 1))) fu _ hzo2) (vx_cwSW 3 hts (gdS mU_1023 mU_1024 mU_65 mU_1025) rfl rfl rfl (by decide +kernel) ⟨Nat.le_of_ble_eq_true rfl, Nat.le_of_ble_eq_true rfl⟩) ⟨z_blind _ _ _ _, fun U hU hW => z_pre zLD hP hD hK hB hS hA wLaw_CD wLaw_ND hU hW⟩ rfl rfl hl.1 rfl (lv_room (Nat.le_of_ble_eq_true rfl)) dL_law_2261 ⟨by omega, by omega⟩) hP hD hS hA wLaw_CD (fun _ => rfl) (fun r u H locs hw hP hD hS => ?_)
  obtain ⟨rfl, rfl⟩ := hw
  have hP : va_P (gD g) zCl (wLaw g ad qd st sv isS hst spare undo seen dbef drec ptx plen ppos pcnt cmds stE stF lch llen jo zo2.2 mm masd msav misS mpst mchg merr mfai mthr minp minM mUp mcar mcam mahd magn mltr mbeg mcmd mcmM mpl msz mwr mlin mliM) H := Eq.mp (congrArg (fun w => va_P (gD g) zCl w H) wLaw_SD) hP
  have hD : va_D A (wLaw g ad qd st sv isS hst spare undo seen dbef drec ptx plen ppos pcnt cmds stE stF lch llen jo zo2.2 mm masd msav misS mpst mchg merr mfai mthr minp minM mUp mcar mcam mahd magn mltr mbeg mcmd mcmM mpl msz mwr mlin mliM) := Eq.mp (congrArg (fun w => va_D A w) wLaw_SD) hD
  refine lv_istore (lv' := [(6, .int zo2.1), (5, .int i), (4, .ref (ad 75)), (3, .ref (ad 74)), (2, .ref (qd 0)), (1, .ref (ad 0)), (0, .ref b)]) hx hb dL_law_2264 hl (by decide) rfl (fun ls hl => ?_)
  refine lv_aload_n hx hb dL_law_2266 rfl (lv_at hl 4 rfl) ?_
  refine lv_aload_n hx hb dL_law_2267 rfl (lv_at hl 6 rfl) ?_
  refine lv_iload hx hb dL_law_2268 (lv_at hl 1 rfl) ?_
  refine lv_iconst (v := 1) hx hb dL_law_2270 (by decide) ?_
  refine lv_iadd hx hb dL_law_2271 ?_
  obtain ⟨zg3, hF⟩ := z_grd hF
  refine va_sld hx hb hX hbl hbA hS zg3 dL_law_2272 ?_
  obtain ⟨zo4, hzo4, hF⟩ := z_bind hF
  refine z_callf (fun (u : Int32) => (wModel g (qd 0) (qd 1) (qd 2) (qd 3) (qd 4) (qd 5) (qd 6) (qd 7) (qd 8) (qd 9) (qd 10) (qd 11) (qd 12) mm masd msav misS mpst mchg merr mfai u minp minM mUp mcar mcam mahd magn mltr mbeg mcmd mcmM mpl msz mwr mlin mliM)) zLM (va_runV (As := [.int (xs (Int32.toNatClampNeg (i + 1)))]) (rest := []) ⟨hx, hb, hml, hown, hts⟩ (c_X11_share l g (qd 0) (qd 1) (qd 2) (qd 3) (qd 4) (qd 5) (qd 6) (qd 7) (qd 8) (qd 9) (qd 10) (qd 11) (qd 12) mm masd msav misS mpst mchg merr mfai mthr minp minM mUp mcar mcam mahd magn mltr mbeg mcmd mcmM mpl msz mwr mlin mliM _ (xs (Int32.toNatClampNeg (i + 1))) fu _ hzo4) (cwV 1 hts (gdV mU_1600 mU_1601 mU_1602 mU_75 mU_1603) rfl rfl rfl (by decide +kernel) ⟨Nat.le_of_ble_eq_true rfl, Nat.le_of_ble_eq_true rfl⟩) ⟨z_blind _ _ _ _, va_recv hK hP (ci := 7) (q0 := 76) rfl rfl, fun U hU hW => z_pre zLM hP hD hK hB hS hA wLaw_CM wLaw_NM hU hW⟩ rfl rfl hl.1 rfl (lv_room (Nat.le_of_ble_eq_true rfl)) dL_law_2273 ⟨by omega, by omega⟩) hP hD hS hA wLaw_CM (fun _ => rfl) (fun r u H locs hw hP hD hS => ?_)
  obtain ⟨rfl, rfl⟩ := hw
  have hP : va_P (gD g) zCl (wLaw g ad qd st sv isS hst spare undo seen dbef drec ptx plen ppos pcnt cmds stE stF lch llen jo zo2.2 mm masd msav misS mpst mchg merr mfai zo4.2 minp minM mUp mcar mcam mahd magn mltr mbeg mcmd mcmM mpl msz mwr mlin mliM) H := Eq.mp (congrArg (fun w => va_P (gD g) zCl w H) wLaw_SM) hP
  have hD : va_D A (wLaw g ad qd st sv isS hst spare undo seen dbef drec ptx plen ppos pcnt cmds stE stF lch llen jo zo2.2 mm masd msav misS mpst mchg merr mfai zo4.2 minp minM mUp mcar mcam mahd magn mltr mbeg mcmd mcmM mpl msz mwr mlin mliM) := Eq.mp (congrArg (fun w => va_D A w) wLaw_SM) hD
  refine lv_fstore (lv' := [(7, .float zo4.1), (6, .int zo2.1), (5, .int i), (4, .ref (ad 75)), (3, .ref (ad 74)), (2, .ref (qd 0)), (1, .ref (ad 0)), (0, .ref b)]) hx hb dL_law_2276 hl (by decide) rfl (fun ls hl => ?_)
  refine lv_aload_n hx hb dL_law_2278 rfl (lv_at hl 5 rfl) ?_
  obtain ⟨zo5, hzo5, hF⟩ := z_bind hF
  refine z_calli (fun (_ : Unit) => (wModel g (qd 0) (qd 1) (qd 2) (qd 3) (qd 4) (qd 5) (qd 6) (qd 7) (qd 8) (qd 9) (qd 10) (qd 11) (qd 12) mm masd msav misS mpst mchg merr mfai zo4.2 minp minM mUp mcar mcam mahd magn mltr mbeg mcmd mcmM mpl msz mwr mlin mliM)) zLM (va_runV (As := []) (rest := []) ⟨hx, hb, hml, hown, hts⟩ (c_X11_thrown l g (qd 0) (qd 1) (qd 2) (qd 3) (qd 4) (qd 5) (qd 6) (qd 7) (qd 8) (qd 9) (qd 10) (qd 11) (qd 12) mm masd msav misS mpst mchg merr mfai zo4.2 minp minM mUp mcar mcam mahd magn mltr mbeg mcmd mcmM mpl msz mwr mlin mliM _ _ hzo5) (cwV 0 hts (gdV mU_1321 mU_1322 mU_1323 mU_75 mU_1324) rfl rfl rfl (by decide +kernel) ⟨Nat.le_of_ble_eq_true rfl, Nat.le_of_ble_eq_true rfl⟩) ⟨z_blind _ _ _ _, va_recv hK hP (ci := 7) (q0 := 76) rfl rfl, fun U hU hW => z_pre zLM hP hD hK hB hS hA wLaw_CM wLaw_NM hU hW⟩ rfl rfl hl.1 rfl (lv_room (Nat.le_of_ble_eq_true rfl)) dL_law_2279 ⟨by omega, by omega⟩) hP hD hS hA wLaw_CM (fun _ => rfl) (fun r u H locs hw hP hD hS => ?_)
  subst hw
  have hP : va_P (gD g) zCl (wLaw g ad qd st sv isS hst spare undo seen dbef drec ptx plen ppos pcnt cmds stE stF lch llen jo zo2.2 mm masd msav misS mpst mchg merr mfai zo4.2 minp minM mUp mcar mcam mahd magn mltr mbeg mcmd mcmM mpl msz mwr mlin mliM) H := Eq.mp (congrArg (fun w => va_P (gD g) zCl w H) wLaw_SM) hP
  have hD : va_D A (wLaw g ad qd st sv isS hst spare undo seen dbef drec ptx plen ppos pcnt cmds stE stF lch llen jo zo2.2 mm masd msav misS mpst mchg merr mfai zo4.2 minp minM mUp mcar mcam mahd magn mltr mbeg mcmd mcmM mpl msz mwr mlin mliM) := Eq.mp (congrArg (fun w => va_D A w) wLaw_SM) hD
  refine lv_iload hx hb dL_law_2282 (lv_at hl 1 rfl) ?_
  refine lv_icmp_eq (tgt := 2289) hx hb dL_law_2284 (by decide) (fun zc6 => ?_) (fun zc6 => ?_)
  · have hF := z_pos hF zc6
    refine lv_iload hx hb dL_law_2289 (lv_at hl 1 rfl) ?_
    refine lv_if_ne (tgt := 2327) hx hb dL_law_2291 (by decide) (fun zc7 => ?_) (fun zc7 => ?_)
    · have hF := z_neg hF zc7
      refine lv_goto (tgt := 2792) hx hb dL_law_2327 (by decide) ?_
      have ho := (Option.some.inj hF).symm
      subst ho
      refine W.widen (k := cells + 51) (n := slots + 306) (by omega) (by omega) ?_
      exact kj _ _ _ (lv_sub hl [2, 3, 4, 5, 6, 7] rfl) hP hD hS
    · have hF := z_pos hF zc7
      refine lv_aload hx hb dL_law_2294 (lv_at hl 3 rfl) ?_
      refine lv_iconst (v := 0) hx hb dL_law_2296 (by decide) ?_
      refine va_dald hx hb hK hP 75 6 rfl rfl (by unfold vp_in; decide) dL_law_2297 ?_
      refine lv_fload hx hb dL_law_2298 (lv_at hl 0 rfl) ?_
      obtain ⟨zg8, hF⟩ := z_grd hF
      refine lv_f2d hx hb dL_law_2300 (Classical.not_not.mp zg8) ?_
      refine lv_dcmp hx hb dL_law_2301 ?_
      refine lv_if_eq (tgt := 2327) hx hb dL_law_2302 (by decide) (fun zc9 => ?_) (fun zc9 => ?_)
      · have hF := z_pos hF zc9
        refine lv_goto (tgt := 2792) hx hb dL_law_2327 (by decide) ?_
        have ho := (Option.some.inj hF).symm
        subst ho
        refine W.widen (k := cells + 51) (n := slots + 306) (by omega) (by omega) ?_
        exact kj _ _ _ (lv_sub hl [2, 3, 4, 5, 6, 7] rfl) hP hD hS
      · have hF := z_neg hF zc9
        refine lv_aload hx hb dL_law_2305 (lv_at hl 3 rfl) ?_
        refine lv_iconst (v := 0) hx hb dL_law_2307 (by decide) ?_
        refine va_dald hx hb hK hP 75 6 rfl rfl (by unfold vp_in; decide) dL_law_2308 ?_
        refine lv_aload hx hb dL_law_2309 (lv_at hl 3 rfl) ?_
        refine lv_iconst (v := 0) hx hb dL_law_2311 (by decide) ?_
        refine va_dald hx hb hK hP 75 6 rfl rfl (by unfold vp_in; decide) dL_law_2312 ?_
        refine lv_dcmp hx hb dL_law_2313 ?_
        refine lv_if_eq (tgt := 2325) hx hb dL_law_2314 (by decide) (fun zc10 => ?_) (fun zc10 => ?_)
        · have hF := z_pos hF zc10
          refine lv_iconst (v := 0) hx hb dL_law_2325 (by decide) ?_
          exact absurd hF (by simp)
        · have hF := z_neg hF zc10
          refine lv_fload hx hb dL_law_2317 (lv_at hl 0 rfl) ?_
          refine lv_fload hx hb dL_law_2319 (lv_at hl 0 rfl) ?_
          refine lv_fcmp hx hb dL_law_2321 ?_
          refine lv_if_ne (tgt := 2327) hx hb dL_law_2322 (by decide) (fun zc11 => ?_) (fun zc11 => ?_)
          · have hF := z_neg hF zc11
            refine lv_goto (tgt := 2792) hx hb dL_law_2327 (by decide) ?_
            have ho := (Option.some.inj hF).symm
            subst ho
            refine W.widen (k := cells + 51) (n := slots + 306) (by omega) (by omega) ?_
            exact kj _ _ _ (lv_sub hl [2, 3, 4, 5, 6, 7] rfl) hP hD hS
          · have hF := z_pos hF zc11
            refine lv_iconst (v := 0) hx hb dL_law_2325 (by decide) ?_
            exact absurd hF (by simp)
  · have hF := z_neg hF zc6
    refine lv_iconst (v := 0) hx hb dL_law_2287 (by decide) ?_
    exact absurd hF (by simp)
set_option maxHeartbeats 4000000 in
set_option maxRecDepth 100000 in
theorem k_law_2330 {p : Program} {e : Env} {s : State} {m : MethodId} {below : List Frame} {meth : Method} {c : Code} (l : Launch) (hl0 : l.stackTraces = false) {b L : Nat} {xs : Nat → Int32} (hx : p.tables.exec = Jvm.exec) (hb : c.code = cL_law) (hml : c.maxLocals = 9) (hown : s.vm.findClass RL = some m.cls) (hts : ∀ w ∈ wU, w.before #[Value.ref b] s = true) (hX : va_X b L xs s s.heap) (hbl : b < s.heap.size) {A : Nat → Prop} (hbA : ¬ A b) (hA : ∀ q, s.heap.size ≤ q → A q) (g : GG) (ad qd : Nat → Nat) (st : SS) (sv : SS) (isS : Int32) (hst : Nat → SS) (spare : Int32) (undo : Int32) (seen : Nat → Int32) (dbef : Int32) (drec : Int32) (ptx : Nat → Int32) (plen : Int32) (ppos : Int32) (pcnt : Int32) (cmds : Nat → CC) (stE : Int32) (stF : Int32) (lch : Nat → Int32) (llen : Int32) (jo : Nat → Int64) (jd : Nat → UInt64) (mm : Nat → Int64) (masd : Nat → Int64) (msav : Nat → Int64) (misS : Int32) (mpst : Nat → Int64) (mchg : Int32) (merr : Int32) (mfai : Int32) (mthr : Int32) (minp : Nat → Int32) (minM : Int32) (mUp : Nat → Int32) (mcar : Nat → Int32) (mcam : Nat → Int32) (mahd : Int32) (magn : Int32) (mltr : Nat → Int32) (mbeg : Nat → Int32) (mcmd : Nat → Int32) (mcmM : Int32) (mpl : Int32) (msz : Int32) (mwr : Int32) (mlin : Nat → Int32) (mliM : Int32) (hK : va_K (gD g) zCl (gT g) s) (hB : KB g A s s.heap) (fu : Nat) (i : Int32) (u : Int32) (hF : G_law_2330 fu st mthr L xs i = some u) {H : Heap} {locs : List Loc} {ls : Array Slot} {cells slots : Nat} (hc : cells + 51 ≤ 603072) (hsl : slots + 306 ≤ 7170153) (hl : lv_has ls 9 [(5, .int i), (4, .ref (ad 75)), (3, .ref (ad 74)), (2, .ref (qd 0)), (1, .ref (ad 0)), (0, .ref b)]) (hP : va_P (gD g) zCl (wLaw g ad qd st sv isS hst spare undo seen dbef drec ptx plen ppos pcnt cmds stE stF lch llen jo jd mm masd msav misS mpst mchg merr mfai mthr minp minM mUp mcar mcam mahd magn mltr mbeg mcmd mcmM mpl msz mwr mlin mliM) H) (hD : va_D A (wLaw g ad qd st sv isS hst spare undo seen dbef drec ptx plen ppos pcnt cmds stE stF lch llen jo jd mm masd msav misS mpst mchg merr mfai mthr minp minM mUp mcar mcam mahd magn mltr mbeg mcmd mcmM mpl msz mwr mlin mliM)) (hS : va_S A s.heap H locs)
    (kj : ∀ (H : Heap) (locs : List Loc) (ls : Array Slot), lv_has ls 9 [(5, .int i), (4, .ref (ad 75)), (3, .ref (ad 74)), (2, .ref (qd 0)), (1, .ref (ad 0)), (0, .ref b)] → va_P (gD g) zCl (wLaw g ad qd st sv isS hst spare undo seen dbef drec ptx plen ppos pcnt cmds stE stF lch llen jo jd mm masd msav misS mpst mchg merr mfai u minp minM mUp mcar mcam mahd magn mltr mbeg mcmd mcmM mpl msz mwr mlin mliM) H → va_D A (wLaw g ad qd st sv isS hst spare undo seen dbef drec ptx plen ppos pcnt cmds stE stF lch llen jo jd mm masd msav misS mpst mchg merr mfai u minp minM mUp mcar mcam mahd magn mltr mbeg mcmd mcmM mpl msz mwr mlin mliM) → va_S A s.heap H locs → W p l e room_1 s m #[Value.ref b] below meth c H locs (cells + 51) (slots + 306) (lw_Z below #[Value.ref b] s) (F0 m 2792 ls [])) : W p l e room_1 s m #[Value.ref b] below meth c H locs cells slots (lw_Z below #[Value.ref b] s) (F0 m 2330 ls []) := by
  have hc : cells + 51 ≤ room_1.cells := hc
  have hsl : slots + 306 ≤ room_1.slots := hsl
  unfold G_law_2330 at hF
  refine lv_aload_n hx hb dL_law_2330 rfl (lv_at hl 4 rfl) ?_
  obtain ⟨zo1, hzo1, hF⟩ := z_bind hF
  refine z_calli (fun (_ : Unit) => (wRoot g ad st sv isS hst spare undo seen dbef drec ptx plen ppos pcnt cmds stE stF lch llen)) zRJ (va_runV (As := []) (rest := []) ⟨hx, hb, hml, hown, hts⟩ (c_X10_isConsistent l g ad st sv isS hst spare undo seen dbef drec ptx plen ppos pcnt cmds stE stF lch llen _ fu _ hzo1) (cwV 0 hts (gdV mU_334 mU_335 mU_336 mU_66 mU_337) rfl rfl rfl (by decide +kernel) ⟨Nat.le_of_ble_eq_true rfl, Nat.le_of_ble_eq_true rfl⟩) ⟨z_blind _ _ _ _, va_recv hK hP (ci := 6) (q0 := 0) rfl rfl, fun U hU hW => z_pre zRJ hP hD hK hB hS hA wLaw_CR wRootJ_N hU hW⟩ rfl rfl hl.1 rfl (lv_room (Nat.le_of_ble_eq_true rfl)) dL_law_2331 ⟨by omega, by omega⟩) hP hD hS hA wLaw_CR (fun _ => rfl) (fun r u H locs hw hP hD hS => ?_)
  subst hw
  have hP : va_P (gD g) zCl (wLaw g ad qd st sv isS hst spare undo seen dbef drec ptx plen ppos pcnt cmds stE stF lch llen jo jd mm masd msav misS mpst mchg merr mfai mthr minp minM mUp mcar mcam mahd magn mltr mbeg mcmd mcmM mpl msz mwr mlin mliM) H := Eq.mp (congrArg (fun w => va_P (gD g) zCl w H) wLaw_SR) hP
  have hD : va_D A (wLaw g ad qd st sv isS hst spare undo seen dbef drec ptx plen ppos pcnt cmds stE stF lch llen jo jd mm masd msav misS mpst mchg merr mfai mthr minp minM mUp mcar mcam mahd magn mltr mbeg mcmd mcmM mpl msz mwr mlin mliM) := Eq.mp (congrArg (fun w => va_D A w) wLaw_SR) hD
  refine lv_aload_n hx hb dL_law_2334 rfl (lv_at hl 3 rfl) ?_
  obtain ⟨zo2, hzo2, hF⟩ := z_bind hF
  refine z_calli (fun (u : Int32) => (wModel g (qd 0) (qd 1) (qd 2) (qd 3) (qd 4) (qd 5) (qd 6) (qd 7) (qd 8) (qd 9) (qd 10) (qd 11) (qd 12) mm masd msav misS mpst mchg merr mfai u minp minM mUp mcar mcam mahd magn mltr mbeg mcmd mcmM mpl msz mwr mlin mliM)) zLM (va_runV (As := []) (rest := [.int zo1]) ⟨hx, hb, hml, hown, hts⟩ (c_X11_isConsistent l g (qd 0) (qd 1) (qd 2) (qd 3) (qd 4) (qd 5) (qd 6) (qd 7) (qd 8) (qd 9) (qd 10) (qd 11) (qd 12) mm masd msav misS mpst mchg merr mfai mthr minp minM mUp mcar mcam mahd magn mltr mbeg mcmd mcmM mpl msz mwr mlin mliM _ _ hzo2) (cwV 0 hts (gdV mU_1604 mU_1605 mU_1606 mU_75 mU_1607) rfl rfl rfl (by decide +kernel) ⟨Nat.le_of_ble_eq_true rfl, Nat.le_of_ble_eq_true rfl⟩) ⟨z_blind _ _ _ _, va_recv hK hP (ci := 7) (q0 := 76) rfl rfl, fun U hU hW => z_pre zLM hP hD hK hB hS hA wLaw_CM wLaw_NM hU hW⟩ rfl rfl hl.1 rfl (lv_room (Nat.le_of_ble_eq_true rfl)) dL_law_2335 ⟨by omega, by omega⟩) hP hD hS hA wLaw_CM (fun _ => rfl) (fun r u H locs hw hP hD hS => ?_)
  obtain ⟨rfl, rfl⟩ := hw
  have hP : va_P (gD g) zCl (wLaw g ad qd st sv isS hst spare undo seen dbef drec ptx plen ppos pcnt cmds stE stF lch llen jo jd mm masd msav misS mpst mchg merr mfai zo2.2 minp minM mUp mcar mcam mahd magn mltr mbeg mcmd mcmM mpl msz mwr mlin mliM) H := Eq.mp (congrArg (fun w => va_P (gD g) zCl w H) wLaw_SM) hP
  have hD : va_D A (wLaw g ad qd st sv isS hst spare undo seen dbef drec ptx plen ppos pcnt cmds stE stF lch llen jo jd mm masd msav misS mpst mchg merr mfai zo2.2 minp minM mUp mcar mcam mahd magn mltr mbeg mcmd mcmM mpl msz mwr mlin mliM) := Eq.mp (congrArg (fun w => va_D A w) wLaw_SM) hD
  refine lv_icmp_eq (tgt := 2792) hx hb dL_law_2338 (by decide) (fun zc3 => ?_) (fun zc3 => ?_)
  · have hF := z_pos hF zc3
    have ho := (Option.some.inj hF).symm
    subst ho
    refine W.widen (k := cells + 51) (n := slots + 306) (by omega) (by omega) ?_
    exact kj _ _ _ (lv_sub hl [0, 1, 2, 3, 4, 5] rfl) hP hD hS
  · have hF := z_neg hF zc3
    refine lv_iconst (v := 0) hx hb dL_law_2341 (by decide) ?_
    exact absurd hF (by simp)
set_option maxHeartbeats 4000000 in
set_option maxRecDepth 100000 in
theorem k_law_2343 {p : Program} {e : Env} {s : State} {m : MethodId} {below : List Frame} {meth : Method} {c : Code} (l : Launch) (hl0 : l.stackTraces = false) {b L : Nat} {xs : Nat → Int32} (hx : p.tables.exec = Jvm.exec) (hb : c.code = cL_law) (hml : c.maxLocals = 9) (hown : s.vm.findClass RL = some m.cls) (hts : ∀ w ∈ wU, w.before #[Value.ref b] s = true) (hX : va_X b L xs s s.heap) (hbl : b < s.heap.size) {A : Nat → Prop} (hbA : ¬ A b) (hA : ∀ q, s.heap.size ≤ q → A q) (g : GG) (ad qd : Nat → Nat) (st : SS) (sv : SS) (isS : Int32) (hst : Nat → SS) (spare : Int32) (undo : Int32) (seen : Nat → Int32) (dbef : Int32) (drec : Int32) (ptx : Nat → Int32) (plen : Int32) (ppos : Int32) (pcnt : Int32) (cmds : Nat → CC) (stE : Int32) (stF : Int32) (lch : Nat → Int32) (llen : Int32) (jo : Nat → Int64) (jd : Nat → UInt64) (mm : Nat → Int64) (masd : Nat → Int64) (msav : Nat → Int64) (misS : Int32) (mpst : Nat → Int64) (mchg : Int32) (merr : Int32) (mfai : Int32) (mthr : Int32) (minp : Nat → Int32) (minM : Int32) (mUp : Nat → Int32) (mcar : Nat → Int32) (mcam : Nat → Int32) (mahd : Int32) (magn : Int32) (mltr : Nat → Int32) (mbeg : Nat → Int32) (mcmd : Nat → Int32) (mcmM : Int32) (mpl : Int32) (msz : Int32) (mwr : Int32) (mlin : Nat → Int32) (mliM : Int32) (hK : va_K (gD g) zCl (gT g) s) (hB : KB g A s s.heap) (i : Int32) (u : (Nat → Int32) × Int32 × (Nat → Int64) × Int32 × (Nat → Int32) × Int32) (hF : G_law_2343 ptx plen jo mthr minp minM L xs i = some u) {H : Heap} {locs : List Loc} {ls : Array Slot} {cells slots : Nat} (hc : cells + 51 ≤ 603072) (hsl : slots + 306 ≤ 7170153) (hl : lv_has ls 9 [(5, .int i), (4, .ref (ad 75)), (3, .ref (ad 74)), (2, .ref (qd 0)), (1, .ref (ad 0)), (0, .ref b)]) (hP : va_P (gD g) zCl (wLaw g ad qd st sv isS hst spare undo seen dbef drec ptx plen ppos pcnt cmds stE stF lch llen jo jd mm masd msav misS mpst mchg merr mfai mthr minp minM mUp mcar mcam mahd magn mltr mbeg mcmd mcmM mpl msz mwr mlin mliM) H) (hD : va_D A (wLaw g ad qd st sv isS hst spare undo seen dbef drec ptx plen ppos pcnt cmds stE stF lch llen jo jd mm masd msav misS mpst mchg merr mfai mthr minp minM mUp mcar mcam mahd magn mltr mbeg mcmd mcmM mpl msz mwr mlin mliM)) (hS : va_S A s.heap H locs)
    (kj : ∀ (H : Heap) (locs : List Loc) (ls : Array Slot), lv_has ls 9 [(5, .int i), (4, .ref (ad 75)), (3, .ref (ad 74)), (2, .ref (qd 0)), (1, .ref (ad 0)), (0, .ref b)] → va_P (gD g) zCl (wLaw g ad qd st sv isS hst spare undo seen dbef drec u.1 u.2.1 ppos pcnt cmds stE stF lch llen u.2.2.1 jd mm masd msav misS mpst mchg merr mfai u.2.2.2.1 u.2.2.2.2.1 u.2.2.2.2.2 mUp mcar mcam mahd magn mltr mbeg mcmd mcmM mpl msz mwr mlin mliM) H → va_D A (wLaw g ad qd st sv isS hst spare undo seen dbef drec u.1 u.2.1 ppos pcnt cmds stE stF lch llen u.2.2.1 jd mm masd msav misS mpst mchg merr mfai u.2.2.2.1 u.2.2.2.2.1 u.2.2.2.2.2 mUp mcar mcam mahd magn mltr mbeg mcmd mcmM mpl msz mwr mlin mliM) → va_S A s.heap H locs → W p l e room_1 s m #[Value.ref b] below meth c H locs (cells + 51) (slots + 306) (lw_Z below #[Value.ref b] s) (F0 m 2792 ls [])) : W p l e room_1 s m #[Value.ref b] below meth c H locs cells slots (lw_Z below #[Value.ref b] s) (F0 m 2343 ls []) := by
  have hc : cells + 51 ≤ room_1.cells := hc
  have hsl : slots + 306 ≤ room_1.slots := hsl
  unfold G_law_2343 at hF
  refine lv_aload_n hx hb dL_law_2343 rfl (lv_at hl 4 rfl) ?_
  refine lv_aload_n hx hb dL_law_2344 rfl (lv_at hl 5 rfl) ?_
  refine lv_iload hx hb dL_law_2345 (lv_at hl 0 rfl) ?_
  refine lv_iconst (v := 1) hx hb dL_law_2347 (by decide) ?_
  refine lv_iadd hx hb dL_law_2348 ?_
  obtain ⟨zg1, hF⟩ := z_grd hF
  refine va_sld hx hb hX hbl hbA hS zg1 dL_law_2349 ?_
  refine lv_i2c (v := (zchar (xs (Int32.toNatClampNeg (i + 1))))) hx hb dL_law_2350 rfl ?_
  refine lv_aload_n hx hb dL_law_2351 rfl (lv_at hl 2 rfl) ?_
  obtain ⟨zo2, hzo2, hF⟩ := z_bind hF
  refine z_calli (fun (u : (Nat → Int32) × Int32 × (Nat → Int64)) => (wRootJ g ad st sv isS hst spare undo seen dbef drec u.1 u.2.1 ppos pcnt cmds stE stF lch llen u.2.2)) zLJ (vx_runSW (As := [.ref (ad 0), .int (zchar (xs (Int32.toNatClampNeg (i + 1)))), .ref (ad 74)]) (rest := []) ⟨hx, hb, hml, hown, hts⟩ (c_L_append l hl0 g ad st sv isS hst spare undo seen dbef drec ptx plen ppos pcnt cmds stE stF lch llen jo _ (zchar (xs (Int32.toNatClampNeg (i + 1)))) _ hzo2) (vx_cwSW 3 hts (gdS mU_1031 mU_1032 mU_65 mU_1033) rfl rfl rfl (by decide +kernel) ⟨Nat.le_of_ble_eq_true rfl, Nat.le_of_ble_eq_true rfl⟩) ⟨z_blind _ _ _ _, fun U hU hW => z_pre zLJ hP hD hK hB hS hA wLaw_CJ wLaw_NJ hU hW⟩ rfl rfl hl.1 rfl (lv_room (Nat.le_of_ble_eq_true rfl)) dL_law_2352 ⟨by omega, by omega⟩) hP hD hS hA wLaw_CJ (fun _ => rfl) (fun r u H locs hw hP hD hS => ?_)
  obtain ⟨rfl, rfl⟩ := hw
  have hP : va_P (gD g) zCl (wLaw g ad qd st sv isS hst spare undo seen dbef drec zo2.2.1 zo2.2.2.1 ppos pcnt cmds stE stF lch llen zo2.2.2.2 jd mm masd msav misS mpst mchg merr mfai mthr minp minM mUp mcar mcam mahd magn mltr mbeg mcmd mcmM mpl msz mwr mlin mliM) H := Eq.mp (congrArg (fun w => va_P (gD g) zCl w H) wLaw_SJ) hP
  have hD : va_D A (wLaw g ad qd st sv isS hst spare undo seen dbef drec zo2.2.1 zo2.2.2.1 ppos pcnt cmds stE stF lch llen zo2.2.2.2 jd mm masd msav misS mpst mchg merr mfai mthr minp minM mUp mcar mcam mahd magn mltr mbeg mcmd mcmM mpl msz mwr mlin mliM) := Eq.mp (congrArg (fun w => va_D A w) wLaw_SJ) hD
  refine lv_istore (lv' := [(6, .int zo2.1), (5, .int i), (4, .ref (ad 75)), (3, .ref (ad 74)), (2, .ref (qd 0)), (1, .ref (ad 0)), (0, .ref b)]) hx hb dL_law_2355 hl (by decide) rfl (fun ls hl => ?_)
  refine lv_aload_n hx hb dL_law_2357 rfl (lv_at hl 4 rfl) ?_
  refine lv_aload_n hx hb dL_law_2358 rfl (lv_at hl 6 rfl) ?_
  refine lv_iload hx hb dL_law_2359 (lv_at hl 1 rfl) ?_
  refine lv_iconst (v := 1) hx hb dL_law_2361 (by decide) ?_
  refine lv_iadd hx hb dL_law_2362 ?_
  obtain ⟨zg3, hF⟩ := z_grd hF
  refine va_sld hx hb hX hbl hbA hS zg3 dL_law_2363 ?_
  refine lv_i2c (v := (zchar (xs (Int32.toNatClampNeg (i + 1))))) hx hb dL_law_2364 rfl ?_
  obtain ⟨zo4, hzo4, hF⟩ := z_bind hF
  refine z_calli (fun (u : Int32 × (Nat → Int32) × Int32) => (wModel g (qd 0) (qd 1) (qd 2) (qd 3) (qd 4) (qd 5) (qd 6) (qd 7) (qd 8) (qd 9) (qd 10) (qd 11) (qd 12) mm masd msav misS mpst mchg merr mfai u.1 u.2.1 u.2.2 mUp mcar mcam mahd magn mltr mbeg mcmd mcmM mpl msz mwr mlin mliM)) zLM (va_runV (As := [.int (zchar (xs (Int32.toNatClampNeg (i + 1))))]) (rest := []) ⟨hx, hb, hml, hown, hts⟩ (c_X11_append l g (qd 0) (qd 1) (qd 2) (qd 3) (qd 4) (qd 5) (qd 6) (qd 7) (qd 8) (qd 9) (qd 10) (qd 11) (qd 12) mm masd msav misS mpst mchg merr mfai mthr minp minM mUp mcar mcam mahd magn mltr mbeg mcmd mcmM mpl msz mwr mlin mliM _ (zchar (xs (Int32.toNatClampNeg (i + 1)))) _ hzo4) (cwV 1 hts (gdV mU_1608 mU_1609 mU_1610 mU_75 mU_1611) rfl rfl rfl (by decide +kernel) ⟨Nat.le_of_ble_eq_true rfl, Nat.le_of_ble_eq_true rfl⟩) ⟨z_blind _ _ _ _, va_recv hK hP (ci := 7) (q0 := 76) rfl rfl, fun U hU hW => z_pre zLM hP hD hK hB hS hA wLaw_CM wLaw_NM hU hW⟩ rfl rfl hl.1 rfl (lv_room (Nat.le_of_ble_eq_true rfl)) dL_law_2365 ⟨by omega, by omega⟩) hP hD hS hA wLaw_CM (fun _ => rfl) (fun r u H locs hw hP hD hS => ?_)
  obtain ⟨rfl, rfl⟩ := hw
  have hP : va_P (gD g) zCl (wLaw g ad qd st sv isS hst spare undo seen dbef drec zo2.2.1 zo2.2.2.1 ppos pcnt cmds stE stF lch llen zo2.2.2.2 jd mm masd msav misS mpst mchg merr mfai zo4.2.1 zo4.2.2.1 zo4.2.2.2 mUp mcar mcam mahd magn mltr mbeg mcmd mcmM mpl msz mwr mlin mliM) H := Eq.mp (congrArg (fun w => va_P (gD g) zCl w H) wLaw_SM) hP
  have hD : va_D A (wLaw g ad qd st sv isS hst spare undo seen dbef drec zo2.2.1 zo2.2.2.1 ppos pcnt cmds stE stF lch llen zo2.2.2.2 jd mm masd msav misS mpst mchg merr mfai zo4.2.1 zo4.2.2.1 zo4.2.2.2 mUp mcar mcam mahd magn mltr mbeg mcmd mcmM mpl msz mwr mlin mliM) := Eq.mp (congrArg (fun w => va_D A w) wLaw_SM) hD
  refine lv_istore (lv' := [(7, .int zo4.1), (6, .int zo2.1), (5, .int i), (4, .ref (ad 75)), (3, .ref (ad 74)), (2, .ref (qd 0)), (1, .ref (ad 0)), (0, .ref b)]) hx hb dL_law_2368 hl (by decide) rfl (fun ls hl => ?_)
  refine lv_aload_n hx hb dL_law_2370 rfl (lv_at hl 5 rfl) ?_
  obtain ⟨zo5, hzo5, hF⟩ := z_bind hF
  refine z_calli (fun (_ : Unit) => (wModel g (qd 0) (qd 1) (qd 2) (qd 3) (qd 4) (qd 5) (qd 6) (qd 7) (qd 8) (qd 9) (qd 10) (qd 11) (qd 12) mm masd msav misS mpst mchg merr mfai zo4.2.1 zo4.2.2.1 zo4.2.2.2 mUp mcar mcam mahd magn mltr mbeg mcmd mcmM mpl msz mwr mlin mliM)) zLM (va_runV (As := []) (rest := []) ⟨hx, hb, hml, hown, hts⟩ (c_X11_thrown l g (qd 0) (qd 1) (qd 2) (qd 3) (qd 4) (qd 5) (qd 6) (qd 7) (qd 8) (qd 9) (qd 10) (qd 11) (qd 12) mm masd msav misS mpst mchg merr mfai zo4.2.1 zo4.2.2.1 zo4.2.2.2 mUp mcar mcam mahd magn mltr mbeg mcmd mcmM mpl msz mwr mlin mliM _ _ hzo5) (cwV 0 hts (gdV mU_1321 mU_1322 mU_1323 mU_75 mU_1324) rfl rfl rfl (by decide +kernel) ⟨Nat.le_of_ble_eq_true rfl, Nat.le_of_ble_eq_true rfl⟩) ⟨z_blind _ _ _ _, va_recv hK hP (ci := 7) (q0 := 76) rfl rfl, fun U hU hW => z_pre zLM hP hD hK hB hS hA wLaw_CM wLaw_NM hU hW⟩ rfl rfl hl.1 rfl (lv_room (Nat.le_of_ble_eq_true rfl)) dL_law_2371 ⟨by omega, by omega⟩) hP hD hS hA wLaw_CM (fun _ => rfl) (fun r u H locs hw hP hD hS => ?_)
  subst hw
  have hP : va_P (gD g) zCl (wLaw g ad qd st sv isS hst spare undo seen dbef drec zo2.2.1 zo2.2.2.1 ppos pcnt cmds stE stF lch llen zo2.2.2.2 jd mm masd msav misS mpst mchg merr mfai zo4.2.1 zo4.2.2.1 zo4.2.2.2 mUp mcar mcam mahd magn mltr mbeg mcmd mcmM mpl msz mwr mlin mliM) H := Eq.mp (congrArg (fun w => va_P (gD g) zCl w H) wLaw_SM) hP
  have hD : va_D A (wLaw g ad qd st sv isS hst spare undo seen dbef drec zo2.2.1 zo2.2.2.1 ppos pcnt cmds stE stF lch llen zo2.2.2.2 jd mm masd msav misS mpst mchg merr mfai zo4.2.1 zo4.2.2.1 zo4.2.2.2 mUp mcar mcam mahd magn mltr mbeg mcmd mcmM mpl msz mwr mlin mliM) := Eq.mp (congrArg (fun w => va_D A w) wLaw_SM) hD
  refine lv_iload hx hb dL_law_2374 (lv_at hl 1 rfl) ?_
  refine lv_icmp_eq (tgt := 2381) hx hb dL_law_2376 (by decide) (fun zc6 => ?_) (fun zc6 => ?_)
  · have hF := z_pos hF zc6
    refine lv_iload hx hb dL_law_2381 (lv_at hl 1 rfl) ?_
    refine lv_if_ne (tgt := 2398) hx hb dL_law_2383 (by decide) (fun zc7 => ?_) (fun zc7 => ?_)
    · have hF := z_neg hF zc7
      refine lv_goto (tgt := 2792) hx hb dL_law_2398 (by decide) ?_
      have ho := (Option.some.inj hF).symm
      subst ho
      refine W.widen (k := cells + 51) (n := slots + 306) (by omega) (by omega) ?_
      exact kj _ _ _ (lv_sub hl [2, 3, 4, 5, 6, 7] rfl) hP hD hS
    · have hF := z_pos hF zc7
      refine lv_aload_n hx hb dL_law_2386 rfl (lv_at hl 4 rfl) ?_
      refine lv_iconst (v := 0) hx hb dL_law_2387 (by decide) ?_
      refine va_lald hx hb hK hP 74 2 rfl rfl (by unfold vp_in; decide) dL_law_2388 ?_
      refine lv_iload hx hb dL_law_2389 (lv_at hl 0 rfl) ?_
      refine lv_i2l (v := (Int32.toInt64 zo4.1)) hx hb dL_law_2391 rfl ?_
      refine z_lcmp_eq (tgt := 2398) hx hb dL_law_2392 dL_law_2393 (by decide) (fun zc8 => ?_) (fun zc8 => ?_)
      · have hF := z_pos hF zc8
        refine lv_goto (tgt := 2792) hx hb dL_law_2398 (by decide) ?_
        have ho := (Option.some.inj hF).symm
        subst ho
        refine W.widen (k := cells + 51) (n := slots + 306) (by omega) (by omega) ?_
        exact kj _ _ _ (lv_sub hl [2, 3, 4, 5, 6, 7] rfl) hP hD hS
      · have hF := z_neg hF zc8
        refine lv_iconst (v := 0) hx hb dL_law_2396 (by decide) ?_
        exact absurd hF (by simp)
  · have hF := z_neg hF zc6
    refine lv_iconst (v := 0) hx hb dL_law_2379 (by decide) ?_
    exact absurd hF (by simp)
