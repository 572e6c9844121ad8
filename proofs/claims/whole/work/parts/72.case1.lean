set_option maxHeartbeats 4000000 in
set_option maxRecDepth 100000 in
theorem k_law_860 {p : Program} {e : Env} {s : State} {m : MethodId} {below : List Frame} {meth : Method} {c : Code} (l : Launch) (hl0 : l.stackTraces = false) {b L : Nat} {xs : Nat → Int32} (hx : p.tables.exec = Jvm.exec) (hb : c.code = cL_law) (hml : c.maxLocals = 9) (hown : s.vm.findClass RL = some m.cls) (hts : ∀ w ∈ wU, w.before #[Value.ref b] s = true) (hX : va_X b L xs s s.heap) (hbl : b < s.heap.size) {A : Nat → Prop} (hbA : ¬ A b) (hA : ∀ q, s.heap.size ≤ q → A q) (g : GG) (ad qd : Nat → Nat) (st : SS) (sv : SS) (isS : Int32) (hst : Nat → SS) (spare : Int32) (undo : Int32) (seen : Nat → Int32) (dbef : Int32) (drec : Int32) (ptx : Nat → Int32) (plen : Int32) (ppos : Int32) (pcnt : Int32) (cmds : Nat → CC) (stE : Int32) (stF : Int32) (lch : Nat → Int32) (llen : Int32) (jo : Nat → Int64) (jd : Nat → UInt64) (mm : Nat → Int64) (masd : Nat → Int64) (msav : Nat → Int64) (misS : Int32) (mpst : Nat → Int64) (mchg : Int32) (merr : Int32) (mfai : Int32) (mthr : Int32) (minp : Nat → Int32) (minM : Int32) (mUp : Nat → Int32) (mcar : Nat → Int32) (mcam : Nat → Int32) (mahd : Int32) (magn : Int32) (mltr : Nat → Int32) (mbeg : Nat → Int32) (mcmd : Nat → Int32) (mcmM : Int32) (mpl : Int32) (msz : Int32) (mwr : Int32) (mlin : Nat → Int32) (mliM : Int32) (hK : va_K (gD g) zCl (gT g) s) (hB : KB g A s s.heap) (i : Int32) (u : (Nat → Int64) × Int32) (hF : G_law_860 st jo mm mthr L xs i = some u) {H : Heap} {locs : List Loc} {ls : Array Slot} {cells slots : Nat} (hc : cells + 51 ≤ 603072) (hsl : slots + 306 ≤ 7170153) (hl : lv_has ls 9 [(5, .int i), (4, .ref (ad 75)), (3, .ref (ad 74)), (2, .ref (qd 0)), (1, .ref (ad 0)), (0, .ref b)]) (hP : va_P (gD g) zCl (wLaw g ad qd st sv isS hst spare undo seen dbef drec ptx plen ppos pcnt cmds stE stF lch llen jo jd mm masd msav misS mpst mchg merr mfai mthr minp minM mUp mcar mcam mahd magn mltr mbeg mcmd mcmM mpl msz mwr mlin mliM) H) (hD : va_D A (wLaw g ad qd st sv isS hst spare undo seen dbef drec ptx plen ppos pcnt cmds stE stF lch llen jo jd mm masd msav misS mpst mchg merr mfai mthr minp minM mUp mcar mcam mahd magn mltr mbeg mcmd mcmM mpl msz mwr mlin mliM)) (hS : va_S A s.heap H locs)
    (kj : ∀ (H : Heap) (locs : List Loc) (ls : Array Slot), lv_has ls 9 [(5, .int i), (4, .ref (ad 75)), (3, .ref (ad 74)), (2, .ref (qd 0)), (1, .ref (ad 0)), (0, .ref b)] → va_P (gD g) zCl (wLaw g ad qd st sv isS hst spare undo seen dbef drec ptx plen ppos pcnt cmds stE stF lch llen u.1 jd mm masd msav misS mpst mchg merr mfai u.2 minp minM mUp mcar mcam mahd magn mltr mbeg mcmd mcmM mpl msz mwr mlin mliM) H → va_D A (wLaw g ad qd st sv isS hst spare undo seen dbef drec ptx plen ppos pcnt cmds stE stF lch llen u.1 jd mm masd msav misS mpst mchg merr mfai u.2 minp minM mUp mcar mcam mahd magn mltr mbeg mcmd mcmM mpl msz mwr mlin mliM) → va_S A s.heap H locs → W p l e room_1 s m #[Value.ref b] below meth c H locs (cells + 51) (slots + 306) (lw_Z below #[Value.ref b] s) (F0 m 2792 ls [])) : W p l e room_1 s m #[Value.ref b] below meth c H locs cells slots (lw_Z below #[Value.ref b] s) (F0 m 860 ls []) := by
  have hc : cells + 51 ≤ room_1.cells := hc
  have hsl : slots + 306 ≤ room_1.slots := hsl
  unfold G_law_860 at hF
  refine lv_aload_n hx hb dL_law_860 rfl (lv_at hl 4 rfl) ?_
  refine lv_aload_n hx hb dL_law_861 rfl (lv_at hl 5 rfl) ?_
  refine lv_iload hx hb dL_law_862 (lv_at hl 0 rfl) ?_
  refine lv_iconst (v := 1) hx hb dL_law_864 (by decide) ?_
  refine lv_iadd hx hb dL_law_865 ?_
  obtain ⟨zg1, hF⟩ := z_grd hF
  refine va_sld hx hb hX hbl hbA hS zg1 dL_law_866 ?_
  refine lv_aload_n hx hb dL_law_867 rfl (lv_at hl 2 rfl) ?_
  obtain ⟨zo2, hzo2, hF⟩ := z_bind hF
  refine z_calli (fun (u : (Nat → Int64)) => (wRootJ g ad st sv isS hst spare undo seen dbef drec ptx plen ppos pcnt cmds stE stF lch llen u)) zLJ (vx_runSW (As := [.ref (ad 0), .int (xs (Int32.toNatClampNeg (i + 1))), .ref (ad 74)]) (rest := []) ⟨hx, hb, hml, hown, hts⟩ (c_L_numberAt l hl0 g ad st sv isS hst spare undo seen dbef drec ptx plen ppos pcnt cmds stE stF lch llen jo _ (xs (Int32.toNatClampNeg (i + 1))) _ hzo2) (vx_cwSW 3 hts (gdS mU_793 mU_794 mU_65 mU_795) rfl rfl rfl (by decide +kernel) ⟨Nat.le_of_ble_eq_true rfl, Nat.le_of_ble_eq_true rfl⟩) ⟨z_blind _ _ _ _, fun U hU hW => z_pre zLJ hP hD hK hB hS hA wLaw_CJ wLaw_NJ hU hW⟩ rfl rfl hl.1 rfl (lv_room (Nat.le_of_ble_eq_true rfl)) dL_law_868 ⟨by omega, by omega⟩) hP hD hS hA wLaw_CJ (fun _ => rfl) (fun r u H locs hw hP hD hS => ?_)
  obtain ⟨rfl, rfl⟩ := hw
  have hP : va_P (gD g) zCl (wLaw g ad qd st sv isS hst spare undo seen dbef drec ptx plen ppos pcnt cmds stE stF lch llen zo2.2 jd mm masd msav misS mpst mchg merr mfai mthr minp minM mUp mcar mcam mahd magn mltr mbeg mcmd mcmM mpl msz mwr mlin mliM) H := Eq.mp (congrArg (fun w => va_P (gD g) zCl w H) wLaw_SJ) hP
  have hD : va_D A (wLaw g ad qd st sv isS hst spare undo seen dbef drec ptx plen ppos pcnt cmds stE stF lch llen zo2.2 jd mm masd msav misS mpst mchg merr mfai mthr minp minM mUp mcar mcam mahd magn mltr mbeg mcmd mcmM mpl msz mwr mlin mliM) := Eq.mp (congrArg (fun w => va_D A w) wLaw_SJ) hD
  refine lv_istore (lv' := [(6, .int zo2.1), (5, .int i), (4, .ref (ad 75)), (3, .ref (ad 74)), (2, .ref (qd 0)), (1, .ref (ad 0)), (0, .ref b)]) hx hb dL_law_871 hl (by decide) rfl (fun ls hl => ?_)
  refine lv_aload_n hx hb dL_law_873 rfl (lv_at hl 4 rfl) ?_
  refine lv_aload_n hx hb dL_law_874 rfl (lv_at hl 6 rfl) ?_
  refine lv_iload hx hb dL_law_875 (lv_at hl 1 rfl) ?_
  refine lv_iconst (v := 1) hx hb dL_law_877 (by decide) ?_
  refine lv_iadd hx hb dL_law_878 ?_
  obtain ⟨zg3, hF⟩ := z_grd hF
  refine va_sld hx hb hX hbl hbA hS zg3 dL_law_879 ?_
  obtain ⟨zo4, hzo4, hF⟩ := z_bind hF
  refine z_calli (fun (u : Int32) => (wModel g (qd 0) (qd 1) (qd 2) (qd 3) (qd 4) (qd 5) (qd 6) (qd 7) (qd 8) (qd 9) (qd 10) (qd 11) (qd 12) mm masd msav misS mpst mchg merr mfai u minp minM mUp mcar mcam mahd magn mltr mbeg mcmd mcmM mpl msz mwr mlin mliM)) zLM (va_runV (As := [.int (xs (Int32.toNatClampNeg (i + 1)))]) (rest := []) ⟨hx, hb, hml, hown, hts⟩ (c_X11_numberAt l g (qd 0) (qd 1) (qd 2) (qd 3) (qd 4) (qd 5) (qd 6) (qd 7) (qd 8) (qd 9) (qd 10) (qd 11) (qd 12) mm masd msav misS mpst mchg merr mfai mthr minp minM mUp mcar mcam mahd magn mltr mbeg mcmd mcmM mpl msz mwr mlin mliM _ (xs (Int32.toNatClampNeg (i + 1))) _ hzo4) (cwV 1 hts (gdV mU_1469 mU_1470 mU_1471 mU_75 mU_1472) rfl rfl rfl (by decide +kernel) ⟨Nat.le_of_ble_eq_true rfl, Nat.le_of_ble_eq_true rfl⟩) ⟨z_blind _ _ _ _, va_recv hK hP (ci := 7) (q0 := 76) rfl rfl, fun U hU hW => z_pre zLM hP hD hK hB hS hA wLaw_CM wLaw_NM hU hW⟩ rfl rfl hl.1 rfl (lv_room (Nat.le_of_ble_eq_true rfl)) dL_law_880 ⟨by omega, by omega⟩) hP hD hS hA wLaw_CM (fun _ => rfl) (fun r u H locs hw hP hD hS => ?_)
  obtain ⟨rfl, rfl⟩ := hw
  have hP : va_P (gD g) zCl (wLaw g ad qd st sv isS hst spare undo seen dbef drec ptx plen ppos pcnt cmds stE stF lch llen zo2.2 jd mm masd msav misS mpst mchg merr mfai zo4.2 minp minM mUp mcar mcam mahd magn mltr mbeg mcmd mcmM mpl msz mwr mlin mliM) H := Eq.mp (congrArg (fun w => va_P (gD g) zCl w H) wLaw_SM) hP
  have hD : va_D A (wLaw g ad qd st sv isS hst spare undo seen dbef drec ptx plen ppos pcnt cmds stE stF lch llen zo2.2 jd mm masd msav misS mpst mchg merr mfai zo4.2 minp minM mUp mcar mcam mahd magn mltr mbeg mcmd mcmM mpl msz mwr mlin mliM) := Eq.mp (congrArg (fun w => va_D A w) wLaw_SM) hD
  refine lv_istore (lv' := [(7, .int zo4.1), (6, .int zo2.1), (5, .int i), (4, .ref (ad 75)), (3, .ref (ad 74)), (2, .ref (qd 0)), (1, .ref (ad 0)), (0, .ref b)]) hx hb dL_law_883 hl (by decide) rfl (fun ls hl => ?_)
  refine lv_aload_n hx hb dL_law_885 rfl (lv_at hl 5 rfl) ?_
  obtain ⟨zo5, hzo5, hF⟩ := z_bind hF
  refine z_calli (fun (_ : Unit) => (wModel g (qd 0) (qd 1) (qd 2) (qd 3) (qd 4) (qd 5) (qd 6) (qd 7) (qd 8) (qd 9) (qd 10) (qd 11) (qd 12) mm masd msav misS mpst mchg merr mfai zo4.2 minp minM mUp mcar mcam mahd magn mltr mbeg mcmd mcmM mpl msz mwr mlin mliM)) zLM (va_runV (As := []) (rest := []) ⟨hx, hb, hml, hown, hts⟩ (c_X11_thrown l g (qd 0) (qd 1) (qd 2) (qd 3) (qd 4) (qd 5) (qd 6) (qd 7) (qd 8) (qd 9) (qd 10) (qd 11) (qd 12) mm masd msav misS mpst mchg merr mfai zo4.2 minp minM mUp mcar mcam mahd magn mltr mbeg mcmd mcmM mpl msz mwr mlin mliM _ _ hzo5) (cwV 0 hts (gdV mU_1321 mU_1322 mU_1323 mU_75 mU_1324) rfl rfl rfl (by decide +kernel) ⟨Nat.le_of_ble_eq_true rfl, Nat.le_of_ble_eq_true rfl⟩) ⟨z_blind _ _ _ _, va_recv hK hP (ci := 7) (q0 := 76) rfl rfl, fun U hU hW => z_pre zLM hP hD hK hB hS hA wLaw_CM wLaw_NM hU hW⟩ rfl rfl hl.1 rfl (lv_room (Nat.le_of_ble_eq_true rfl)) dL_law_886 ⟨by omega, by omega⟩) hP hD hS hA wLaw_CM (fun _ => rfl) (fun r u H locs hw hP hD hS => ?_)
  subst hw
  have hP : va_P (gD g) zCl (wLaw g ad qd st sv isS hst spare undo seen dbef drec ptx plen ppos pcnt cmds stE stF lch llen zo2.2 jd mm masd msav misS mpst mchg merr mfai zo4.2 minp minM mUp mcar mcam mahd magn mltr mbeg mcmd mcmM mpl msz mwr mlin mliM) H := Eq.mp (congrArg (fun w => va_P (gD g) zCl w H) wLaw_SM) hP
  have hD : va_D A (wLaw g ad qd st sv isS hst spare undo seen dbef drec ptx plen ppos pcnt cmds stE stF lch llen zo2.2 jd mm masd msav misS mpst mchg merr mfai zo4.2 minp minM mUp mcar mcam mahd magn mltr mbeg mcmd mcmM mpl msz mwr mlin mliM) := Eq.mp (congrArg (fun w => va_D A w) wLaw_SM) hD
  refine lv_iload hx hb dL_law_889 (lv_at hl 1 rfl) ?_
  refine lv_icmp_eq (tgt := 896) hx hb dL_law_891 (by decide) (fun zc6 => ?_) (fun zc6 => ?_)
  · have hF := z_pos hF zc6
    refine lv_iload hx hb dL_law_896 (lv_at hl 1 rfl) ?_
    refine lv_if_ne (tgt := 913) hx hb dL_law_898 (by decide) (fun zc7 => ?_) (fun zc7 => ?_)
    · have hF := z_neg hF zc7
      refine lv_goto (tgt := 2792) hx hb dL_law_913 (by decide) ?_
      have ho := (Option.some.inj hF).symm
      subst ho
      refine W.widen (k := cells + 51) (n := slots + 306) (by omega) (by omega) ?_
      exact kj _ _ _ (lv_sub hl [2, 3, 4, 5, 6, 7] rfl) hP hD hS
    · have hF := z_pos hF zc7
      refine lv_aload_n hx hb dL_law_901 rfl (lv_at hl 4 rfl) ?_
      refine lv_iconst (v := 0) hx hb dL_law_902 (by decide) ?_
      refine va_lald hx hb hK hP 74 2 rfl rfl (by unfold vp_in; decide) dL_law_903 ?_
      refine lv_iload hx hb dL_law_904 (lv_at hl 0 rfl) ?_
      refine lv_i2l (v := (Int32.toInt64 zo4.1)) hx hb dL_law_906 rfl ?_
      refine z_lcmp_eq (tgt := 913) hx hb dL_law_907 dL_law_908 (by decide) (fun zc8 => ?_) (fun zc8 => ?_)
      · have hF := z_pos hF zc8
        refine lv_goto (tgt := 2792) hx hb dL_law_913 (by decide) ?_
        have ho := (Option.some.inj hF).symm
        subst ho
        refine W.widen (k := cells + 51) (n := slots + 306) (by omega) (by omega) ?_
        exact kj _ _ _ (lv_sub hl [2, 3, 4, 5, 6, 7] rfl) hP hD hS
      · have hF := z_neg hF zc8
        refine lv_iconst (v := 0) hx hb dL_law_911 (by decide) ?_
        exact absurd hF (by simp)
  · have hF := z_neg hF zc6
    refine lv_iconst (v := 0) hx hb dL_law_894 (by decide) ?_
    exact absurd hF (by simp)
set_option maxHeartbeats 4000000 in
set_option maxRecDepth 100000 in
theorem k_law_916 {p : Program} {e : Env} {s : State} {m : MethodId} {below : List Frame} {meth : Method} {c : Code} (l : Launch) (hl0 : l.stackTraces = false) {b L : Nat} {xs : Nat → Int32} (hx : p.tables.exec = Jvm.exec) (hb : c.code = cL_law) (hml : c.maxLocals = 9) (hown : s.vm.findClass RL = some m.cls) (hts : ∀ w ∈ wU, w.before #[Value.ref b] s = true) (hX : va_X b L xs s s.heap) (hbl : b < s.heap.size) {A : Nat → Prop} (hbA : ¬ A b) (hA : ∀ q, s.heap.size ≤ q → A q) (g : GG) (ad qd : Nat → Nat) (st : SS) (sv : SS) (isS : Int32) (hst : Nat → SS) (spare : Int32) (undo : Int32) (seen : Nat → Int32) (dbef : Int32) (drec : Int32) (ptx : Nat → Int32) (plen : Int32) (ppos : Int32) (pcnt : Int32) (cmds : Nat → CC) (stE : Int32) (stF : Int32) (lch : Nat → Int32) (llen : Int32) (jo : Nat → Int64) (jd : Nat → UInt64) (mm : Nat → Int64) (masd : Nat → Int64) (msav : Nat → Int64) (misS : Int32) (mpst : Nat → Int64) (mchg : Int32) (merr : Int32) (mfai : Int32) (mthr : Int32) (minp : Nat → Int32) (minM : Int32) (mUp : Nat → Int32) (mcar : Nat → Int32) (mcam : Nat → Int32) (mahd : Int32) (magn : Int32) (mltr : Nat → Int32) (mbeg : Nat → Int32) (mcmd : Nat → Int32) (mcmM : Int32) (mpl : Int32) (msz : Int32) (mwr : Int32) (mlin : Nat → Int32) (mliM : Int32) (hK : va_K (gD g) zCl (gT g) s) (hB : KB g A s s.heap) (fu : Nat) (i : Int32) (u : (Nat → Int64) × Int32) (hF : G_law_916 fu st jo mm mthr L xs i = some u) {H : Heap} {locs : List Loc} {ls : Array Slot} {cells slots : Nat} (hc : cells + 51 ≤ 603072) (hsl : slots + 306 ≤ 7170153) (hl : lv_has ls 9 [(5, .int i), (4, .ref (ad 75)), (3, .ref (ad 74)), (2, .ref (qd 0)), (1, .ref (ad 0)), (0, .ref b)]) (hP : va_P (gD g) zCl (wLaw g ad qd st sv isS hst spare undo seen dbef drec ptx plen ppos pcnt cmds stE stF lch llen jo jd mm masd msav misS mpst mchg merr mfai mthr minp minM mUp mcar mcam mahd magn mltr mbeg mcmd mcmM mpl msz mwr mlin mliM) H) (hD : va_D A (wLaw g ad qd st sv isS hst spare undo seen dbef drec ptx plen ppos pcnt cmds stE stF lch llen jo jd mm masd msav misS mpst mchg merr mfai mthr minp minM mUp mcar mcam mahd magn mltr mbeg mcmd mcmM mpl msz mwr mlin mliM)) (hS : va_S A s.heap H locs)
    (kj : ∀ (H : Heap) (locs : List Loc) (ls : Array Slot), lv_has ls 9 [(5, .int i), (4, .ref (ad 75)), (3, .ref (ad 74)), (2, .ref (qd 0)), (1, .ref (ad 0)), (0, .ref b)] → va_P (gD g) zCl (wLaw g ad qd st sv isS hst spare undo seen dbef drec ptx plen ppos pcnt cmds stE stF lch llen u.1 jd mm masd msav misS mpst mchg merr mfai u.2 minp minM mUp mcar mcam mahd magn mltr mbeg mcmd mcmM mpl msz mwr mlin mliM) H → va_D A (wLaw g ad qd st sv isS hst spare undo seen dbef drec ptx plen ppos pcnt cmds stE stF lch llen u.1 jd mm masd msav misS mpst mchg merr mfai u.2 minp minM mUp mcar mcam mahd magn mltr mbeg mcmd mcmM mpl msz mwr mlin mliM) → va_S A s.heap H locs → W p l e room_1 s m #[Value.ref b] below meth c H locs (cells + 51) (slots + 306) (lw_Z below #[Value.ref b] s) (F0 m 2792 ls [])) : W p l e room_1 s m #[Value.ref b] below meth c H locs cells slots (lw_Z below #[Value.ref b] s) (F0 m 916 ls []) := by
  have hc : cells + 51 ≤ room_1.cells := hc
  have hsl : slots + 306 ≤ room_1.slots := hsl
  unfold G_law_916 at hF
  refine lv_aload_n hx hb dL_law_916 rfl (lv_at hl 4 rfl) ?_
  refine lv_aload_n hx hb dL_law_917 rfl (lv_at hl 5 rfl) ?_
  refine lv_iload hx hb dL_law_918 (lv_at hl 0 rfl) ?_
  refine lv_iconst (v := 1) hx hb dL_law_920 (by decide) ?_
  refine lv_iadd hx hb dL_law_921 ?_
  obtain ⟨zg1, hF⟩ := z_grd hF
  refine va_sld hx hb hX hbl hbA hS zg1 dL_law_922 ?_
  refine lv_aload_n hx hb dL_law_923 rfl (lv_at hl 2 rfl) ?_
  obtain ⟨zo2, hzo2, hF⟩ := z_bind hF
  refine z_calli (fun (u : (Nat → Int64)) => (wRootJ g ad st sv isS hst spare undo seen dbef drec ptx plen ppos pcnt cmds stE stF lch llen u)) zLJ (vx_runSW (As := [.ref (ad 0), .int (xs (Int32.toNatClampNeg (i + 1))), .ref (ad 74)]) (rest := []) ⟨hx, hb, hml, hown, hts⟩ (c_L_value l hl0 g ad st sv isS hst spare undo seen dbef drec ptx plen ppos pcnt cmds stE stF lch llen jo _ (xs (Int32.toNatClampNeg (i + 1))) fu _ hzo2) (vx_cwSW 3 hts (gdS mU_837 mU_838 mU_65 mU_839) rfl rfl rfl (by decide +kernel) ⟨Nat.le_of_ble_eq_true rfl, Nat.le_of_ble_eq_true rfl⟩) ⟨z_blind _ _ _ _, fun U hU hW => z_pre zLJ hP hD hK hB hS hA wLaw_CJ wLaw_NJ hU hW⟩ rfl rfl hl.1 rfl (lv_room (Nat.le_of_ble_eq_true rfl)) dL_law_924 ⟨by omega, by omega⟩) hP hD hS hA wLaw_CJ (fun _ => rfl) (fun r u H locs hw hP hD hS => ?_)
  obtain ⟨rfl, rfl⟩ := hw
  have hP : va_P (gD g) zCl (wLaw g ad qd st sv isS hst spare undo seen dbef drec ptx plen ppos pcnt cmds stE stF lch llen zo2.2 jd mm masd msav misS mpst mchg merr mfai mthr minp minM mUp mcar mcam mahd magn mltr mbeg mcmd mcmM mpl msz mwr mlin mliM) H := Eq.mp (congrArg (fun w => va_P (gD g) zCl w H) wLaw_SJ) hP
  have hD : va_D A (wLaw g ad qd st sv isS hst spare undo seen dbef drec ptx plen ppos pcnt cmds stE stF lch llen zo2.2 jd mm masd msav misS mpst mchg merr mfai mthr minp minM mUp mcar mcam mahd magn mltr mbeg mcmd mcmM mpl msz mwr mlin mliM) := Eq.mp (congrArg (fun w => va_D A w) wLaw_SJ) hD
  refine lv_istore (lv' := [(6, .int zo2.1), (5, .int i), (4, .ref (ad 75)), (3, .ref (ad 74)), (2, .ref (qd 0)), (1, .ref (ad 0)), (0, .ref b)]) hx hb dL_law_927 hl (by decide) rfl (fun ls hl => ?_)
  refine lv_aload_n hx hb dL_law_929 rfl (lv_at hl 4 rfl) ?_
  refine lv_aload_n hx hb dL_law_930 rfl (lv_at hl 6 rfl) ?_
  refine lv_iload hx hb dL_law_931 (lv_at hl 1 rfl) ?_
  refine lv_iconst (v := 1) hx hb dL_law_933 (by decide) ?_
  refine lv_iadd hx hb dL_law_934 ?_
  obtain ⟨zg3, hF⟩ := z_grd hF
  refine va_sld hx hb hX hbl hbA hS zg3 dL_law_935 ?_
  obtain ⟨zo4, hzo4, hF⟩ := z_bind hF
  refine z_calll (fun (u : Int32) => (wModel g (qd 0) (qd 1) (qd 2) (qd 3) (qd 4) (qd 5) (qd 6) (qd 7) (qd 8) (qd 9) (qd 10) (qd 11) (qd 12) mm masd msav misS mpst mchg merr mfai u minp minM mUp mcar mcam mahd magn mltr mbeg mcmd mcmM mpl msz mwr mlin mliM)) zLM (va_runV (As := [.int (xs (Int32.toNatClampNeg (i + 1)))]) (rest := []) ⟨hx, hb, hml, hown, hts⟩ (c_X11_value l g (qd 0) (qd 1) (qd 2) (qd 3) (qd 4) (qd 5) (qd 6) (qd 7) (qd 8) (qd 9) (qd 10) (qd 11) (qd 12) mm masd msav misS mpst mchg merr mfai mthr minp minM mUp mcar mcam mahd magn mltr mbeg mcmd mcmM mpl msz mwr mlin mliM _ (xs (Int32.toNatClampNeg (i + 1))) fu _ hzo4) (cwV 1 hts (gdV mU_1473 mU_1474 mU_1475 mU_75 mU_1476) rfl rfl rfl (by decide +kernel) ⟨Nat.le_of_ble_eq_true rfl, Nat.le_of_ble_eq_true rfl⟩) ⟨z_blind _ _ _ _, va_recv hK hP (ci := 7) (q0 := 76) rfl rfl, fun U hU hW => z_pre zLM hP hD hK hB hS hA wLaw_CM wLaw_NM hU hW⟩ rfl rfl hl.1 rfl (lv_room (Nat.le_of_ble_eq_true rfl)) dL_law_936 ⟨by omega, by omega⟩) hP hD hS hA wLaw_CM (fun _ => rfl) (fun r u H locs hw hP hD hS => ?_)
  obtain ⟨rfl, rfl⟩ := hw
  have hP : va_P (gD g) zCl (wLaw g ad qd st sv isS hst spare undo seen dbef drec ptx plen ppos pcnt cmds stE stF lch llen zo2.2 jd mm masd msav misS mpst mchg merr mfai zo4.2 minp minM mUp mcar mcam mahd magn mltr mbeg mcmd mcmM mpl msz mwr mlin mliM) H := Eq.mp (congrArg (fun w => va_P (gD g) zCl w H) wLaw_SM) hP
  have hD : va_D A (wLaw g ad qd st sv isS hst spare undo seen dbef drec ptx plen ppos pcnt cmds stE stF lch llen zo2.2 jd mm masd msav misS mpst mchg merr mfai zo4.2 minp minM mUp mcar mcam mahd magn mltr mbeg mcmd mcmM mpl msz mwr mlin mliM) := Eq.mp (congrArg (fun w => va_D A w) wLaw_SM) hD
  refine lv_lstore (lv' := [(7, .long zo4.1), (6, .int zo2.1), (5, .int i), (4, .ref (ad 75)), (3, .ref (ad 74)), (2, .ref (qd 0)), (1, .ref (ad 0)), (0, .ref b)]) hx hb dL_law_939 hl (by decide) rfl (fun ls hl => ?_)
  refine lv_aload_n hx hb dL_law_941 rfl (lv_at hl 5 rfl) ?_
  obtain ⟨zo5, hzo5, hF⟩ := z_bind hF
  refine z_calli (fun (_ : Unit) => (wModel g (qd 0) (qd 1) (qd 2) (qd 3) (qd 4) (qd 5) (qd 6) (qd 7) (qd 8) (qd 9) (qd 10) (qd 11) (qd 12) mm masd msav misS mpst mchg merr mfai zo4.2 minp minM mUp mcar mcam mahd magn mltr mbeg mcmd mcmM mpl msz mwr mlin mliM)) zLM (va_runV (As := []) (rest := []) ⟨hx, hb, hml, hown, hts⟩ (c_X11_thrown l g (qd 0) (qd 1) (qd 2) (qd 3) (qd 4) (qd 5) (qd 6) (qd 7) (qd 8) (qd 9) (qd 10) (qd 11) (qd 12) mm masd msav misS mpst mchg merr mfai zo4.2 minp minM mUp mcar mcam mahd magn mltr mbeg mcmd mcmM mpl msz mwr mlin mliM _ _ hzo5) (cwV 0 hts (gdV mU_1321 mU_1322 mU_1323 mU_75 mU_1324) rfl rfl rfl (by decide +kernel) ⟨Nat.le_of_ble_eq_true rfl, Nat.le_of_ble_eq_true rfl⟩) ⟨z_blind _ _ _ _, va_recv hK hP (ci := 7) (q0 := 76) rfl rfl, fun U hU hW => z_pre zLM hP hD hK hB hS hA wLaw_CM wLaw_NM hU hW⟩ rfl rfl hl.1 rfl (lv_room (Nat.le_of_ble_eq_true rfl)) dL_law_942 ⟨by omega, by omega⟩) hP hD hS hA wLaw_CM (fun _ => rfl) (fun r u H locs hw hP hD hS => ?_)
  subst hw
  have hP : va_P (gD g) zCl (wLaw g ad qd st sv isS hst spare undo seen dbef drec ptx plen ppos pcnt cmds stE stF lch llen zo2.2 jd mm masd msav misS mpst mchg merr mfai zo4.2 minp minM mUp mcar mcam mahd magn mltr mbeg mcmd mcmM mpl msz mwr mlin mliM) H := Eq.mp (congrArg (fun w => va_P (gD g) zCl w H) wLaw_SM) hP
  have hD : va_D A (wLaw g ad qd st sv isS hst spare undo seen dbef drec ptx plen ppos pcnt cmds stE stF lch llen zo2.2 jd mm masd msav misS mpst mchg merr mfai zo4.2 minp minM mUp mcar mcam mahd magn mltr mbeg mcmd mcmM mpl msz mwr mlin mliM) := Eq.mp (congrArg (fun w => va_D A w) wLaw_SM) hD
  refine lv_iload hx hb dL_law_945 (lv_at hl 1 rfl) ?_
  refine lv_icmp_eq (tgt := 952) hx hb dL_law_947 (by decide) (fun zc6 => ?_) (fun zc6 => ?_)
  · have hF := z_pos hF zc6
    refine lv_iload hx hb dL_law_952 (lv_at hl 1 rfl) ?_
    refine lv_if_ne (tgt := 968) hx hb dL_law_954 (by decide) (fun zc7 => ?_) (fun zc7 => ?_)
    · have hF := z_neg hF zc7
      refine lv_goto (tgt := 2792) hx hb dL_law_968 (by decide) ?_
      have ho := (Option.some.inj hF).symm
      subst ho
      refine W.widen (k := cells + 51) (n := slots + 306) (by omega) (by omega) ?_
      exact kj _ _ _ (lv_sub hl [2, 3, 4, 5, 6, 7] rfl) hP hD hS
    · have hF := z_pos hF zc7
      refine lv_aload_n hx hb dL_law_957 rfl (lv_at hl 4 rfl) ?_
      refine lv_iconst (v := 0) hx hb dL_law_958 (by decide) ?_
      refine va_lald hx hb hK hP 74 2 rfl rfl (by unfold vp_in; decide) dL_law_959 ?_
      refine lv_lload hx hb dL_law_960 (lv_at hl 0 rfl) ?_
      refine z_lcmp_eq (tgt := 968) hx hb dL_law_962 dL_law_963 (by decide) (fun zc8 => ?_) (fun zc8 => ?_)
      · have hF := z_pos hF zc8
        refine lv_goto (tgt := 2792) hx hb dL_law_968 (by decide) ?_
        have ho := (Option.some.inj hF).symm
        subst ho
        refine W.widen (k := cells + 51) (n := slots + 306) (by omega) (by omega) ?_
        exact kj _ _ _ (lv_sub hl [2, 3, 4, 5, 6, 7] rfl) hP hD hS
      · have hF := z_neg hF zc8
        refine lv_iconst (v := 0) hx hb dL_law_966 (by decide) ?_
        exact absurd hF (by simp)
  · have hF := z_neg hF zc6
    refine lv_iconst (v := 0) hx hb dL_law_950 (by decide) ?_
    exact absurd hF (by simp)
set_option maxHeartbeats 4000000 in
set_option maxRecDepth 100000 in
theorem k_law_971 {p : Program} {e : Env} {s : State} {m : MethodId} {below : List Frame} {meth : Method} {c : Code} (l : Launch) (hl0 : l.stackTraces = false) {b L : Nat} {xs : Nat → Int32} (hx : p.tables.exec = Jvm.exec) (hb : c.code = cL_law) (hml : c.maxLocals = 9) (hown : s.vm.findClass RL = some m.cls) (hts : ∀ w ∈ wU, w.before #[Value.ref b] s = true) (hX : va_X b L xs s s.heap) (hbl : b < s.heap.size) {A : Nat → Prop} (hbA : ¬ A b) (hA : ∀ q, s.heap.size ≤ q → A q) (g : GG) (ad qd : Nat → Nat) (st : SS) (sv : SS) (isS : Int32) (hst : Nat → SS) (spare : Int32) (undo : Int32) (seen : Nat → Int32) (dbef : Int32) (drec : Int32) (ptx : Nat → Int32) (plen : Int32) (ppos : Int32) (pcnt : Int32) (cmds : Nat → CC) (stE : Int32) (stF : Int32) (lch : Nat → Int32) (llen : Int32) (jo : Nat → Int64) (jd : Nat → UInt64) (mm : Nat → Int64) (masd : Nat → Int64) (msav : Nat → Int64) (misS : Int32) (mpst : Nat → Int64) (mchg : Int32) (merr : Int32) (mfai : Int32) (mthr : Int32) (minp : Nat → Int32) (minM : Int32) (mUp : Nat → Int32) (mcar : Nat → Int32) (mcam : Nat → Int32) (mahd : Int32) (magn : Int32) (mltr : Nat → Int32) (mbeg : Nat → Int32) (mcmd : Nat → Int32) (mcmM : Int32) (mpl : Int32) (msz : Int32) (mwr : Int32) (mlin : Nat → Int32) (mliM : Int32) (hK : va_K (gD g) zCl (gT g) s) (hB : KB g A s s.heap) (fu : Nat) (i : Int32) (u : (Nat → Int64) × Int32) (hF : G_law_971 fu st jo mm mthr L xs i = some u) {H : Heap} {locs : List Loc} {ls : Array Slot} {cells slots : Nat} (hc : cells + 51 ≤ 603072) (hsl : slots + 306 ≤ 7170153) (hl : lv_has ls 9 [(5, .int i), (4, .ref (ad 75)), (3, .ref (ad 74)), (2, .ref (qd 0)), (1, .ref (ad 0)), (0, .ref b)]) (hP : va_P (gD g) zCl (wLaw g ad qd st sv isS hst spare undo seen dbef drec ptx plen ppos pcnt cmds stE stF lch llen jo jd mm masd msav misS mpst mchg merr mfai mthr minp minM mUp mcar mcam mahd magn mltr mbeg mcmd mcmM mpl msz mwr mlin mliM) H) (hD : va_D A (wLaw g ad qd st sv isS hst spare undo seen dbef drec ptx plen ppos pcnt cmds stE stF lch llen jo jd mm masd msav misS mpst mchg merr mfai mthr minp minM mUp mcar mcam mahd magn mltr mbeg mcmd mcmM mpl msz mwr mlin mliM)) (hS : va_S A s.heap H locs)
    (kj : ∀ (H : Heap) (locs : List Loc) (ls : Array Slot), lv_has ls 9 [(5, .int i), (4, .ref (ad 75)), (3, .ref (ad 74)), (2, .ref (qd 0)), (1, .ref (ad 0)), (0, .ref b)] → va_P (gD g) zCl (wLaw g ad qd st sv isS hst spare undo seen dbef drec ptx plen ppos pcnt cmds stE stF lch llen u.1 jd mm masd msav misS mpst mchg merr mfai u.2 minp minM mUp mcar mcam mahd magn mltr mbeg mcmd mcmM mpl msz mwr mlin mliM) H → va_D A (wLaw g ad qd st sv isS hst spare undo seen dbef drec ptx plen ppos pcnt cmds stE stF lch llen u.1 jd mm masd msav misS mpst mchg merr mfai u.2 minp minM mUp mcar mcam mahd magn mltr mbeg mcmd mcmM mpl msz mwr mlin mliM) → va_S A s.heap H locs → W p l e room_1 s m #[Value.ref b] below meth c H locs (cells + 51) (slots + 306) (lw_Z below #[Value.ref b] s) (F0 m 2792 ls [])) : W p l e room_1 s m #[Value.ref b] below meth c H locs cells slots (lw_Z below #[Value.ref b] s) (F0 m 971 ls []) := by
  have hc : cells + 51 ≤ room_1.cells := hc
  have hsl : slots + 306 ≤ room_1.slots := hsl
  unfold G_law_971 at hF
  refine lv_aload_n hx hb dL_law_971 rfl (lv_at hl 4 rfl) ?_
  refine lv_aload_n hx hb dL_law_972 rfl (lv_at hl 5 rfl) ?_
  refine lv_iload hx hb dL_law_973 (lv_at hl 0 rfl) ?_
  refine lv_iconst (v := 1) hx hb dL_law_975 (by decide) ?_
  refine lv_iadd hx hb dL_law_976 ?_
  obtain ⟨zg1, hF⟩ := z_grd hF
  refine va_sld hx hb hX hbl hbA hS zg1 dL_law_977 ?_
  refine lv_aload_n hx hb dL_law_978 rfl (lv_at hl 2 rfl) ?_
  obtain ⟨zo2, hzo2, hF⟩ := z_bind hF
  refine z_calli (fun (u : (Nat → Int64)) => (wRootJ g ad st sv isS hst spare undo seen dbef drec ptx plen ppos pcnt cmds stE stF lch llen u)) zLJ (vx_runSW (As := [.ref (ad 0), .int (xs (Int32.toNatClampNeg (i + 1))), .ref (ad 74)]) (rest := []) ⟨hx, hb, hml, hown, hts⟩ (c_L_scale l hl0 g ad st sv isS hst spare undo seen dbef drec ptx plen ppos pcnt cmds stE stF lch llen jo _ (xs (Int32.toNatClampNeg (i + 1))) fu _ hzo2) (vx_cwSW 3 hts (gdS mU_844 mU_845 mU_65 mU_846) rfl rfl rfl (by decide +kernel) ⟨Nat.le_of_ble_eq_true rfl, Nat.le_of_ble_eq_true rfl⟩) ⟨z_blind _ _ _ _, fun U hU hW => z_pre zLJ hP hD hK hB hS hA wLaw_CJ wLaw_NJ hU hW⟩ rfl rfl hl.1 rfl (lv_room (Nat.le_of_ble_eq_true rfl)) dL_law_979 ⟨by omega, by omega⟩) hP hD hS hA wLaw_CJ (fun _ => rfl) (fun r u H locs hw hP hD hS => ?_)
  obtain ⟨rfl, rfl⟩ := hw
  have hP : va_P (gD g) zCl (wLaw g ad qd st sv isS hst spare undo seen dbef drec ptx plen ppos pcnt cmds stE stF lch llen zo2.2 jd mm masd msav misS mpst mchg merr mfai mthr minp minM mUp mcar mcam mahd magn mltr mbeg mcmd mcmM mpl msz mwr mlin mliM) H := Eq.mp (congrArg (fun w => va_P (gD g) zCl w H) wLaw_SJ) hP
  have hD : va_D A (wLaw g ad qd st sv isS hst spare undo seen dbef drec ptx plen ppos pcnt cmds stE stF lch llen zo2.2 jd mm masd msav misS mpst mchg merr mfai mthr minp minM mUp mcar mcam mahd magn mltr mbeg mcmd mcmM mpl msz mwr mlin mliM) := Eq.mp (congrArg (fun w => va_D A w) wLaw_SJ) hD
  refine lv_istore (lv' := [(6, .int zo2.1), (5, .int i), (4, .ref (ad 75)), (3, .ref (ad 74)), (2, .ref (qd 0)), (1, .ref (ad 0)), (0, .ref b)]) hx hb dL_law_982 hl (by decide) rfl (fun ls hl => ?_)
  refine lv_aload_n hx hb dL_law_984 rfl (lv_at hl 4 rfl) ?_
  refine lv_aload_n hx hb dL_law_985 rfl (lv_at hl 6 rfl) ?_
  refine lv_iload hx hb dL_law_986 (lv_at hl 1 rfl) ?_
  refine lv_iconst (v := 1) hx hb dL_law_988 (by decide) ?_
  refine lv_iadd hx hb dL_law_989 ?_
  obtain ⟨zg3, hF⟩ := z_grd hF
  refine va_sld hx hb hX hbl hbA hS zg3 dL_law_990 ?_
  obtain ⟨zo4, hzo4, hF⟩ := z_bind hF
  refine z_calli (fun (u : Int32) => (wModel g (qd 0) (qd 1) (qd 2) (qd 3) (qd 4) (qd 5) (qd 6) (qd 7) (qd 8) (qd 9) (qd 10) (qd 11) (qd 12) mm masd msav misS mpst mchg merr mfai u minp minM mUp mcar mcam mahd magn mltr mbeg mcmd mcmM mpl msz mwr mlin mliM)) zLM (va_runV (As := [.int (xs (Int32.toNatClampNeg (i + 1)))]) (rest := []) ⟨hx, hb, hml, hown, hts⟩ (c_X11_scale l g (qd 0) (qd 1) (qd 2) (qd 3) (qd 4) (qd 5) (qd 6) (qd 7) (qd 8) (qd 9) (qd 10) (qd 11) (qd 12) mm masd msav misS mpst mchg merr mfai mthr minp minM mUp mcar mcam mahd magn mltr mbeg mcmd mcmM mpl msz mwr mlin mliM _ (xs (Int32.toNatClampNeg (i + 1))) fu _ hzo4) (cwV 1 hts (gdV mU_1481 mU_1482 mU_1483 mU_75 mU_1484) rfl rfl rfl (by decide +kernel) ⟨Nat.le_of_ble_eq_true rfl, Nat.le_of_ble_eq_true rfl⟩) ⟨z_blind _ _ _ _, va_recv hK hP (ci := 7) (q0 := 76) rfl rfl, fun U hU hW => z_pre zLM hP hD hK hB hS hA wLaw_CM wLaw_NM hU hW⟩ rfl rfl hl.1 rfl (lv_room (Nat.le_of_ble_eq_true rfl)) dL_law_991 ⟨by omega, by omega⟩) hP hD hS hA wLaw_CM (fun _ => rfl) (fun r u H locs hw hP hD hS => ?_)
  obtain ⟨rfl, rfl⟩ := hw
  have hP : va_P (gD g) zCl (wLaw g ad qd st sv isS hst spare undo seen dbef drec ptx plen ppos pcnt cmds stE stF lch llen zo2.2 jd mm masd msav misS mpst mchg merr mfai zo4.2 minp minM mUp mcar mcam mahd magn mltr mbeg mcmd mcmM mpl msz mwr mlin mliM) H := Eq.mp (congrArg (fun w => va_P (gD g) zCl w H) wLaw_SM) hP
  have hD : va_D A (wLaw g ad qd st sv isS hst spare undo seen dbef drec ptx plen ppos pcnt cmds stE stF lch llen zo2.2 jd mm masd msav misS mpst mchg merr mfai zo4.2 minp minM mUp mcar mcam mahd magn mltr mbeg mcmd mcmM mpl msz mwr mlin mliM) := Eq.mp (congrArg (fun w => va_D A w) wLaw_SM) hD
  refine lv_istore (lv' := [(7, .int zo4.1), (6, .int zo2.1), (5, .int i), (4, .ref (ad 75)), (3, .ref (ad 74)), (2, .ref (qd 0)), (1, .ref (ad 0)), (0, .ref b)]) hx hb dL_law_994 hl (by decide) rfl (fun ls hl => ?_)
  refine lv_aload_n hx hb dL_law_996 rfl (lv_at hl 5 rfl) ?_
  obtain ⟨zo5, hzo5, hF⟩ := z_bind hF
  refine z_calli (fun (_ : Unit) => (wModel g (qd 0) (qd 1) (qd 2) (qd 3) (qd 4) (qd 5) (qd 6) (qd 7) (qd 8) (qd 9) (qd 10) (qd 11) (qd 12) mm masd msav misS mpst mchg merr mfai zo4.2 minp minM mUp mcar mcam mahd magn mltr mbeg mcmd mcmM mpl msz mwr mlin mliM)) zLM (va_runV (As := []) (rest := []) ⟨hx, hb, hml, hown, hts⟩ (c_X11_thrown l g (qd 0) (qd 1) (qd 2) (qd 3) (qd 4) (qd 5) (qd 6) (qd 7) (qd 8) (qd 9) (qd 10) (qd 11) (qd 12) mm masd msav misS mpst mchg merr mfai zo4.2 minp minM mUp mcar mcam mahd magn mltr mbeg mcmd mcmM mpl msz mwr mlin mliM _ _ hzo5) (cwV 0 hts (gdV mU_1321 mU_1322 mU_1323 mU_75 mU_1324) rfl rfl rfl (by decide +kernel) ⟨Nat.le_of_ble_eq_true rfl, Nat.le_of_ble_eq_true rfl⟩) ⟨z_blind _ _ _ _, va_recv hK hP (ci := 7) (q0 := 76) rfl rfl, fun U hU hW => z_pre zLM hP hD hK hB hS hA wLaw_CM wLaw_NM hU hW⟩ rfl rfl hl.1 rfl (lv_room (Nat.le_of_ble_eq_true rfl)) dL_law_997 ⟨by omega, by omega⟩) hP hD hS hA wLaw_CM (fun _ => rfl) (fun r u H locs hw hP hD hS => ?_)
  subst hw
  have hP : va_P (gD g) zCl (wLaw g ad qd st sv isS hst spare undo seen dbef drec ptx plen ppos pcnt cmds stE stF lch llen zo2.2 jd mm masd msav misS mpst mchg merr mfai zo4.2 minp minM mUp mcar mcam mahd magn mltr mbeg mcmd mcmM mpl msz mwr mlin mliM) H := Eq.mp (congrArg (fun w => va_P (gD g) zCl w H) wLaw_SM) hP
  have hD : va_D A (wLaw g ad qd st sv isS hst spare undo seen dbef drec ptx plen ppos pcnt cmds stE stF lch llen zo2.2 jd mm masd msav misS mpst mchg merr mfai zo4.2 minp minM mUp mcar mcam mahd magn mltr mbeg mcmd mcmM mpl msz mwr mlin mliM) := Eq.mp (congrArg (fun w => va_D A w) wLaw_SM) hD
  refine lv_iload hx hb dL_law_1000 (lv_at hl 1 rfl) ?_
  refine lv_icmp_eq (tgt := 1007) hx hb dL_law_1002 (by decide) (fun zc6 => ?_) (fun zc6 => ?_)
  · have hF := z_pos hF zc6
    refine lv_iload hx hb dL_law_1007 (lv_at hl 1 rfl) ?_
    refine lv_if_ne (tgt := 1024) hx hb dL_law_1009 (by decide) (fun zc7 => ?_) (fun zc7 => ?_)
    · have hF := z_neg hF zc7
      refine lv_goto (tgt := 2792) hx hb dL_law_1024 (by decide) ?_
      have ho := (Option.some.inj hF).symm
      subst ho
      refine W.widen (k := cells + 51) (n := slots + 306) (by omega) (by omega) ?_
      exact kj _ _ _ (lv_sub hl [2, 3, 4, 5, 6, 7] rfl) hP hD hS
    · have hF := z_pos hF zc7
      refine lv_aload_n hx hb dL_law_1012 rfl (lv_at hl 4 rfl) ?_
      refine lv_iconst (v := 0) hx hb dL_law_1013 (by decide) ?_
      refine va_lald hx hb hK hP 74 2 rfl rfl (by unfold vp_in; decide) dL_law_1014 ?_
      refine lv_iload hx hb dL_law_1015 (lv_at hl 0 rfl) ?_
      refine lv_i2l (v := (Int32.toInt64 zo4.1)) hx hb dL_law_1017 rfl ?_
      refine z_lcmp_eq (tgt := 1024) hx hb dL_law_1018 dL_law_1019 (by decide) (fun zc8 => ?_) (fun zc8 => ?_)
      · have hF := z_pos hF zc8
        refine lv_goto (tgt := 2792) hx hb dL_law_1024 (by decide) ?_
        have ho := (Option.some.inj hF).symm
        subst ho
        refine W.widen (k := cells + 51) (n := slots + 306) (by omega) (by omega) ?_
        exact kj _ _ _ (lv_sub hl [2, 3, 4, 5, 6, 7] rfl) hP hD hS
      · have hF := z_neg hF zc8
        refine lv_iconst (v := 0) hx hb dL_law_1022 (by decide) ?_
        exact absurd hF (by simp)
  · have hF := z_neg hF zc6
    refine lv_iconst (v := 0) hx hb dL_law_1005 (by decide) ?_
    exact absurd hF (by simp)
set_option maxHeartbeats 4000000 in
set_option maxRecDepth 100000 in
theorem k_law_1027 {p : Program} {e : Env} {s : State} {m : MethodId} {below : List Frame} {meth : Method} {c : Code} (l : Launch) (hl0 : l.stackTraces = false) {b L : Nat} {xs : Nat → Int32} (hx : p.tables.exec = Jvm.exec) (hb : c.code = cL_law) (hml : c.maxLocals = 9) (hown : s.vm.findClass RL = some m.cls) (hts : ∀ w ∈ wU, w.before #[Value.ref b] s = true) (hX : va_X b L xs s s.heap) (hbl : b < s.heap.size) {A : Nat → Prop} (hbA : ¬ A b) (hA : ∀ q, s.heap.size ≤ q → A q) (g : GG) (ad qd : Nat → Nat) (st : SS) (sv : SS) (isS : Int32) (hst : Nat → SS) (spare : Int32) (undo : Int32) (seen : Nat → Int32) (dbef : Int32) (drec : Int32) (ptx : Nat → Int32) (plen : Int32) (ppos : Int32) (pcnt : Int32) (cmds : Nat → CC) (stE : Int32) (stF : Int32) (lch : Nat → Int32) (llen : Int32) (jo : Nat → Int64) (jd : Nat → UInt64) (mm : Nat → Int64) (masd : Nat → Int64) (msav : Nat → Int64) (misS : Int32) (mpst : Nat → Int64) (mchg : Int32) (merr : Int32) (mfai : Int32) (mthr : Int32) (minp : Nat → Int32) (minM : Int32) (mUp : Nat → Int32) (mcar : Nat → Int32) (mcam : Nat → Int32) (mahd : Int32) (magn : Int32) (mltr : Nat → Int32) (mbeg : Nat → Int32) (mcmd : Nat → Int32) (mcmM : Int32) (mpl : Int32) (msz : Int32) (mwr : Int32) (mlin : Nat → Int32) (mliM : Int32) (hK : va_K (gD g) zCl (gT g) s) (hB : KB g A s s.heap) (fu : Nat) (i : Int32) (u : (Nat → Int64) × Int32) (hF : G_law_1027 fu st jo mm mthr L xs i = some u) {H : Heap} {locs : List Loc} {ls : Array Slot} {cells slots : Nat} (hc : cells + 51 ≤ 603072) (hsl : slots + 306 ≤ 7170153) (hl : lv_has ls 9 [(5, .int i), (4, .ref (ad 75)), (3, .ref (ad 74)), (2, .ref (qd 0)), (1, .ref (ad 0)), (0, .ref b)]) (hP : va_P (gD g) zCl (wLaw g ad qd st sv isS hst spare undo seen dbef drec ptx plen ppos pcnt cmds stE stF lch llen jo jd mm masd msav misS mpst mchg merr mfai mthr minp minM mUp mcar mcam mahd magn mltr mbeg mcmd mcmM mpl msz mwr mlin mliM) H) (hD : va_D A (wLaw g ad qd st sv isS hst spare undo seen dbef drec ptx plen ppos pcnt cmds stE stF lch llen jo jd mm masd msav misS mpst mchg merr mfai mthr minp minM mUp mcar mcam mahd magn mltr mbeg mcmd mcmM mpl msz mwr mlin mliM)) (hS : va_S A s.heap H locs)
    (kj : ∀ (H : Heap) (locs : List Loc) (ls : Array Slot), lv_has ls 9 [(5, .int i), (4, .ref (ad 75)), (3, .ref (ad 74)), (2, .ref (qd 0)), (1, .ref (ad 0)), (0, .ref b)] → va_P (gD g) zCl (wLaw g ad qd st sv isS hst spare undo seen dbef drec ptx plen ppos pcnt cmds stE stF lch llen u.1 jd mm masd msav misS mpst mchg merr mfai u.2 minp minM mUp mcar mcam mahd magn mltr mbeg mcmd mcmM mpl msz mwr mlin mliM) H → va_D A (wLaw g ad qd st sv isS hst spare undo seen dbef drec ptx plen ppos pcnt cmds stE stF lch llen u.1 jd mm masd msav misS mpst mchg merr mfai u.2 minp minM mUp mcar mcam mahd magn mltr mbeg mcmd mcmM mpl msz mwr mlin mliM) → va_S A s.heap H locs → W p l e room_1 s m #[Value.ref b] below meth c H locs (cells + 51) (slots + 306) (lw_Z below #[Value.ref b] s) (F0 m 2792 ls [])) : W p l e room_1 s m #[Value.ref b] below meth c H locs cells slots (lw_Z below #[Value.ref b] s) (F0 m 1027 ls []) := by
  have hc : cells + 51 ≤ room_1.cells := hc
  have hsl : slots + 306 ≤ room_1.slots := hsl
  unfold G_law_1027 at hF
  refine lv_aload_n hx hb dL_law_1027 rfl (lv_at hl 4 rfl) ?_
  refine lv_aload_n hx hb dL_law_1028 rfl (lv_at hl 5 rfl) ?_
  refine lv_iload hx hb dL_law_1029 (lv_at hl 0 rfl) ?_
  refine lv_iconst (v := 1) hx hb dL_law_1031 (by decide) ?_
  refine lv_iadd hx hb dL_law_1032 ?_
  obtain ⟨zg1, hF⟩ := z_grd hF
  refine va_sld hx hb hX hbl hbA hS zg1 dL_law_1033 ?_
  refine lv_aload_n hx hb dL_law_1034 rfl (lv_at hl 2 rfl) ?_
  obtain ⟨zo2, hzo2, hF⟩ := z_bind hF
  refine z_calli (fun (u : (Nat → Int64)) => (wRootJ g ad st sv isS hst spare undo seen dbef drec ptx plen ppos pcnt cmds stE stF lch llen u)) zLJ (vx_runSW (As := [.ref (ad 0), .int (xs (Int32.toNatClampNeg (i + 1))), .ref (ad 74)]) (rest := []) ⟨hx, hb, hml, hown, hts⟩ (c_L_mode l hl0 g ad st sv isS hst spare undo seen dbef drec ptx plen ppos pcnt cmds stE stF lch llen jo _ (xs (Int32.toNatClampNeg (i + 1))) fu _ hzo2) (vx_cwSW 3 hts (gdS mU_851 mU_852 mU_65 mU_853) rfl rfl rfl (by decide +kernel) ⟨Nat.le_of_ble_eq_true rfl, Nat.le_of_ble_eq_true rfl⟩) ⟨z_blind _ _ _ _, fun U hU hW => z_pre zLJ hP hD hK hB hS hA wLaw_CJ wLaw_NJ hU hW⟩ rfl rfl hl.1 rfl (lv_room (Nat.le_of_ble_eq_true rfl)) dL_law_1035 ⟨by omega, by omega⟩) hP hD hS hA wLaw_CJ (fun _ => rfl) (fun r u H locs hw hP hD hS => ?_)
  obtain ⟨rfl, rfl⟩ := hw
  have hP : va_P (gD g) zCl (wLaw g ad qd st sv isS hst spare undo seen dbef drec ptx plen ppos pcnt cmds stE stF lch llen zo2.2 jd mm masd msav misS mpst mchg merr mfai mthr minp minM mUp mcar mcam mahd magn mltr mbeg mcmd mcmM mpl msz mwr mlin mliM) H := Eq.mp (congrArg (fun w => va_P (gD g) zCl w H) wLaw_SJ) hP
  have hD : va_D A (wLaw g ad qd st sv isS hst spare undo seen dbef drec ptx plen ppos pcnt cmds stE stF lch llen zo2.2 jd mm masd msav misS mpst mchg merr mfai mthr minp minM mUp mcar mcam mahd magn mltr mbeg mcmd mcmM mpl msz mwr mlin mliM) := Eq.mp (congrArg (fun w => va_D A w) wLaw_SJ) hD
  refine lv_istore (lv' := [(6, .int zo2.1), (5, .int i), (4, .ref (ad 75)), (3, .ref (ad 74)), (2, .ref (qd 0)), (1, .ref (ad 0)), (0, .ref b)]) hx hb dL_law_1038 hl (by decide) rfl (fun ls hl => ?_)
  refine lv_aload_n hx hb dL_law_1040 rfl (lv_at hl 4 rfl) ?_
  refine lv_aload_n hx hb dL_law_1041 rfl (lv_at hl 6 rfl) ?_
  refine lv_iload hx hb dL_law_1042 (lv_at hl 1 rfl) ?_
  refine lv_iconst (v := 1) hx hb dL_law_1044 (by decide) ?_
  refine lv_iadd hx hb dL_law_1045 ?_
  obtain ⟨zg3, hF⟩ := z_grd hF
  refine va_sld hx hb hX hbl hbA hS zg3 dL_law_1046 ?_
  obtain ⟨zo4, hzo4, hF⟩ := z_bind hF
  refine z_calli (fun (u : Int32) => (wModel g (qd 0) (qd 1) (qd 2) (qd 3) (qd 4) (qd 5) (qd 6) (qd 7) (qd 8) (qd 9) (qd 10) (qd 11) (qd 12) mm masd msav misS mpst mchg merr mfai u minp minM mUp mcar mcam mahd magn mltr mbeg mcmd mcmM mpl msz mwr mlin mliM)) zLM (va_runV (As := [.int (xs (Int32.toNatClampNeg (i + 1)))]) (rest := []) ⟨hx, hb, hml, hown, hts⟩ (c_X11_mode l g (qd 0) (qd 1) (qd 2) (qd 3) (qd 4) (qd 5) (qd 6) (qd 7) (qd 8) (qd 9) (qd 10) (qd 11) (qd 12) mm masd msav misS mpst mchg merr mfai mthr minp minM mUp mcar mcam mahd magn mltr mbeg mcmd mcmM mpl msz mwr mlin mliM _ (xs (Int32.toNatClampNeg (i + 1))) fu _ hzo4) (cwV 1 hts (gdV mU_1485 mU_1486 mU_1487 mU_75 mU_1488) rfl rfl rfl (by decide +kernel) ⟨Nat.le_of_ble_eq_true rfl, Nat.le_of_ble_eq_true rfl⟩) ⟨z_blind _ _ _ _, va_recv hK hP (ci := 7) (q0 := 76) rfl rfl, fun U hU hW => z_pre zLM hP hD hK hB hS hA wLaw_CM wLaw_NM hU hW⟩ rfl rfl hl.1 rfl (lv_room (Nat.le_of_ble_eq_true rfl)) dL_law_1047 ⟨by omega, by omega⟩) hP hD hS hA wLaw_CM (fun _ => rfl) (fun r u H locs hw hP hD hS => ?_)
  obtain ⟨rfl, rfl⟩ := hw
  have hP : va_P (gD g) zCl (wLaw g ad qd st sv isS hst spare undo seen dbef drec ptx plen ppos pcnt cmds stE stF lch llen zo2.2 jd mm masd msav misS mpst mchg merr mfai zo4.2 minp minM mUp mcar mcam mahd magn mltr mbeg mcmd mcmM mpl msz mwr mlin mliM) H := Eq.mp (congrArg (fun w => va_P (gD g) zCl w H) wLaw_SM) hP
  have hD : va_D A (wLaw g ad qd st sv isS hst spare undo seen dbef drec ptx plen ppos pcnt cmds stE stF lch llen zo2.2 jd mm masd msav misS mpst mchg merr mfai zo4.2 minp minM mUp mcar mcam mahd magn mltr mbeg mcmd mcmM mpl msz mwr mlin mliM) := Eq.mp (congrArg (fun w => va_D A w) wLaw_SM) hD
  refine lv_istore (lv' := [(7, .int zo4.1), (6, .int zo2.1), (5, .int i), (4, .ref (ad 75)), (3, .ref (ad 74)), (2, .ref (qd 0)), (1, .ref (ad 0)), (0, .ref b)]) hx hb dL_law_1050 hl (by decide) rfl (fun ls hl => ?_)
  refine lv_aload_n hx hb dL_law_1052 rfl (lv_at hl 5 rfl) ?_
  obtain ⟨zo5, hzo5, hF⟩ := z_bind hF
  refine z_calli (fun (_ : Unit) => (wModel g (qd 0) (qd 1) (qd 2) (qd 3) (qd 4) (qd 5) (qd 6) (qd 7) (qd 8) (qd 9) (qd 10) (qd 11) (qd 12) mm masd msav misS mpst mchg merr mfai zo4.2 minp minM mUp mcar mcam mahd magn mltr mbeg mcmd mcmM mpl msz mwr mlin mliM)) zLM (va_runV (As := []) (rest := []) ⟨hx, hb, hml, hown, hts⟩ (c_X11_thrown l g (qd 0) (qd 1) (qd 2) (qd 3) (qd 4) (qd 5) (qd 6) (qd 7) (qd 8) (qd 9) (qd 10) (qd 11) (qd 12) mm masd msav misS mpst mchg merr mfai zo4.2 minp minM mUp mcar mcam mahd magn mltr mbeg mcmd mcmM mpl msz mwr mlin mliM _ _ hzo5) (cwV 0 hts (gdV mU_1321 mU_1322 mU_1323 mU_75 mU_1324) rfl rfl rfl (by decide +kernel) ⟨Nat.le_of_ble_eq_true rfl, Nat.le_of_ble_eq_true rfl⟩) ⟨z_blind _ _ _ _, va_recv hK hP (ci := 7) (q0 := 76) rfl rfl, fun U hU hW => z_pre zLM hP hD hK hB hS hA wLaw_CM wLaw_NM hU hW⟩ rfl rfl hl.1 rfl (lv_room (Nat.le_of_ble_eq_true rfl)) dL_law_1053 ⟨by omega, by omega⟩) hP hD hS hA wLaw_CM (fun _ => rfl) (fun r u H locs hw hP hD hS => ?_)
  subst hw
  have hP : va_P (gD g) zCl (wLaw g ad qd st sv isS hst spare undo seen dbef drec ptx plen ppos pcnt cmds stE stF lch llen zo2.2 jd mm masd msav misS mpst mchg merr mfai zo4.2 minp minM mUp mcar mcam mahd magn mltr mbeg mcmd mcmM mpl msz mwr mlin mliM) H := Eq.mp (congrArg (fun w => va_P (gD g) zCl w H) wLaw_SM) hP
  have hD : va_D A (wLaw g ad qd st sv isS hst spare undo seen dbef drec ptx plen ppos pcnt cmds stE stF lch llen zo2.2 jd mm masd msav misS mpst mchg merr mfai zo4.2 minp minM mUp mcar mcam mahd magn mltr mbeg mcmd mcmM mpl msz mwr mlin mliM) := Eq.mp (congrArg (fun w => va_D A w) wLaw_SM) hD
  refine lv_iload hx hb dL_law_1056 (lv_at hl 1 rfl) ?_
  refine lv_icmp_eq (tgt := 1063) hx hb dL_law_1058 (by decide) (fun zc6 => ?_) (fun zc6 => ?_)
  · have hF := z_pos hF zc6
    refine lv_iload hx hb dL_law_1063 (lv_at hl 1 rfl) ?_
    refine lv_if_ne (tgt := 1080) hx hb dL_law_1065 (by decide) (fun zc7 => ?_) (fun zc7 => ?_)
    · have hF := z_neg hF zc7
      refine lv_goto (tgt := 2792) hx hb dL_law_1080 (by decide) ?_
      have ho := (Option.some.inj hF).symm
      subst ho
      refine W.widen (k := cells + 51) (n := slots + 306) (by omega) (by omega) ?_
      exact kj _ _ _ (lv_sub hl [2, 3, 4, 5, 6, 7] rfl) hP hD hS
    · have hF := z_pos hF zc7
      refine lv_aload_n hx hb dL_law_1068 rfl (lv_at hl 4 rfl) ?_
      refine lv_iconst (v := 0) hx hb dL_law_1069 (by decide) ?_
      refine va_lald hx hb hK hP 74 2 rfl rfl (by unfold vp_in; decide) dL_law_1070 ?_
      refine lv_iload hx hb dL_law_1071 (lv_at hl 0 rfl) ?_
      refine lv_i2l (v := (Int32.toInt64 zo4.1)) hx hb dL_law_1073 rfl ?_
      refine z_lcmp_eq (tgt := 1080) hx hb dL_law_1074 dL_law_1075 (by decide) (fun zc8 => ?_) (fun zc8 => ?_)
      · have hF := z_pos hF zc8
        refine lv_goto (tgt := 2792) hx hb dL_law_1080 (by decide) ?_
        have ho := (Option.some.inj hF).symm
        subst ho
        refine W.widen (k := cells + 51) (n := slots + 306) (by omega) (by omega) ?_
        exact kj _ _ _ (lv_sub hl [2, 3, 4, 5, 6, 7] rfl) hP hD hS
      · have hF := z_neg hF zc8
        refine lv_iconst (v := 0) hx hb dL_law_1078 (by decide) ?_
        exact absurd hF (by simp)
  · have hF := z_neg hF zc6
    refine lv_iconst (v := 0) hx hb dL_law_1061 (by decide) ?_
    exact absurd hF (by simp)
set_option maxHeartbeats 4000000 in
set_option maxRecDepth 100000 in
theorem k_law_1083 {p : Program} {e : Env} {s : State} {m : MethodId} {below : List Frame} {meth : Method} {c : Code} (l : Launch) (hl0 : l.stackTraces = false) {b L : Nat} {xs : Nat → Int32} (hx : p.tables.exec = Jvm.exec) (hb : c.code = cL_law) (hml : c.maxLocals = 9) (hown : s.vm.findClass RL = some m.cls) (hts : ∀ w ∈ wU, w.before #[Value.ref b] s = true) (hX : va_X b L xs s s.heap) (hbl : b < s.heap.size) {A : Nat → Prop} (hbA : ¬ A b) (hA : ∀ q, s.heap.size ≤ q → A q) (g : GG) (ad qd : Nat → Nat) (st : SS) (sv : SS) (isS : Int32) (hst : Nat → SS) (spare : Int32) (undo : Int32) (seen : Nat → Int32) (dbef : Int32) (drec : Int32) (ptx : Nat → Int32) (plen : Int32) (ppos : Int32) (pcnt : Int32) (cmds : Nat → CC) (stE : Int32) (stF : Int32) (lch : Nat → Int32) (llen : Int32) (jo : Nat → Int64) (jd : Nat → UInt64) (mm : Nat → Int64) (masd : Nat → Int64) (msav : Nat → Int64) (misS : Int32) (mpst : Nat → Int64) (mchg : Int32) (merr : Int32) (mfai : Int32) (mthr : Int32) (minp : Nat → Int32) (minM : Int32) (mUp : Nat → Int32) (mcar : Nat → Int32) (mcam : Nat → Int32) (mahd : Int32) (magn : Int32) (mltr : Nat → Int32) (mbeg : Nat → Int32) (mcmd : Nat → Int32) (mcmM : Int32) (mpl : Int32) (msz : Int32) (mwr : Int32) (mlin : Nat → Int32) (mliM : Int32) (hK : va_K (gD g) zCl (gT g) s) (hB : KB g A s s.heap) (fu : Nat) (i : Int32) (u : (Nat → Int64) × Int32) (hF : G_law_1083 fu st jo mm mthr L xs i = some u) {H : Heap} {locs : List Loc} {ls : Array Slot} {cells slots : Nat} (hc : cells + 51 ≤ 603072) (hsl : slots + 306 ≤ 7170153) (hl : lv_has ls 9 [(5, .int i), (4, .ref (ad 75)), (3, .ref (ad 74)), (2, .ref (qd 0)), (1, .ref (ad 0)), (0, .ref b)]) (hP : va_P (gD g) zCl (wLaw g ad qd st sv isS hst spare undo seen dbef drec ptx plen ppos pcnt cmds stE stF lch llen jo jd mm masd msav misS mpst mchg merr mfai mthr minp minM mUp mcar mcam mahd magn mltr mbeg mcmd mcmM mpl msz mwr mlin mliM) H) (hD : va_D A (wLaw g ad qd st sv isS hst spare undo seen dbef drec ptx plen ppos pcnt cmds stE stF lch llen jo jd mm masd msav misS mpst mchg merr mfai mthr minp minM mUp mcar mcam mahd magn mltr mbeg mcmd mcmM mpl msz mwr mlin mliM)) (hS : va_S A s.heap H locs)
    (kj : ∀ (H : Heap) (locs : List Loc) (ls : Array Slot), lv_has ls 9 [(5, .int i), (4, .ref (ad 75)), (3, .ref (ad 74)), (2, .ref (qd 0)), (1, .ref (ad 0)), (0, .ref b)] → va_P (gD g) zCl (wLaw g ad qd st sv isS hst spare undo seen dbef drec ptx plen ppos pcnt cmds stE stF lch llen u.1 jd mm masd msav misS mpst mchg merr mfai u.2 minp minM mUp mcar mcam mahd magn mltr mbeg mcmd mcmM mpl msz mwr mlin mliM) H → va_D A (wLaw g ad qd st sv isS hst spare undo seen dbef drec ptx plen ppos pcnt cmds stE stF lch llen u.1 jd mm masd msav misS mpst mchg merr mfai u.2 minp minM mUp mcar mcam mahd magn mltr mbeg mcmd mcmM mpl msz mwr mlin mliM) → va_S A s.heap H locs → W p l e room_1 s m #[Value.ref b] below meth c H locs (cells + 51) (slots + 306) (lw_Z below #[Value.ref b] s) (F0 m 2792 ls [])) : W p l e room_1 s m #[Value.ref b] below meth c H locs cells slots (lw_Z below #[Value.ref b] s) (F0 m 1083 ls []) := by
  have hc : cells + 51 ≤ room_1.cells := hc
  have hsl : slots + 306 ≤ room_1.slots := hsl
  unfold G_law_1083 at hF
  refine lv_aload_n hx hb dL_law_1083 rfl (lv_at hl 4 rfl) ?_
  refine lv_aload_n hx hb dL_law_1084 rfl (lv_at hl 5 rfl) ?_
  refine lv_iload hx hb dL_law_1085 (lv_at hl 0 rfl) ?_
  refine lv_iconst (v := 1) hx hb dL_law_1087 (by decide) ?_
  refine lv_iadd hx hb dL_law_1088 ?_
  obtain ⟨zg1, hF⟩ := z_grd hF
  refine va_sld hx hb hX hbl hbA hS zg1 dL_law_1089 ?_
  refine lv_aload_n hx hb dL_law_1090 rfl (lv_at hl 5 rfl) ?_
  refine lv_iload hx hb dL_law_1091 (lv_at hl 0 rfl) ?_
  refine lv_iconst (v := 2) hx hb dL_law_1093 (by decide) ?_
  refine lv_iadd hx hb dL_law_1094 ?_
  obtain ⟨zg2, hF⟩ := z_grd hF
  refine va_sld hx hb hX hbl hbA hS zg2 dL_law_1095 ?_
  refine lv_aload_n hx hb dL_law_1096 rfl (lv_at hl 2 rfl) ?_
  obtain ⟨zo3, hzo3, hF⟩ := z_bind hF
  refine z_calli (fun (u : (Nat → Int64)) => (wRootJ g ad st sv isS hst spare undo seen dbef drec ptx plen ppos pcnt cmds stE stF lch llen u)) zLJ (vx_runSW (As := [.ref (ad 0), .int (xs (Int32.toNatClampNeg (i + 1))), .int (xs (Int32.toNatClampNeg (i + 2))), .ref (ad 74)]) (rest := []) ⟨hx, hb, hml, hown, hts⟩ (c_L_digit l hl0 g ad st sv isS hst spare undo seen dbef drec ptx plen ppos pcnt cmds stE stF lch llen jo _ (xs (Int32.toNatClampNeg (i + 1))) (xs (Int32.toNatClampNeg (i + 2))) fu _ hzo3) (vx_cwSW 4 hts (gdS mU_858 mU_859 mU_65 mU_860) rfl rfl rfl (by decide +kernel) ⟨Nat.le_of_ble_eq_true rfl, Nat.le_of_ble_eq_true rfl⟩) ⟨z_blind _ _ _ _, fun U hU hW => z_pre zLJ hP hD hK hB hS hA wLaw_CJ wLaw_NJ hU hW⟩ rfl rfl hl.1 rfl (lv_room (Nat.le_of_ble_eq_true rfl)) dL_law_1097 ⟨by omega, by omega⟩) hP hD hS hA wLaw_CJ (fun _ => rfl) (fun r u H locs hw hP hD hS => ?_)
  obtain ⟨rfl, rfl⟩ := hw
  have hP : va_P (gD g) zCl (wLaw g ad qd st sv isS hst spare undo seen dbef drec ptx plen ppos pcnt cmds stE stF lch llen zo3.2 jd mm masd msav misS mpst mchg merr mfai mthr minp minM mUp mcar mcam mahd magn mltr mbeg mcmd mcmM mpl msz mwr mlin mliM) H := Eq.mp (congrArg (fun w => va_P (gD g) zCl w H) wLaw_SJ) hP
  have hD : va_D A (wLaw g ad qd st sv isS hst spare undo seen dbef drec ptx plen ppos pcnt cmds stE stF lch llen zo3.2 jd mm masd msav misS mpst mchg merr mfai mthr minp minM mUp mcar mcam mahd magn mltr mbeg mcmd mcmM mpl msz mwr mlin mliM) := Eq.mp (congrArg (fun w => va_D A w) wLaw_SJ) hD
  refine lv_istore (lv' := [(6, .int zo3.1), (5, .int i), (4, .ref (ad 75)), (3, .ref (ad 74)), (2, .ref (qd 0)), (1, .ref (ad 0)), (0, .ref b)]) hx hb dL_law_1100 hl (by decide) rfl (fun ls hl => ?_)
  refine lv_aload_n hx hb dL_law_1102 rfl (lv_at hl 4 rfl) ?_
  refine lv_aload_n hx hb dL_law_1103 rfl (lv_at hl 6 rfl) ?_
  refine lv_iload hx hb dL_law_1104 (lv_at hl 1 rfl) ?_
  refine lv_iconst (v := 1) hx hb dL_law_1106 (by decide) ?_
  refine lv_iadd hx hb dL_law_1107 ?_
  obtain ⟨zg4, hF⟩ := z_grd hF
  refine va_sld hx hb hX hbl hbA hS zg4 dL_law_1108 ?_
  refine lv_aload_n hx hb dL_law_1109 rfl (lv_at hl 6 rfl) ?_
  refine lv_iload hx hb dL_law_1110 (lv_at hl 1 rfl) ?_
  refine lv_iconst (v := 2) hx hb dL_law_1112 (by decide) ?_
  refine lv_iadd hx hb dL_law_1113 ?_
  obtain ⟨zg5, hF⟩ := z_grd hF
  refine va_sld hx hb hX hbl hbA hS zg5 dL_law_1114 ?_
  obtain ⟨zo6, hzo6, hF⟩ := z_bind hF
  refine z_calli (fun (u : Int32) => (wModel g (qd 0) (qd 1) (qd 2) (qd 3) (qd 4) (qd 5) (qd 6) (qd 7) (qd 8) (qd 9) (qd 10) (qd 11) (qd 12) mm masd msav misS mpst mchg merr mfai u minp minM mUp mcar mcam mahd magn mltr mbeg mcmd mcmM mpl msz mwr mlin mliM)) zLM (va_runV (As := [.int (xs (Int32.toNatClampNeg (i + 1))), .int (xs (Int32.toNatClampNeg (i + 2)))]) (rest := []) ⟨hx, hb, hml, hown, hts⟩ (c_X11_digit l g (qd 0) (qd 1) (qd 2) (qd 3) (qd 4) (qd 5) (qd 6) (qd 7) (qd 8) (qd 9) (qd 10) (qd 11) (qd 12) mm masd msav misS mpst mchg merr mfai mthr minp minM mUp mcar mcam mahd magn mltr mbeg mcmd mcmM mpl msz mwr mlin mliM _ (xs (Int32.toNatClampNeg (i + 1))) (xs (Int32.toNatClampNeg (i + 2))) fu _ hzo6) (cwV 2 hts (gdV mU_1489 mU_1490 mU_1491 mU_75 mU_1492) rfl rfl rfl (by decide +kernel) ⟨Nat.le_of_ble_eq_true rfl, Nat.le_of_ble_eq_true rfl⟩) ⟨z_blind _ _ _ _, va_recv hK hP (ci := 7) (q0 := 76) rfl rfl, fun U hU hW => z_pre zLM hP hD hK hB hS hA wLaw_CM wLaw_NM hU hW⟩ rfl rfl hl.1 rfl (lv_room (Nat.le_of_ble_eq_true rfl)) dL_law_1115 ⟨by omega, by omega⟩) hP hD hS hA wLaw_CM (fun _ => rfl) (fun r u H locs hw hP hD hS => ?_)
  obtain ⟨rfl, rfl⟩ := hw
  have hP : va_P (gD g) zCl (wLaw g ad qd st sv isS hst spare undo seen dbef drec ptx plen ppos pcnt cmds stE stF lch llen zo3.2 jd mm masd msav misS mpst mchg merr mfai zo6.2 minp minM mUp mcar mcam mahd magn mltr mbeg mcmd mcmM mpl msz mwr mlin mliM) H := Eq.mp (congrArg (fun w => va_P (gD g) zCl w H) wLaw_SM) hP
  have hD : va_D A (wLaw g ad qd st sv isS hst spare undo seen dbef drec ptx plen ppos pcnt cmds stE stF lch llen zo3.2 jd mm masd msav misS mpst mchg merr mfai zo6.2 minp minM mUp mcar mcam mahd magn mltr mbeg mcmd mcmM mpl msz mwr mlin mliM) := Eq.mp (congrArg (fun w => va_D A w) wLaw_SM) hD
  refine lv_istore (lv' := [(7, .int zo6.1), (6, .int zo3.1), (5, .int i), (4, .ref (ad 75)), (3, .ref (ad 74)), (2, .ref (qd 0)), (1, .ref (ad 0)), (0, .ref b)]) hx hb dL_law_1118 hl (by decide) rfl (fun ls hl => ?_)
  refine lv_aload_n hx hb dL_law_1120 rfl (lv_at hl 5 rfl) ?_
  obtain ⟨zo7, hzo7, hF⟩ := z_bind hF
  refine z_calli (fun (_ : Unit) => (wModel g (qd 0) (qd 1) (qd 2) (qd 3) (qd 4) (qd 5) (qd 6) (qd 7) (qd 8) (qd 9) (qd 10) (qd 11) (qd 12) mm masd msav misS mpst mchg merr mfai zo6.2 minp minM mUp mcar mcam mahd magn mltr mbeg mcmd mcmM mpl msz mwr mlin mliM)) zLM (va_runV (As := []) (rest := []) ⟨hx, hb, hml, hown, hts⟩ (c_X11_thrown l g (qd 0) (qd 1) (qd 2) (qd 3) (qd 4) (qd 5) (qd 6) (qd 7) (qd 8) (qd 9) (qd 10) (qd 11) (qd 12) mm masd msav misS mpst mchg merr mfai zo6.2 minp minM mUp mcar mcam mahd magn mltr mbeg mcmd mcmM mpl msz mwr mlin mliM _ _ hzo7) (cwV 0 hts (gdV mU_1321 mU_1322 mU_1323 mU_75 mU_1324) rfl rfl rfl (by decide +kernel) ⟨Nat.le_of_ble_eq_true rfl, Nat.le_of_ble_eq_true rfl⟩) ⟨z_blind _ _ _ _, va_recv hK hP (ci := 7) (q0 := 76) rfl rfl, fun U hU hW => z_pre zLM hP hD hK hB hS hA wLaw_CM wLaw_NM hU hW⟩ rfl rfl hl.1 rfl (lv_room (Nat.le_of_ble_eq_true rfl)) dL_law_1121 ⟨by omega, by omega⟩) hP hD hS hA wLaw_CM (fun _ => rfl) (fun r u H locs hw hP hD hS => ?_)
  subst hw
  have hP : va_P (gD g) zCl (wLaw g ad qd st sv isS hst spare undo seen dbef drec ptx plen ppos pcnt cmds stE stF lch llen zo3.2 jd mm masd msav misS mpst mchg merr mfai zo6.2 minp minM mUp mcar mcam mahd magn mltr mbeg mcmd mcmM mpl msz mwr mlin mliM) H := Eq.mp (congrArg (fun w => va_P (gD g) zCl w H) wLaw_SM) hP
  have hD : va_D A (wLaw g ad qd st sv isS hst spare undo seen dbef drec ptx plen ppos pcnt cmds stE stF lch llen zo3.2 jd mm masd msav misS mpst mchg merr mfai zo6.2 minp minM mUp mcar mcam mahd magn mltr mbeg mcmd mcmM mpl msz mwr mlin mliM) := Eq.mp (congrArg (fun w => va_D A w) wLaw_SM) hD
  refine lv_iload hx hb dL_law_1124 (lv_at hl 1 rfl) ?_
  refine lv_icmp_eq (tgt := 1131) hx hb dL_law_1126 (by decide) (fun zc8 => ?_) (fun zc8 => ?_)
  · have hF := z_pos hF zc8
    refine lv_iload hx hb dL_law_1131 (lv_at hl 1 rfl) ?_
    refine lv_if_ne (tgt := 1148) hx hb dL_law_1133 (by decide) (fun zc9 => ?_) (fun zc9 => ?_)
    · have hF := z_neg hF zc9
      refine lv_goto (tgt := 2792) hx hb dL_law_1148 (by decide) ?_
      have ho := (Option.some.inj hF).symm
      subst ho
      refine W.widen (k := cells + 51) (n := slots + 306) (by omega) (by omega) ?_
      exact kj _ _ _ (lv_sub hl [2, 3, 4, 5, 6, 7] rfl) hP hD hS
    · have hF := z_pos hF zc9
      refine lv_aload_n hx hb dL_law_1136 rfl (lv_at hl 4 rfl) ?_
      refine lv_iconst (v := 0) hx hb dL_law_1137 (by decide) ?_
      refine va_lald hx hb hK hP 74 2 rfl rfl (by unfold vp_in; decide) dL_law_1138 ?_
      refine lv_iload hx hb dL_law_1139 (lv_at hl 0 rfl) ?_
      refine lv_i2l (v := (Int32.toInt64 zo6.1)) hx hb dL_law_1141 rfl ?_
      refine z_lcmp_eq (tgt := 1148) hx hb dL_law_1142 dL_law_1143 (by decide) (fun zc10 => ?_) (fun zc10 => ?_)
      · have hF := z_pos hF zc10
        refine lv_goto (tgt := 2792) hx hb dL_law_1148 (by decide) ?_
        have ho := (Option.some.inj hF).symm
        subst ho
        refine W.widen (k := cells + 51) (n := slots + 306) (by omega) (by omega) ?_
        exact kj _ _ _ (lv_sub hl [2, 3, 4, 5, 6, 7] rfl) hP hD hS
      · have hF := z_neg hF zc10
        refine lv_iconst (v := 0) hx hb dL_law_1146 (by decide) ?_
        exact absurd hF (by simp)
  · have hF := z_neg hF zc8
    refine lv_iconst (v := 0) hx hb dL_law_1129 (by decide) ?_
    exact absurd hF (by simp)
set_option maxHeartbeats 4000000 in
set_option maxRecDepth 100000 in
theorem k_law_1151 {p : Program} {e : Env} {s : State} {m : MethodId} {below : List Frame} {meth : Method} {c : Code} (l : Launch) (hl0 : l.stackTraces = false) {b L : Nat} {xs : Nat → Int32} (hx : p.tables.exec = Jvm.exec) (hb : c.code = cL_law) (hml : c.maxLocals = 9) (hown : s.vm.findClass RL = some m.cls) (hts : ∀ w ∈ wU, w.before #[Value.ref b] s = true) (hX : va_X b L xs s s.heap) (hbl : b < s.heap.size) {A : Nat → Prop} (hbA : ¬ A b) (hA : ∀ q, s.heap.size ≤ q → A q) (g : GG) (ad qd : Nat → Nat) (st : SS) (sv : SS) (isS : Int32) (hst : Nat → SS) (spare : Int32) (undo : Int32) (seen : Nat → Int32) (dbef : Int32) (drec : Int32) (ptx : Nat → Int32) (plen : Int32) (ppos : Int32) (pcnt : Int32) (cmds : Nat → CC) (stE : Int32) (stF : Int32) (lch : Nat → Int32) (llen : Int32) (jo : Nat → Int64) (jd : Nat → UInt64) (mm : Nat → Int64) (masd : Nat → Int64) (msav : Nat → Int64) (misS : Int32) (mpst : Nat → Int64) (mchg : Int32) (merr : Int32) (mfai : Int32) (mthr : Int32) (minp : Nat → Int32) (minM : Int32) (mUp : Nat → Int32) (mcar : Nat → Int32) (mcam : Nat → Int32) (mahd : Int32) (magn : Int32) (mltr : Nat → Int32) (mbeg : Nat → Int32) (mcmd : Nat → Int32) (mcmM : Int32) (mpl : Int32) (msz : Int32) (mwr : Int32) (mlin : Nat → Int32) (mliM : Int32) (hK : va_K (gD g) zCl (gT g) s) (hB : KB g A s s.heap) (fu : Nat) (i : Int32) (u : (Nat → Int64) × Int32) (hF : G_law_1151 fu st jo mm mthr L xs i = some u) {H : Heap} {locs : List Loc} {ls : Array Slot} {cells slots : Nat} (hc : cells + 51 ≤ 603072) (hsl : slots + 306 ≤ 7170153) (hl : lv_has ls 9 [(5, .int i), (4, .ref (ad 75)), (3, .ref (ad 74)), (2, .ref (qd 0)), (1, .ref (ad 0)), (0, .ref b)]) (hP : va_P (gD g) zCl (wLaw g ad qd st sv isS hst spare undo seen dbef drec ptx plen ppos pcnt cmds stE stF lch llen jo jd mm masd msav misS mpst mchg merr mfai mthr minp minM mUp mcar mcam mahd magn mltr mbeg mcmd mcmM mpl msz mwr mlin mliM) H) (hD : va_D A (wLaw g ad qd st sv isS hst spare undo seen dbef drec ptx plen ppos pcnt cmds stE stF lch llen jo jd mm masd msav misS mpst mchg merr mfai mthr minp minM mUp mcar mcam mahd magn mltr mbeg mcmd mcmM mpl msz mwr mlin mliM)) (hS : va_S A s.heap H locs)
    (kj : ∀ (H : Heap) (locs : List Loc) (ls : Array Slot), lv_has ls 9 [(5, .int i), (4, .ref (ad 75)), (3, .ref (ad 74)), (2, .ref (qd 0)), (1, .ref (ad 0)), (0, .ref b)] → va_P (gD g) zCl (wLaw g ad qd st sv isS hst spare undo seen dbef drec ptx plen ppos pcnt cmds stE stF lch llen u.1 jd mm masd msav misS mpst mchg merr mfai u.2 minp minM mUp mcar mcam mahd magn mltr mbeg mcmd mcmM mpl msz mwr mlin mliM) H → va_D A (wLaw g ad qd st sv isS hst spare undo seen dbef drec ptx plen ppos pcnt cmds stE stF lch llen u.1 jd mm masd msav misS mpst mchg merr mfai u.2 minp minM mUp mcar mcam mahd magn mltr mbeg mcmd mcmM mpl msz mwr mlin mliM) → va_S A s.heap H locs → W p l e room_1 s m #[Value.ref b] below meth c H locs (cells + 51) (slots + 306) (lw_Z below #[Value.ref b] s) (F0 m 2792 ls [])) : W p l e room_1 s m #[Value.ref b] below meth c H locs cells slots (lw_Z below #[Value.ref b] s) (F0 m 1151 ls []) := by
  have hc : cells + 51 ≤ room_1.cells := hc
  have hsl : slots + 306 ≤ room_1.slots := hsl
  unfold G_law_1151 at hF
  refine lv_aload_n hx hb dL_law_1151 rfl (lv_at hl 4 rfl) ?_
  refine lv_aload_n hx hb dL_law_1152 rfl (lv_at hl 5 rfl) ?_
  refine lv_iload hx hb dL_law_1153 (lv_at hl 0 rfl) ?_
  refine lv_iconst (v := 1) hx hb dL_law_1155 (by decide) ?_
  refine lv_iadd hx hb dL_law_1156 ?_
  obtain ⟨zg1, hF⟩ := z_grd hF
  refine va_sld hx hb hX hbl hbA hS zg1 dL_law_1157 ?_
  refine lv_aload_n hx hb dL_law_1158 rfl (lv_at hl 2 rfl) ?_
  obtain ⟨zo2, hzo2, hF⟩ := z_bind hF
  refine z_calli (fun (u : (Nat → Int64)) => (wRootJ g ad st sv isS hst spare undo seen dbef drec ptx plen ppos pcnt cmds stE stF lch llen u)) zLJ (vx_runSW (As := [.ref (ad 0), .int (xs (Int32.toNatClampNeg (i + 1))), .ref (ad 74)]) (rest := []) ⟨hx, hb, hml, hown, hts⟩ (c_L_digitSum l hl0 g ad st sv isS hst spare undo seen dbef drec ptx plen ppos pcnt cmds stE stF lch llen jo _ (xs (Int32.toNatClampNeg (i + 1))) fu _ hzo2) (vx_cwSW 3 hts (gdS mU_866 mU_867 mU_65 mU_868) rfl rfl rfl (by decide +kernel) ⟨Nat.le_of_ble_eq_true rfl, Nat.le_of_ble_eq_true rfl⟩) ⟨z_blind _ _ _ _, fun U hU hW => z_pre zLJ hP hD hK hB hS hA wLaw_CJ wLaw_NJ hU hW⟩ rfl rfl hl.1 rfl (lv_room (Nat.le_of_ble_eq_true rfl)) dL_law_1159 ⟨by omega, by omega⟩) hP hD hS hA wLaw_CJ (fun _ => rfl) (fun r u H locs hw hP hD hS => ?_)
  obtain ⟨rfl, rfl⟩ := hw
  have hP : va_P (gD g) zCl (wLaw g ad qd st sv isS hst spare undo seen dbef drec ptx plen ppos pcnt cmds stE stF lch llen zo2.2 jd mm masd msav misS mpst mchg merr mfai mthr minp minM mUp mcar mcam mahd magn mltr mbeg mcmd mcmM mpl msz mwr mlin mliM) H := Eq.mp (congrArg (fun w => va_P (gD g) zCl w H) wLaw_SJ) hP
  have hD : va_D A (wLaw g ad qd st sv isS hst spare undo seen dbef drec ptx plen ppos pcnt cmds stE stF lch llen zo2.2 jd mm masd msav misS mpst mchg merr mfai mthr minp minM mUp mcar mcam mahd magn mltr mbeg mcmd mcmM mpl msz mwr mlin mliM) := Eq.mp (congrArg (fun w => va_D A w) wLaw_SJ) hD
  refine lv_istore (lv' := [(6, .int zo2.1), (5, .int i), (4, .ref (ad 75)), (3, .ref (ad 74)), (2, .ref (qd 0)), (1, .ref (ad 0)), (0, .ref b)]) hx hb dL_law_1162 hl (by decide) rfl (fun ls hl => ?_)
  refine lv_aload_n hx hb dL_law_1164 rfl (lv_at hl 4 rfl) ?_
  refine lv_aload_n hx hb dL_law_1165 rfl (lv_at hl 6 rfl) ?_
  refine lv_iload hx hb dL_law_1166 (lv_at hl 1 rfl) ?_
  refine lv_iconst (v := 1) hx hb dL_law_1168 (by decide) ?_
  refine lv_iadd hx hb dL_law_1169 ?_
  obtain ⟨zg3, hF⟩ := z_grd hF
  refine va_sld hx hb hX hbl hbA hS zg3 dL_law_1170 ?_
  obtain ⟨zo4, hzo4, hF⟩ := z_bind hF
  refine z_calli (fun (u : Int32) => (wModel g (qd 0) (qd 1) (qd 2) (qd 3) (qd 4) (qd 5) (qd 6) (qd 7) (qd 8) (qd 9) (qd 10) (qd 11) (qd 12) mm masd msav misS mpst mchg merr mfai u minp minM mUp mcar mcam mahd magn mltr mbeg mcmd mcmM mpl msz mwr mlin mliM)) zLM (va_runV (As := [.int (xs (Int32.toNatClampNeg (i + 1)))]) (rest := []) ⟨hx, hb, hml, hown, hts⟩ (c_X11_digitSum l g (qd 0) (qd 1) (qd 2) (qd 3) (qd 4) (qd 5) (qd 6) (qd 7) (qd 8) (qd 9) (qd 10) (qd 11) (qd 12) mm masd msav misS mpst mchg merr mfai mthr minp minM mUp mcar mcam mahd magn mltr mbeg mcmd mcmM mpl msz mwr mlin mliM _ (xs (Int32.toNatClampNeg (i + 1))) fu _ hzo4) (cwV 1 hts (gdV mU_1498 mU_1499 mU_1500 mU_75 mU_1501) rfl rfl rfl (by decide +kernel) ⟨Nat.le_of_ble_eq_true rfl, Nat.le_of_ble_eq_true rfl⟩) ⟨z_blind _ _ _ _, va_recv hK hP (ci := 7) (q0 := 76) rfl rfl, fun U hU hW => z_pre zLM hP hD hK hB hS hA wLaw_CM wLaw_NM hU hW⟩ rfl rfl hl.1 rfl (lv_room (Nat.le_of_ble_eq_true rfl)) dL_law_1171 ⟨by omega, by omega⟩) hP hD hS hA wLaw_CM (fun _ => rfl) (fun r u H locs hw hP hD hS => ?_)
  obtain ⟨rfl, rfl⟩ := hw
  have hP : va_P (gD g) zCl (wLaw g ad qd st sv isS hst spare undo seen dbef drec ptx plen ppos pcnt cmds stE stF lch llen zo2.2 jd mm masd msav misS mpst mchg merr mfai zo4.2 minp minM mUp mcar mcam mahd magn mltr mbeg mcmd mcmM mpl msz mwr mlin mliM) H := Eq.mp (congrArg (fun w => va_P (gD g) zCl w H) wLaw_SM) hP
  have hD : va_D A (wLaw g ad qd st sv isS hst spare undo seen dbef drec ptx plen ppos pcnt cmds stE stF lch llen zo2.2 jd mm masd msav misS mpst mchg merr mfai zo4.2 minp minM mUp mcar mcam mahd magn mltr mbeg mcmd mcmM mpl msz mwr mlin mliM) := Eq.mp (congrArg (fun w => va_D A w) wLaw_SM) hD
  refine lv_istore (lv' := [(7, .int zo4.1), (6, .int zo2.1), (5, .int i), (4, .ref (ad 75)), (3, .ref (ad 74)), (2, .ref (qd 0)), (1, .ref (ad 0)), (0, .ref b)]) hx hb dL_law_1174 hl (by decide) rfl (fun ls hl => ?_)
  refine lv_aload_n hx hb dL_law_1176 rfl (lv_at hl 5 rfl) ?_
  obtain ⟨zo5, hzo5, hF⟩ := z_bind hF
  refine z_calli (fun (_ : Unit) => (wModel g (qd 0) (qd 1) (qd 2) (qd 3) (qd 4) (qd 5) (qd 6) (qd 7) (qd 8) (qd 9) (qd 10) (qd 11) (qd 12) mm masd msav misS mpst mchg merr mfai zo4.2 minp minM mUp mcar mcam mahd magn mltr mbeg mcmd mcmM mpl msz mwr mlin mliM)) zLM (va_runV (As := []) (rest := []) ⟨hx, hb, hml, hown, hts⟩ (c_X11_thrown l g (qd 0) (qd 1) (qd 2) (qd 3) (qd 4) (qd 5) (qd 6) (qd 7) (qd 8) (qd 9) (qd 10) (qd 11) (qd 12) mm masd msav misS mpst mchg merr mfai zo4.2 minp minM mUp mcar mcam mahd magn mltr mbeg mcmd mcmM mpl msz mwr mlin mliM _ _ hzo5) (cwV 0 hts (gdV mU_1321 mU_1322 mU_1323 mU_75 mU_1324) rfl rfl rfl (by decide +kernel) ⟨Nat.le_of_ble_eq_true rfl, Nat.le_of_ble_eq_true rfl⟩) ⟨z_blind _ _ _ _, va_recv hK hP (ci := 7) (q0 := 76) rfl rfl, fun U hU hW => z_pre zLM hP hD hK hB hS hA wLaw_CM wLaw_NM hU hW⟩ rfl rfl hl.1 rfl (lv_room (Nat.le_of_ble_eq_true rfl)) dL_law_1177 ⟨by omega, by omega⟩) hP hD hS hA wLaw_CM (fun _ => rfl) (fun r u H locs hw hP hD hS => ?_)
  subst hw
  have hP : va_P (gD g) zCl (wLaw g ad qd st sv isS hst spare undo seen dbef drec ptx plen ppos pcnt cmds stE stF lch llen zo2.2 jd mm masd msav misS mpst mchg merr mfai zo4.2 minp minM mUp mcar mcam mahd magn mltr mbeg mcmd mcmM mpl msz mwr mlin mliM) H := Eq.mp (congrArg (fun w => va_P (gD g) zCl w H) wLaw_SM) hP
  have hD : va_D A (wLaw g ad qd st sv isS hst spare undo seen dbef drec ptx plen ppos pcnt cmds stE stF lch llen zo2.2 jd mm masd msav misS mpst mchg merr mfai zo4.2 minp minM mUp mcar mcam mahd magn mltr mbeg mcmd mcmM mpl msz mwr mlin mliM) := Eq.mp (congrArg (fun w => va_D A w) wLaw_SM) hD
  refine lv_iload hx hb dL_law_1180 (lv_at hl 1 rfl) ?_
  refine lv_icmp_eq (tgt := 1187) hx hb dL_law_1182 (by decide) (fun zc6 => ?_) (fun zc6 => ?_)
  · have hF := z_pos hF zc6
    refine lv_iload hx hb dL_law_1187 (lv_at hl 1 rfl) ?_
    refine lv_if_ne (tgt := 1204) hx hb dL_law_1189 (by decide) (fun zc7 => ?_) (fun zc7 => ?_)
    · have hF := z_neg hF zc7
      refine lv_goto (tgt := 2792) hx hb dL_law_1204 (by decide) ?_
      have ho := (Option.some.inj hF).symm
      subst ho
      refine W.widen (k := cells + 51) (n := slots + 306) (by omega) (by omega) ?_
      exact kj _ _ _ (lv_sub hl [2, 3, 4, 5, 6, 7] rfl) hP hD hS
    · have hF := z_pos hF zc7
      refine lv_aload_n hx hb dL_law_1192 rfl (lv_at hl 4 rfl) ?_
      refine lv_iconst (v := 0) hx hb dL_law_1193 (by decide) ?_
      refine va_lald hx hb hK hP 74 2 rfl rfl (by unfold vp_in; decide) dL_law_1194 ?_
      refine lv_iload hx hb dL_law_1195 (lv_at hl 0 rfl) ?_
      refine lv_i2l (v := (Int32.toInt64 zo4.1)) hx hb dL_law_1197 rfl ?_
      refine z_lcmp_eq (tgt := 1204) hx hb dL_law_1198 dL_law_1199 (by decide) (fun zc8 => ?_) (fun zc8 => ?_)
      · have hF := z_pos hF zc8
        refine lv_goto (tgt := 2792) hx hb dL_law_1204 (by decide) ?_
        have ho := (Option.some.inj hF).symm
        subst ho
        refine W.widen (k := cells + 51) (n := slots + 306) (by omega) (by omega) ?_
        exact kj _ _ _ (lv_sub hl [2, 3, 4, 5, 6, 7] rfl) hP hD hS
      · have hF := z_neg hF zc8
        refine lv_iconst (v := 0) hx hb dL_law_1202 (by decide) ?_
        exact absurd hF (by simp)
  · have hF := z_neg hF zc6
    refine lv_iconst (v := 0) hx hb dL_law_1185 (by decide) ?_
    exact absurd hF (by simp)
set_option maxHeartbeats 4000000 in
set_option maxRecDepth 100000 in
theorem k_law_1207 {p : Program} {e : Env} {s : State} {m : MethodId} {below : List Frame} {meth : Method} {c : Code} (l : Launch) (hl0 : l.stackTraces = false) {b L : Nat} {xs : Nat → Int32} (hx : p.tables.exec = Jvm.exec) (hb : c.code = cL_law) (hml : c.maxLocals = 9) (hown : s.vm.findClass RL = some m.cls) (hts : ∀ w ∈ wU, w.before #[Value.ref b] s = true) (hX : va_X b L xs s s.heap) (hbl : b < s.heap.size) {A : Nat → Prop} (hbA : ¬ A b) (hA : ∀ q, s.heap.size ≤ q → A q) (g : GG) (ad qd : Nat → Nat) (st : SS) (sv : SS) (isS : Int32) (hst : Nat → SS) (spare : Int32) (undo : Int32) (seen : Nat → Int32) (dbef : Int32) (drec : Int32) (ptx : Nat → Int32) (plen : Int32) (ppos : Int32) (pcnt : Int32) (cmds : Nat → CC) (stE : Int32) (stF : Int32) (lch : Nat → Int32) (llen : Int32) (jo : Nat → Int64) (jd : Nat → UInt64) (mm : Nat → Int64) (masd : Nat → Int64) (msav : Nat → Int64) (misS : Int32) (mpst : Nat → Int64) (mchg : Int32) (merr : Int32) (mfai : Int32) (mthr : Int32) (minp : Nat → Int32) (minM : Int32) (mUp : Nat → Int32) (mcar : Nat → Int32) (mcam : Nat → Int32) (mahd : Int32) (magn : Int32) (mltr : Nat → Int32) (mbeg : Nat → Int32) (mcmd : Nat → Int32) (mcmM : Int32) (mpl : Int32) (msz : Int32) (mwr : Int32) (mlin : Nat → Int32) (mliM : Int32) (hK : va_K (gD g) zCl (gT g) s) (hB : KB g A s s.heap) (fu : Nat) (i : Int32) (u : (Nat → Int64) × Int32) (hF : G_law_1207 fu st jo mm mthr L xs i = some u) {H : Heap} {locs : List Loc} {ls : Array Slot} {cells slots : Nat} (hc : cells + 51 ≤ 603072) (hsl : slots + 306 ≤ 7170153) (hl : lv_has ls 9 [(5, .int i), (4, .ref (ad 75)), (3, .ref (ad 74)), (2, .ref (qd 0)), (1, .ref (ad 0)), (0, .ref b)]) (hP : va_P (gD g) zCl (wLaw g ad qd st sv isS hst spare undo seen dbef drec ptx plen ppos pcnt cmds stE stF lch llen jo jd mm masd msav misS mpst mchg merr mfai mthr minp minM mUp mcar mcam mahd magn mltr mbeg mcmd mcmM mpl msz mwr mlin mliM) H) (hD : va_D A (wLaw g ad qd st sv isS hst spare undo seen dbef drec ptx plen ppos pcnt cmds stE stF lch llen jo jd mm masd msav misS mpst mchg merr mfai mthr minp minM mUp mcar mcam mahd magn mltr mbeg mcmd mcmM mpl msz mwr mlin mliM)) (hS : va_S A s.heap H locs)
    (kj : ∀ (H : Heap) (locs : List Loc) (ls : Array Slot), lv_has ls 9 [(5, .int i), (4, .ref (ad 75)), (3, .ref (ad 74)), (2, .ref (qd 0)), (1, .ref (ad 0)), (0, .ref b)] → va_P (gD g) zCl (wLaw g ad qd st sv isS hst spare undo seen dbef drec ptx plen ppos pcnt cmds stE stF lch llen u.1 jd mm masd msav misS mpst mchg merr mfai u.2 minp minM mUp mcar mcam mahd magn mltr mbeg mcmd mcmM mpl msz mwr mlin mliM) H → va_D A (wLaw g ad qd st sv isS hst spare undo seen dbef drec ptx plen ppos pcnt cmds stE stF lch llen u.1 jd mm masd msav misS mpst mchg merr mfai u.2 minp minM mUp mcar mcam mahd magn mltr mbeg mcmd mcmM mpl msz mwr mlin mliM) → va_S A s.heap H locs → W p l e room_1 s m #[Value.ref b] below meth c H locs (cells + 51) (slots + 306) (lw_Z below #[Value.ref b] s) (F0 m 2792 ls [])) : W p l e room_1 s m #[Value.ref b] below meth c H locs cells slots (lw_Z below #[Value.ref b] s) (F0 m 1207 ls []) := by
  have hc : cells + 51 ≤ room_1.cells := hc
  have hsl : slots + 306 ≤ room_1.slots := hsl
  unfold G_law_1207 at hF
  refine lv_aload_n hx hb dL_law_1207 rfl (lv_at hl 4 rfl) ?_
  refine lv_aload_n hx hb dL_law_1208 rfl (lv_at hl 5 rfl) ?_
  refine lv_iload hx hb dL_law_1209 (lv_at hl 0 rfl) ?_
  refine lv_iconst (v := 1) hx hb dL_law_1211 (by decide) ?_
  refine lv_iadd hx hb dL_law_1212 ?_
  obtain ⟨zg1, hF⟩ := z_grd hF
  refine va_sld hx hb hX hbl hbA hS zg1 dL_law_1213 ?_
  refine lv_aload_n hx hb dL_law_1214 rfl (lv_at hl 2 rfl) ?_
  obtain ⟨zo2, hzo2, hF⟩ := z_bind hF
  refine z_calli (fun (u : (Nat → Int64)) => (wRootJ g ad st sv isS hst spare undo seen dbef drec ptx plen ppos pcnt cmds stE stF lch llen u)) zLJ (vx_runSW (As := [.ref (ad 0), .int (xs (Int32.toNatClampNeg (i + 1))), .ref (ad 74)]) (rest := []) ⟨hx, hb, hml, hown, hts⟩ (c_L_numberAtRank l hl0 g ad st sv isS hst spare undo seen dbef drec ptx plen ppos pcnt cmds stE stF lch llen jo _ (xs (Int32.toNatClampNeg (i + 1))) fu _ hzo2) (vx_cwSW 3 hts (gdS mU_873 mU_874 mU_65 mU_875) rfl rfl rfl (by decide +kernel) ⟨Nat.le_of_ble_eq_true rfl, Nat.le_of_ble_eq_true rfl⟩) ⟨z_blind _ _ _ _, fun U hU hW => z_pre zLJ hP hD hK hB hS hA wLaw_CJ wLaw_NJ hU hW⟩ rfl rfl hl.1 rfl (lv_room (Nat.le_of_ble_eq_true rfl)) dL_law_1215 ⟨by omega, by omega⟩) hP hD hS hA wLaw_CJ (fun _ => rfl) (fun r u H locs hw hP hD hS => ?_)
  obtain ⟨rfl, rfl⟩ := hw
  have hP : va_P (gD g) zCl (wLaw g ad qd st sv isS hst spare undo seen dbef drec ptx plen ppos pcnt cmds stE stF lch llen zo2.2 jd mm masd msav misS mpst mchg merr mfai mthr minp minM mUp mcar mcam mahd magn mltr mbeg mcmd mcmM mpl msz mwr mlin mliM) H := Eq.mp (congrArg (fun w => va_P (gD g) zCl w H) wLaw_SJ) hP
  have hD : va_D A (wLaw g ad qd st sv isS hst spare undo seen dbef drec ptx plen ppos pcnt cmds stE stF lch llen zo2.2 jd mm masd msav misS mpst mchg merr mfai mthr minp minM mUp mcar mcam mahd magn mltr mbeg mcmd mcmM mpl msz mwr mlin mliM) := Eq.mp (congrArg (fun w => va_D A w) wLaw_SJ) hD
  refine lv_istore (lv' := [(6, .int zo2.1), (5, .int i), (4, .ref (ad 75)), (3, .ref (ad 74)), (2, .ref (qd 0)), (1, .ref (ad 0)), (0, .ref b)]) hx hb dL_law_1218 hl (by decide) rfl (fun ls hl => ?_)
  refine lv_aload_n hx hb dL_law_1220 rfl (lv_at hl 4 rfl) ?_
  refine lv_aload_n hx hb dL_law_1221 rfl (lv_at hl 6 rfl) ?_
  refine lv_iload hx hb dL_law_1222 (lv_at hl 1 rfl) ?_
  refine lv_iconst (v := 1) hx hb dL_law_1224 (by decide) ?_
  refine lv_iadd hx hb dL_law_1225 ?_
  obtain ⟨zg3, hF⟩ := z_grd hF
  refine va_sld hx hb hX hbl hbA hS zg3 dL_law_1226 ?_
  obtain ⟨zo4, hzo4, hF⟩ := z_bind hF
  refine z_calli (fun (u : Int32) => (wModel g (qd 0) (qd 1) (qd 2) (qd 3) (qd 4) (qd 5) (qd 6) (qd 7) (qd 8) (qd 9) (qd 10) (qd 11) (qd 12) mm masd msav misS mpst mchg merr mfai u minp minM mUp mcar mcam mahd magn mltr mbeg mcmd mcmM mpl msz mwr mlin mliM)) zLM (va_runV (As := [.int (xs (Int32.toNatClampNeg (i + 1)))]) (rest := []) ⟨hx, hb, hml, hown, hts⟩ (c_X11_numberAtRank l g (qd 0) (qd 1) (qd 2) (qd 3) (qd 4) (qd 5) (qd 6) (qd 7) (qd 8) (qd 9) (qd 10) (qd 11) (qd 12) mm masd msav misS mpst mchg merr mfai mthr minp minM mUp mcar mcam mahd magn mltr mbeg mcmd mcmM mpl msz mwr mlin mliM _ (xs (Int32.toNatClampNeg (i + 1))) fu _ hzo4) (cwV 1 hts (gdV mU_1502 mU_1503 mU_1504 mU_75 mU_1505) rfl rfl rfl (by decide +kernel) ⟨Nat.le_of_ble_eq_true rfl, Nat.le_of_ble_eq_true rfl⟩) ⟨z_blind _ _ _ _, va_recv hK hP (ci := 7) (q0 := 76) rfl rfl, fun U hU hW => z_pre zLM hP hD hK hB hS hA wLaw_CM wLaw_NM hU hW⟩ rfl rfl hl.1 rfl (lv_room (Nat.le_of_ble_eq_true rfl)) dL_law_1227 ⟨by omega, by omega⟩) hP hD hS hA wLaw_CM (fun _ => rfl) (fun r u H locs hw hP hD hS => ?_)
  obtain ⟨rfl, rfl⟩ := hw
  have hP : va_P (gD g) zCl (wLaw g ad qd st sv isS hst spare undo seen dbef drec ptx plen ppos pcnt cmds stE stF lch llen zo2.2 jd mm masd msav misS mpst mchg merr mfai zo4.2 minp minM mUp mcar mcam mahd magn mltr mbeg mcmd mcmM mpl msz mwr mlin mliM) H := Eq.mp (congrArg (fun w => va_P (gD g) zCl w H) wLaw_SM) hP
  have hD : va_D A (wLaw g ad qd st sv isS hst spare undo seen dbef drec ptx plen ppos pcnt cmds stE stF lch llen zo2.2 jd mm masd msav misS mpst mchg merr mfai zo4.2 minp minM mUp mcar mcam mahd magn mltr mbeg mcmd mcmM mpl msz mwr mlin mliM) := Eq.mp (congrArg (fun w => va_D A w) wLaw_SM) hD
  refine lv_istore (lv' := [(7, .int zo4.1), (6, .int zo2.1), (5, .int i), (4, .ref (ad 75)), (3, .ref (ad 74)), (2, .ref (qd 0)), (1, .ref (ad 0)), (0, .ref b)]) hx hb dL_law_1230 hl (by decide) rfl (fun ls hl => ?_)
  refine lv_aload_n hx hb dL_law_1232 rfl (lv_at hl 5 rfl) ?_
  obtain ⟨zo5, hzo5, hF⟩ := z_bind hF
  refine z_calli (fun (_ : Unit) => (wModel g (qd 0) (qd 1) (qd 2) (qd 3) (qd 4) (qd 5) (qd 6) (qd 7) (qd 8) (qd 9) (qd 10) (qd 11) (qd 12) mm masd msav misS mpst mchg merr mfai zo4.2 minp minM mUp mcar mcam mahd magn mltr mbeg mcmd mcmM mpl msz mwr mlin mliM)) zLM (va_runV (As := []) (rest := []) ⟨hx, hb, hml, hown, hts⟩ (c_X11_thrown l g (qd 0) (qd 1) (qd 2) (qd 3) (qd 4) (qd 5) (qd 6) (qd 7) (qd 8) (qd 9) (qd 10) (qd 11) (qd 12) mm masd msav misS mpst mchg merr mfai zo4.2 minp minM mUp mcar mcam mahd magn mltr mbeg mcmd mcmM mpl msz mwr mlin mliM _ _ hzo5) (cwV 0 hts (gdV mU_1321 mU_1322 mU_1323 mU_75 mU_1324) rfl rfl rfl (by decide +kernel) ⟨Nat.le_of_ble_eq_true rfl, Nat.le_of_ble_eq_true rfl⟩) ⟨z_blind _ _ _ _, va_recv hK hP (ci := 7) (q0 := 76) rfl rfl, fun U hU hW => z_pre zLM hP hD hK hB hS hA wLaw_CM wLaw_NM hU hW⟩ rfl rfl hl.1 rfl (lv_room (Nat.le_of_ble_eq_true rfl)) dL_law_1233 ⟨by omega, by omega⟩) hP hD hS hA wLaw_CM (fun _ => rfl) (fun r u H locs hw hP hD hS => ?_)
  subst hw
  have hP : va_P (gD g) zCl (wLaw g ad qd st sv isS hst spare undo seen dbef drec ptx plen ppos pcnt cmds stE stF lch llen zo2.2 jd mm masd msav misS mpst mchg merr mfai zo4.2 minp minM mUp mcar mcam mahd magn mltr mbeg mcmd mcmM mpl msz mwr mlin mliM) H := Eq.mp (congrArg (fun w => va_P (gD g) zCl w H) wLaw_SM) hP
  have hD : va_D A (wLaw g ad qd st sv isS hst spare undo seen dbef drec ptx plen ppos pcnt cmds stE stF lch llen zo2.2 jd mm masd msav misS mpst mchg merr mfai zo4.2 minp minM mUp mcar mcam mahd magn mltr mbeg mcmd mcmM mpl msz mwr mlin mliM) := Eq.mp (congrArg (fun w => va_D A w) wLaw_SM) hD
  refine lv_iload hx hb dL_law_1236 (lv_at hl 1 rfl) ?_
  refine lv_icmp_eq (tgt := 1243) hx hb dL_law_1238 (by decide) (fun zc6 => ?_) (fun zc6 => ?_)
  · have hF := z_pos hF zc6
    refine lv_iload hx hb dL_law_1243 (lv_at hl 1 rfl) ?_
    refine lv_if_ne (tgt := 1260) hx hb dL_law_1245 (by decide) (fun zc7 => ?_) (fun zc7 => ?_)
    · have hF := z_neg hF zc7
      refine lv_goto (tgt := 2792) hx hb dL_law_1260 (by decide) ?_
      have ho := (Option.some.inj hF).symm
      subst ho
      refine W.widen (k := cells + 51) (n := slots + 306) (by omega) (by omega) ?_
      exact kj _ _ _ (lv_sub hl [2, 3, 4, 5, 6, 7] rfl) hP hD hS
    · have hF := z_pos hF zc7
      refine lv_aload_n hx hb dL_law_1248 rfl (lv_at hl 4 rfl) ?_
      refine lv_iconst (v := 0) hx hb dL_law_1249 (by decide) ?_
      refine va_lald hx hb hK hP 74 2 rfl rfl (by unfold vp_in; decide) dL_law_1250 ?_
      refine lv_iload hx hb dL_law_1251 (lv_at hl 0 rfl) ?_
      refine lv_i2l (v := (Int32.toInt64 zo4.1)) hx hb dL_law_1253 rfl ?_
      refine z_lcmp_eq (tgt := 1260) hx hb dL_law_1254 dL_law_1255 (by decide) (fun zc8 => ?_) (fun zc8 => ?_)
      · have hF := z_pos hF zc8
        refine lv_goto (tgt := 2792) hx hb dL_law_1260 (by decide) ?_
        have ho := (Option.some.inj hF).symm
        subst ho
        refine W.widen (k := cells + 51) (n := slots + 306) (by omega) (by omega) ?_
        exact kj _ _ _ (lv_sub hl [2, 3, 4, 5, 6, 7] rfl) hP hD hS
      · have hF := z_neg hF zc8
        refine lv_iconst (v := 0) hx hb dL_law_1258 (by decide) ?_
        exact absurd hF (by simp)
  · have hF := z_neg hF zc6
    refine lv_iconst (v := 0) hx hb dL_law_1241 (by decide) ?_
    exact absurd hF (by simp)
set_option maxHeartbeats 4000000 in
set_option maxRecDepth 100000 in
theorem k_law_1263 {p : Program} {e : Env} {s : State} {m : MethodId} {below : List Frame} {meth : Method} {c : Code} (l : Launch) (hl0 : l.stackTraces = false) {b L : Nat} {xs : Nat → Int32} (hx : p.tables.exec = Jvm.exec) (hb : c.code = cL_law) (hml : c.maxLocals = 9) (hown : s.vm.findClass RL = some m.cls) (hts : ∀ w ∈ wU, w.before #[Value.ref b] s = true) (hX : va_X b L xs s s.heap) (hbl : b < s.heap.size) {A : Nat → Prop} (hbA : ¬ A b) (hA : ∀ q, s.heap.size ≤ q → A q) (g : GG) (ad qd : Nat → Nat) (st : SS) (sv : SS) (isS : Int32) (hst : Nat → SS) (spare : Int32) (undo : Int32) (seen : Nat → Int32) (dbef : Int32) (drec : Int32) (ptx : Nat → Int32) (plen : Int32) (ppos : Int32) (pcnt : Int32) (cmds : Nat → CC) (stE : Int32) (stF : Int32) (lch : Nat → Int32) (llen : Int32) (jo : Nat → Int64) (jd : Nat → UInt64) (mm : Nat → Int64) (masd : Nat → Int64) (msav : Nat → Int64) (misS : Int32) (mpst : Nat → Int64) (mchg : Int32) (merr : Int32) (mfai : Int32) (mthr : Int32) (minp : Nat → Int32) (minM : Int32) (mUp : Nat → Int32) (mcar : Nat → Int32) (mcam : Nat → Int32) (mahd : Int32) (magn : Int32) (mltr : Nat → Int32) (mbeg : Nat → Int32) (mcmd : Nat → Int32) (mcmM : Int32) (mpl : Int32) (msz : Int32) (mwr : Int32) (mlin : Nat → Int32) (mliM : Int32) (hK : va_K (gD g) zCl (gT g) s) (hB : KB g A s s.heap) (fu : Nat) (i : Int32) (u : (Nat → Int64) × Int32) (hF : G_law_1263 fu st jo mm mthr L xs i = some u) {H : Heap} {locs : List Loc} {ls : Array Slot} {cells slots : Nat} (hc : cells + 51 ≤ 603072) (hsl : slots + 306 ≤ 7170153) (hl : lv_has ls 9 [(5, .int i), (4, .ref (ad 75)), (3, .ref (ad 74)), (2, .ref (qd 0)), (1, .ref (ad 0)), (0, .ref b)]) (hP : va_P (gD g) zCl (wLaw g ad qd st sv isS hst spare undo seen dbef drec ptx plen ppos pcnt cmds stE stF lch llen jo jd mm masd msav misS mpst mchg merr mfai mthr minp minM mUp mcar mcam mahd magn mltr mbeg mcmd mcmM mpl msz mwr mlin mliM) H) (hD : va_D A (wLaw g ad qd st sv isS hst spare undo seen dbef drec ptx plen ppos pcnt cmds stE stF lch llen jo jd mm masd msav misS mpst mchg merr mfai mthr minp minM mUp mcar mcam mahd magn mltr mbeg mcmd mcmM mpl msz mwr mlin mliM)) (hS : va_S A s.heap H locs)
    (kj : ∀ (H : Heap) (locs : List Loc) (ls : Array Slot), lv_has ls 9 [(5, .int i), (4, .ref (ad 75)), (3, .ref (ad 74)), (2, .ref (qd 0)), (1, .ref (ad 0)), (0, .ref b)] → va_P (gD g) zCl (wLaw g ad qd st sv isS hst spare undo seen dbef drec ptx plen ppos pcnt cmds stE stF lch llen u.1 jd mm masd msav misS mpst mchg merr mfai u.2 minp minM mUp mcar mcam mahd magn mltr mbeg mcmd mcmM mpl msz mwr mlin mliM) H → va_D A (wLaw g ad qd st sv isS hst spare undo seen dbef drec ptx plen ppos pcnt cmds stE stF lch llen u.1 jd mm masd msav misS mpst mchg merr mfai u.2 minp minM mUp mcar mcam mahd magn mltr mbeg mcmd mcmM mpl msz mwr mlin mliM) → va_S A s.heap H locs → W p l e room_1 s m #[Value.ref b] below meth c H locs (cells + 51) (slots + 306) (lw_Z below #[Value.ref b] s) (F0 m 2792 ls [])) : W p l e room_1 s m #[Value.ref b] below meth c H locs cells slots (lw_Z below #[Value.ref b] s) (F0 m 1263 ls []) := by
  have hc : cells + 51 ≤ room_1.cells := hc
  have hsl : slots + 306 ≤ room_1.slots := hsl
  unfold G_law_1263 at hF
  refine lv_aload_n hx hb dL_law_1263 rfl (lv_at hl 4 rfl) ?_
  refine lv_aload_n hx hb dL_law_1264 rfl (lv_at hl 5 rfl) ?_
  refine lv_iload hx hb dL_law_1265 (lv_at hl 0 rfl) ?_
  refine lv_iconst (v := 1) hx hb dL_law_1267 (by decide) ?_
  refine lv_iadd hx hb dL_law_1268 ?_
  obtain ⟨zg1, hF⟩ := z_grd hF
  refine va_sld hx hb hX hbl hbA hS zg1 dL_law_1269 ?_
  refine lv_aload_n hx hb dL_law_1270 rfl (lv_at hl 5 rfl) ?_
  refine lv_iload hx hb dL_law_1271 (lv_at hl 0 rfl) ?_
  refine lv_iconst (v := 2) hx hb dL_law_1273 (by decide) ?_
  refine lv_iadd hx hb dL_law_1274 ?_
  obtain ⟨zg2, hF⟩ := z_grd hF
  refine va_sld hx hb hX hbl hbA hS zg2 dL_law_1275 ?_
  refine lv_aload_n hx hb dL_law_1276 rfl (lv_at hl 5 rfl) ?_
  refine lv_iload hx hb dL_law_1277 (lv_at hl 0 rfl) ?_
  refine lv_iconst (v := 3) hx hb dL_law_1279 (by decide) ?_
  refine lv_iadd hx hb dL_law_1280 ?_
  obtain ⟨zg3, hF⟩ := z_grd hF
  refine va_sld hx hb hX hbl hbA hS zg3 dL_law_1281 ?_
  refine lv_i2c (v := (zchar (xs (Int32.toNatClampNeg (i + 3))))) hx hb dL_law_1282 rfl ?_
  refine lv_aload_n hx hb dL_law_1283 rfl (lv_at hl 2 rfl) ?_
  obtain ⟨zo4, hzo4, hF⟩ := z_bind hF
  refine z_calli (fun (u : (Nat → Int64)) => (wRootJ g ad st sv isS hst spare undo seen dbef drec ptx plen ppos pcnt cmds stE stF lch llen u)) zLJ (vx_runSW (As := [.ref (ad 0), .int (xs (Int32.toNatClampNeg (i + 1))), .int (xs (Int32.toNatClampNeg (i + 2))), .int (zchar (xs (Int32.toNatClampNeg (i + 3)))), .ref (ad 74)]) (rest := []) ⟨hx, hb, hml, hown, hts⟩ (c_L_rounded l hl0 g ad st sv isS hst spare undo seen dbef drec ptx plen ppos pcnt cmds stE stF lch llen jo _ (xs (Int32.toNatClampNeg (i + 1))) (xs (Int32.toNatClampNeg (i + 2))) (zchar (xs (Int32.toNatClampNeg (i + 3)))) fu _ hzo4) (vx_cwSW 5 hts (gdS mU_889 mU_890 mU_65 mU_891) rfl rfl rfl (by decide +kernel) ⟨Nat.le_of_ble_eq_true rfl, Nat.le_of_ble_eq_true rfl⟩) ⟨z_blind _ _ _ _, fun U hU hW => z_pre zLJ hP hD hK hB hS hA wLaw_CJ wLaw_NJ hU hW⟩ rfl rfl hl.1 rfl (lv_room (Nat.le_of_ble_eq_true rfl)) dL_law_1284 ⟨by omega, by omega⟩) hP hD hS hA wLaw_CJ (fun _ => rfl) (fun r u H locs hw hP hD hS => ?_)
  obtain ⟨rfl, rfl⟩ := hw
  have hP : va_P (gD g) zCl (wLaw g ad qd st sv isS hst spare undo seen dbef drec ptx plen ppos pcnt cmds stE stF lch llen zo4.2 jd mm masd msav misS mpst mchg merr mfai mthr minp minM mUp mcar mcam mahd magn mltr mbeg mcmd mcmM mpl msz mwr mlin mliM) H := Eq.mp (congrArg (fun w => va_P (gD g) zCl w H) wLaw_SJ) hP
  have hD : va_D A (wLaw g ad qd st sv isS hst spare undo seen dbef drec ptx plen ppos pcnt cmds stE stF lch llen zo4.2 jd mm masd msav misS mpst mchg merr mfai mthr minp minM mUp mcar mcam mahd magn mltr mbeg mcmd mcmM mpl msz mwr mlin mliM) := Eq.mp (congrArg (fun w => va_D A w) wLaw_SJ) hD
  refine lv_istore (lv' := [(6, .int zo4.1), (5, .int i), (4, .ref (ad 75)), (3, .ref (ad 74)), (2, .ref (qd 0)), (1, .ref (ad 0)), (0, .ref b)]) hx hb dL_law_1287 hl (by decide) rfl (fun ls hl => ?_)
  refine lv_aload_n hx hb dL_law_1289 rfl (lv_at hl 4 rfl) ?_
  refine lv_aload_n hx hb dL_law_1290 rfl (lv_at hl 6 rfl) ?_
  refine lv_iload hx hb dL_law_1291 (lv_at hl 1 rfl) ?_
  refine lv_iconst (v := 1) hx hb dL_law_1293 (by decide) ?_
  refine lv_iadd hx hb dL_law_1294 ?_
  obtain ⟨zg5, hF⟩ := z_grd hF
  refine va_sld hx hb hX hbl hbA hS zg5 dL_law_1295 ?_
  refine lv_aload_n hx hb dL_law_1296 rfl (lv_at hl 6 rfl) ?_
  refine lv_iload hx hb dL_law_1297 (lv_at hl 1 rfl) ?_
  refine lv_iconst (v := 2) hx hb dL_law_1299 (by decide) ?_
  refine lv_iadd hx hb dL_law_1300 ?_
  obtain ⟨zg6, hF⟩ := z_grd hF
  refine va_sld hx hb hX hbl hbA hS zg6 dL_law_1301 ?_
  refine lv_aload_n hx hb dL_law_1302 rfl (lv_at hl 6 rfl) ?_
  refine lv_iload hx hb dL_law_1303 (lv_at hl 1 rfl) ?_
  refine lv_iconst (v := 3) hx hb dL_law_1305 (by decide) ?_
  refine lv_iadd hx hb dL_law_1306 ?_
  obtain ⟨zg7, hF⟩ := z_grd hF
  refine va_sld hx hb hX hbl hbA hS zg7 dL_law_1307 ?_
  refine lv_i2c (v := (zchar (xs (Int32.toNatClampNeg (i + 3))))) hx hb dL_law_1308 rfl ?_
  obtain ⟨zo8, hzo8, hF⟩ := z_bind hF
  refine z_calll (fun (u : Int32) => (wModel g (qd 0) (qd 1) (qd 2) (qd 3) (qd 4) (qd 5) (qd 6) (qd 7) (qd 8) (qd 9) (qd 10) (qd 11) (qd 12) mm masd msav misS mpst mchg merr mfai u minp minM mUp mcar mcam mahd magn mltr mbeg mcmd mcmM mpl msz mwr mlin mliM)) zLM (va_runV (As := [.int (xs (Int32.toNatClampNeg (i + 1))), .int (xs (Int32.toNatClampNeg (i + 2))), .int (zchar (xs (Int32.toNatClampNeg (i + 3))))]) (rest := []) ⟨hx, hb, hml, hown, hts⟩ (c_X11_rounded l g (qd 0) (qd 1) (qd 2) (qd 3) (qd 4) (qd 5) (qd 6) (qd 7) (qd 8) (qd 9) (qd 10) (qd 11) (qd 12) mm masd msav misS mpst mchg merr mfai mthr minp minM mUp mcar mcam mahd magn mltr mbeg mcmd mcmM mpl msz mwr mlin mliM _ (xs (Int32.toNatClampNeg (i + 1))) (xs (Int32.toNatClampNeg (i + 2))) (zchar (xs (Int32.toNatClampNeg (i + 3)))) fu _ hzo8) (cwV 3 hts (gdV mU_1510 mU_1511 mU_1512 mU_75 mU_1513) rfl rfl rfl (by decide +kernel) ⟨Nat.le_of_ble_eq_true rfl, Nat.le_of_ble_eq_true rfl⟩) ⟨z_blind _ _ _ _, va_recv hK hP (ci := 7) (q0 := 76) rfl rfl, fun U hU hW => z_pre zLM hP hD hK hB hS hA wLaw_CM wLaw_NM hU hW⟩ rfl rfl hl.1 rfl (lv_room (Nat.le_of_ble_eq_true rfl)) dL_law_1309 ⟨by omega, by omega⟩) hP hD hS hA wLaw_CM (fun _ => rfl) (fun r u H locs hw hP hD hS => ?_)
  obtain ⟨rfl, rfl⟩ := hw
  have hP : va_P (gD g) zCl (wLaw g ad qd st sv isS hst spare undo seen dbef drec ptx plen ppos pcnt cmds stE stF lch llen zo4.2 jd mm masd msav misS mpst mchg merr mfai zo8.2 minp minM mUp mcar mcam mahd magn mltr mbeg mcmd mcmM mpl msz mwr mlin mliM) H := Eq.mp (congrArg (fun w => va_P (gD g) zCl w H) wLaw_SM) hP
  have hD : va_D A (wLaw g ad qd st sv isS hst spare undo seen dbef drec ptx plen ppos pcnt cmds stE stF lch llen zo4.2 jd mm masd msav misS mpst mchg merr mfai zo8.2 minp minM mUp mcar mcam mahd magn mltr mbeg mcmd mcmM mpl msz mwr mlin mliM) := Eq.mp (congrArg (fun w => va_D A w) wLaw_SM) hD
  refine lv_lstore (lv' := [(7, .long zo8.1), (6, .int zo4.1), (5, .int i), (4, .ref (ad 75)), (3, .ref (ad 74)), (2, .ref (qd 0)), (1, .ref (ad 0)), (0, .ref b)]) hx hb dL_law_1312 hl (by decide) rfl (fun ls hl => ?_)
  refine lv_aload_n hx hb dL_law_1314 rfl (lv_at hl 5 rfl) ?_
  obtain ⟨zo9, hzo9, hF⟩ := z_bind hF
  refine z_calli (fun (_ : Unit) => (wModel g (qd 0) (qd 1) (qd 2) (qd 3) (qd 4) (qd 5) (qd 6) (qd 7) (qd 8) (qd 9) (qd 10) (qd 11) (qd 12) mm masd msav misS mpst mchg merr mfai zo8.2 minp minM mUp mcar mcam mahd magn mltr mbeg mcmd mcmM mpl msz mwr mlin mliM)) zLM (va_runV (As := []) (rest := []) ⟨hx, hb, hml, hown, hts⟩ (c_X11_thrown l g (qd 0) (qd 1) (qd 2) (qd 3) (qd 4) (qd 5) (qd 6) (qd 7) (qd 8) (qd 9) (qd 10) (qd 11) (qd 12) mm masd msav misS mpst mchg merr mfai zo8.2 minp minM mUp mcar mcam mahd magn mltr mbeg mcmd mcmM mpl msz mwr mlin mliM _ _ hzo9) (cwV 0 hts (gdV mU_1321 mU_1322 mU_1323 mU_75 mU_1324) rfl rfl rfl (by decide +kernel) ⟨Nat.le_of_ble_eq_true rfl, Nat.le_of_ble_eq_true rfl⟩) ⟨z_blind _ _ _ _, va_recv hK hP (ci := 7) (q0 := 76) rfl rfl, fun U hU hW => z_pre zLM hP hD hK hB hS hA wLaw_CM wLaw_NM hU hW⟩ rfl rfl hl.1 rfl (lv_room (Nat.le_of_ble_eq_true rfl)) dL_law_1315 ⟨by omega, by omega⟩) hP hD hS hA wLaw_CM (fun _ => rfl) (fun r u H locs hw hP hD hS => ?_)
  subst hw
  have hP : va_P (gD g) zCl (wLaw g ad qd st sv isS hst spare undo seen dbef drec ptx plen ppos pcnt cmds stE stF lch llen zo4.2 jd mm masd msav misS mpst mchg merr mfai zo8.2 minp minM mUp mcar mcam mahd magn mltr mbeg mcmd mcmM mpl msz mwr mlin mliM) H := Eq.mp (congrArg (fun w => va_P (gD g) zCl w H) wLaw_SM) hP
  have hD : va_D A (wLaw g ad qd st sv isS hst spare undo seen dbef drec ptx plen ppos pcnt cmds stE stF lch llen zo4.2 jd mm masd msav misS mpst mchg merr mfai zo8.2 minp minM mUp mcar mcam mahd magn mltr mbeg mcmd mcmM mpl msz mwr mlin mliM) := Eq.mp (congrArg (fun w => va_D A w) wLaw_SM) hD
  refine lv_iload hx hb dL_law_1318 (lv_at hl 1 rfl) ?_
  refine lv_icmp_eq (tgt := 1325) hx hb dL_law_1320 (by decide) (fun zc10 => ?_) (fun zc10 => ?_)
  · have hF := z_pos hF zc10
    refine lv_iload hx hb dL_law_1325 (lv_at hl 1 rfl) ?_
    refine lv_if_ne (tgt := 1341) hx hb dL_law_1327 (by decide) (fun zc11 => ?_) (fun zc11 => ?_)
    · have hF := z_neg hF zc11
      refine lv_goto (tgt := 2792) hx hb dL_law_1341 (by decide) ?_
      have ho := (Option.some.inj hF).symm
      subst ho
      refine W.widen (k := cells + 51) (n := slots + 306) (by omega) (by omega) ?_
      exact kj _ _ _ (lv_sub hl [2, 3, 4, 5, 6, 7] rfl) hP hD hS
    · have hF := z_pos hF zc11
      refine lv_aload_n hx hb dL_law_1330 rfl (lv_at hl 4 rfl) ?_
      refine lv_iconst (v := 0) hx hb dL_law_1331 (by decide) ?_
      refine va_lald hx hb hK hP 74 2 rfl rfl (by unfold vp_in; decide) dL_law_1332 ?_
      refine lv_lload hx hb dL_law_1333 (lv_at hl 0 rfl) ?_
      refine z_lcmp_eq (tgt := 1341) hx hb dL_law_1335 dL_law_1336 (by decide) (fun zc12 => ?_) (fun zc12 => ?_)
      · have hF := z_pos hF zc12
        refine lv_goto (tgt := 2792) hx hb dL_law_1341 (by decide) ?_
        have ho := (Option.some.inj hF).symm
        subst ho
        refine W.widen (k := cells + 51) (n := slots + 306) (by omega) (by omega) ?_
        exact kj _ _ _ (lv_sub hl [2, 3, 4, 5, 6, 7] rfl) hP hD hS
      · have hF := z_neg hF zc12
        refine lv_iconst (v := 0) hx hb dL_law_1339 (by decide) ?_
        exact absurd hF (by simp)
  · have hF := z_neg hF zc10
    refine lv_iconst (v := 0) hx hb dL_law_1323 (by decide) ?_
    exact absurd hF (by simp)
set_option maxHeartbeats 4000000 in
set_option maxRecDepth 100000 in
theorem k_law_1344 {p : Program} {e : Env} {s : State} {m : MethodId} {below : List Frame} {meth : Method} {c : Code} (l : Launch) (hl0 : l.stackTraces = false) {b L : Nat} {xs : Nat → Int32} (hx : p.tables.exec = Jvm.exec) (hb : c.code = cL_law) (hml : c.maxLocals = 9) (hown : s.vm.findClass RL = some m.cls) (hts : ∀ w ∈ wU, w.before #[Value.ref b] s = true) (hX : va_X b L xs s s.heap) (hbl : b < s.heap.size) {A : Nat → Prop} (hbA : ¬ A b) (hA : ∀ q, s.heap.size ≤ q → A q) (g : GG) (ad qd : Nat → Nat) (st : SS) (sv : SS) (isS : Int32) (hst : Nat → SS) (spare : Int32) (undo : Int32) (seen : Nat → Int32) (dbef : Int32) (drec : Int32) (ptx : Nat → Int32) (plen : Int32) (ppos : Int32) (pcnt : Int32) (cmds : Nat → CC) (stE : Int32) (stF : Int32) (lch : Nat → Int32) (llen : Int32) (jo : Nat → Int64) (jd : Nat → UInt64) (mm : Nat → Int64) (masd : Nat → Int64) (msav : Nat → Int64) (misS : Int32) (mpst : Nat → Int64) (mchg : Int32) (merr : Int32) (mfai : Int32) (mthr : Int32) (minp : Nat → Int32) (minM : Int32) (mUp : Nat → Int32) (mcar : Nat → Int32) (mcam : Nat → Int32) (mahd : Int32) (magn : Int32) (mltr : Nat → Int32) (mbeg : Nat → Int32) (mcmd : Nat → Int32) (mcmM : Int32) (mpl : Int32) (msz : Int32) (mwr : Int32) (mlin : Nat → Int32) (mliM : Int32) (hK : va_K (gD g) zCl (gT g) s) (hB : KB g A s s.heap) (fu : Nat) (i : Int32) (u : (Nat → Int64) × Int32) (hF : G_law_1344 fu st jo mm mthr L xs i = some u) {H : Heap} {locs : List Loc} {ls : Array Slot} {cells slots : Nat} (hc : cells + 51 ≤ 603072) (hsl : slots + 306 ≤ 7170153) (hl : lv_has ls 9 [(5, .int i), (4, .ref (ad 75)), (3, .ref (ad 74)), (2, .ref (qd 0)), (1, .ref (ad 0)), (0, .ref b)]) (hP : va_P (gD g) zCl (wLaw g ad qd st sv isS hst spare undo seen dbef drec ptx plen ppos pcnt cmds stE stF lch llen jo jd mm masd msav misS mpst mchg merr mfai mthr minp minM mUp mcar mcam mahd magn mltr mbeg mcmd mcmM mpl msz mwr mlin mliM) H) (hD : va_D A (wLaw g ad qd st sv isS hst spare undo seen dbef drec ptx plen ppos pcnt cmds stE stF lch llen jo jd mm masd msav misS mpst mchg merr mfai mthr minp minM mUp mcar mcam mahd magn mltr mbeg mcmd mcmM mpl msz mwr mlin mliM)) (hS : va_S A s.heap H locs)
    (kj : ∀ (H : Heap) (locs : List Loc) (ls : Array Slot), lv_has ls 9 [(5, .int i), (4, .ref (ad 75)), (3, .ref (ad 74)), (2, .ref (qd 0)), (1, .ref (ad 0)), (0, .ref b)] → va_P (gD g) zCl (wLaw g ad qd st sv isS hst spare undo seen dbef drec ptx plen ppos pcnt cmds stE stF lch llen u.1 jd mm masd msav misS mpst mchg merr mfai u.2 minp minM mUp mcar mcam mahd magn mltr mbeg mcmd mcmM mpl msz mwr mlin mliM) H → va_D A (wLaw g ad qd st sv isS hst spare undo seen dbef drec ptx plen ppos pcnt cmds stE stF lch llen u.1 jd mm masd msav misS mpst mchg merr mfai u.2 minp minM mUp mcar mcam mahd magn mltr mbeg mcmd mcmM mpl msz mwr mlin mliM) → va_S A s.heap H locs → W p l e room_1 s m #[Value.ref b] below meth c H locs (cells + 51) (slots + 306) (lw_Z below #[Value.ref b] s) (F0 m 2792 ls [])) : W p l e room_1 s m #[Value.ref b] below meth c H locs cells slots (lw_Z below #[Value.ref b] s) (F0 m 1344 ls []) := by
  have hc : cells + 51 ≤ room_1.cells := hc
  have hsl : slots + 306 ≤ room_1.slots := hsl
  unfold G_law_1344 at hF
  refine lv_aload_n hx hb dL_law_1344 rfl (lv_at hl 4 rfl) ?_
  refine lv_aload_n hx hb dL_law_1345 rfl (lv_at hl 5 rfl) ?_
  refine lv_iload hx hb dL_law_1346 (lv_at hl 0 rfl) ?_
  refine lv_iconst (v := 1) hx hb dL_law_1348 (by decide) ?_
  refine lv_iadd hx hb dL_law_1349 ?_
  obtain ⟨zg1, hF⟩ := z_grd hF
  refine va_sld hx hb hX hbl hbA hS zg1 dL_law_1350 ?_
  refine lv_aload_n hx hb dL_law_1351 rfl (lv_at hl 5 rfl) ?_
  refine lv_iload hx hb dL_law_1352 (lv_at hl 0 rfl) ?_
  refine lv_iconst (v := 2) hx hb dL_law_1354 (by decide) ?_
  refine lv_iadd hx hb dL_law_1355 ?_
  obtain ⟨zg2, hF⟩ := z_grd hF
  refine va_sld hx hb hX hbl hbA hS zg2 dL_law_1356 ?_
  refine lv_aload_n hx hb dL_law_1357 rfl (lv_at hl 5 rfl) ?_
  refine lv_iload hx hb dL_law_1358 (lv_at hl 0 rfl) ?_
  refine lv_iconst (v := 3) hx hb dL_law_1360 (by decide) ?_
  refine lv_iadd hx hb dL_law_1361 ?_
  obtain ⟨zg3, hF⟩ := z_grd hF
  refine va_sld hx hb hX hbl hbA hS zg3 dL_law_1362 ?_
  refine lv_aload_n hx hb dL_law_1363 rfl (lv_at hl 2 rfl) ?_
  obtain ⟨zo4, hzo4, hF⟩ := z_bind hF
  refine z_calli (fun (u : (Nat → Int64)) => (wRootJ g ad st sv isS hst spare undo seen dbef drec ptx plen ppos pcnt cmds stE stF lch llen u)) zLJ (vx_runSW (As := [.ref (ad 0), .int (xs (Int32.toNatClampNeg (i + 1))), .int (xs (Int32.toNatClampNeg (i + 2))), .int (xs (Int32.toNatClampNeg (i + 3))), .ref (ad 74)]) (rest := []) ⟨hx, hb, hml, hown, hts⟩ (c_L_part l hl0 g ad st sv isS hst spare undo seen dbef drec ptx plen ppos pcnt cmds stE stF lch llen jo _ (xs (Int32.toNatClampNeg (i + 1))) (xs (Int32.toNatClampNeg (i + 2))) (xs (Int32.toNatClampNeg (i + 3))) fu _ hzo4) (vx_cwSW 5 hts (gdS mU_897 mU_898 mU_65 mU_899) rfl rfl rfl (by decide +kernel) ⟨Nat.le_of_ble_eq_true rfl, Nat.le_of_ble_eq_true rfl⟩) ⟨z_blind _ _ _ _, fun U hU hW => z_pre zLJ hP hD hK hB hS hA wLaw_CJ wLaw_NJ hU hW⟩ rfl rfl hl.1 rfl (lv_room (Nat.le_of_ble_eq_true rfl)) dL_law_1364 ⟨by omega, by omega⟩) hP hD hS hA wLaw_CJ (fun _ => rfl) (fun r u H locs hw hP hD hS => ?_)
  obtain ⟨rfl, rfl⟩ := hw
  have hP : va_P (gD g) zCl (wLaw g ad qd st sv isS hst spare undo seen dbef drec ptx plen ppos pcnt cmds stE stF lch llen zo4.2 jd mm masd msav misS mpst mchg merr mfai mthr minp minM mUp mcar mcam mahd magn mltr mbeg mcmd mcmM mpl msz mwr mlin mliM) H := Eq.mp (congrArg (fun w => va_P (gD g) zCl w H) wLaw_SJ) hP
  have hD : va_D A (wLaw g ad qd st sv isS hst spare undo seen dbef drec ptx plen ppos pcnt cmds stE stF lch llen zo4.2 jd mm masd msav misS mpst mchg merr mfai mthr minp minM mUp mcar mcam mahd magn mltr mbeg mcmd mcmM mpl msz mwr mlin mliM) := Eq.mp (congrArg (fun w => va_D A w) wLaw_SJ) hD
  refine lv_istore (lv' := [(6, .int zo4.1), (5, .int i), (4, .ref (ad 75)), (3, .ref (ad 74)), (2, .ref (qd 0)), (1, .ref (ad 0)), (0, .ref b)]) hx hb dL_law_1367 hl (by decide) rfl (fun ls hl => ?_)
  refine lv_aload_n hx hb dL_law_1369 rfl (lv_at hl 4 rfl) ?_
  refine lv_aload_n hx hb dL_law_1370 rfl (lv_at hl 6 rfl) ?_
  refine lv_iload hx hb dL_law_1371 (lv_at hl 1 rfl) ?_
  refine lv_iconst (v := 1) hx hb dL_law_1373 (by decide) ?_
  refine lv_iadd hx hb dL_law_1374 ?_
  obtain ⟨zg5, hF⟩ := z_grd hF
  refine va_sld hx hb hX hbl hbA hS zg5 dL_law_1375 ?_
  refine lv_aload_n hx hb dL_law_1376 rfl (lv_at hl 6 rfl) ?_
  refine lv_iload hx hb dL_law_1377 (lv_at hl 1 rfl) ?_
  refine lv_iconst (v := 2) hx hb dL_law_1379 (by decide) ?_
  refine lv_iadd hx hb dL_law_1380 ?_
  obtain ⟨zg6, hF⟩ := z_grd hF
  refine va_sld hx hb hX hbl hbA hS zg6 dL_law_1381 ?_
  refine lv_aload_n hx hb dL_law_1382 rfl (lv_at hl 6 rfl) ?_
  refine lv_iload hx hb dL_law_1383 (lv_at hl 1 rfl) ?_
  refine lv_iconst (v := 3) hx hb dL_law_1385 (by decide) ?_
  refine lv_iadd hx hb dL_law_1386 ?_
  obtain ⟨zg7, hF⟩ := z_grd hF
  refine va_sld hx hb hX hbl hbA hS zg7 dL_law_1387 ?_
  obtain ⟨zo8, hzo8, hF⟩ := z_bind hF
  refine z_calll (fun (u : Int32) => (wModel g (qd 0) (qd 1) (qd 2) (qd 3) (qd 4) (qd 5) (qd 6) (qd 7) (qd 8) (qd 9) (qd 10) (qd 11) (qd 12) mm masd msav misS mpst mchg merr mfai u minp minM mUp mcar mcam mahd magn mltr mbeg mcmd mcmM mpl msz mwr mlin mliM)) zLM (va_runV (As := [.int (xs (Int32.toNatClampNeg (i + 1))), .int (xs (Int32.toNatClampNeg (i + 2))), .int (xs (Int32.toNatClampNeg (i + 3)))]) (rest := []) ⟨hx, hb, hml, hown, hts⟩ (c_X11_part l g (qd 0) (qd 1) (qd 2) (qd 3) (qd 4) (qd 5) (qd 6) (qd 7) (qd 8) (qd 9) (qd 10) (qd 11) (qd 12) mm masd msav misS mpst mchg merr mfai mthr minp minM mUp mcar mcam mahd magn mltr mbeg mcmd mcmM mpl msz mwr mlin mliM _ (xs (Int32.toNatClampNeg (i + 1))) (xs (Int32.toNatClampNeg (i + 2))) (xs (Int32.toNatClampNeg (i + 3))) fu _ hzo8) (cwV 3 hts (gdV mU_1515 mU_1516 mU_1517 mU_75 mU_1518) rfl rfl rfl (by decide +kernel) ⟨Nat.le_of_ble_eq_true rfl, Nat.le_of_ble_eq_true rfl⟩) ⟨z_blind _ _ _ _, va_recv hK hP (ci := 7) (q0 := 76) rfl rfl, fun U hU hW => z_pre zLM hP hD hK hB hS hA wLaw_CM wLaw_NM hU hW⟩ rfl rfl hl.1 rfl (lv_room (Nat.le_of_ble_eq_true rfl)) dL_law_1388 ⟨by omega, by omega⟩) hP hD hS hA wLaw_CM (fun _ => rfl) (fun r u H locs hw hP hD hS => ?_)
  obtain ⟨rfl, rfl⟩ := hw
  have hP : va_P (gD g) zCl (wLaw g ad qd st sv isS hst spare undo seen dbef drec ptx plen ppos pcnt cmds stE stF lch llen zo4.2 jd mm masd msav misS mpst mchg merr mfai zo8.2 minp minM mUp mcar mcam mahd magn mltr mbeg mcmd mcmM mpl msz mwr mlin mliM) H := Eq.mp (congrArg (fun w => va_P (gD g) zCl w H) wLaw_SM) hP
  have hD : va_D A (wLaw g ad qd st sv isS hst spare undo seen dbef drec ptx plen ppos pcnt cmds stE stF lch llen zo4.2 jd mm masd msav misS mpst mchg merr mfai zo8.2 minp minM mUp mcar mcam mahd magn mltr mbeg mcmd mcmM mpl msz mwr mlin mliM) := Eq.mp (congrArg (fun w => va_D A w) wLaw_SM) hD
  refine lv_lstore (lv' := [(7, .long zo8.1), (6, .int zo4.1), (5, .int i), (4, .ref (ad 75)), (3, .ref (ad 74)), (2, .ref (qd 0)), (1, .ref (ad 0)), (0, .ref b)]) hx hb dL_law_1391 hl (by decide) rfl (fun ls hl => ?_)
  refine lv_aload_n hx hb dL_law_1393 rfl (lv_at hl 5 rfl) ?_
  obtain ⟨zo9, hzo9, hF⟩ := z_bind hF
  refine z_calli (fun (_ : Unit) => (wModel g (qd 0) (qd 1) (qd 2) (qd 3) (qd 4) (qd 5) (qd 6) (qd 7) (qd 8) (qd 9) (qd 10) (qd 11) (qd 12) mm masd msav misS mpst mchg merr mfai zo8.2 minp minM mUp mcar mcam mahd magn mltr mbeg mcmd mcmM mpl msz mwr mlin mliM)) zLM (va_runV (As := []) (rest := []) ⟨hx, hb, hml, hown, hts⟩ (c_X11_thrown l g (qd 0) (qd 1) (qd 2) (qd 3) (qd 4) (qd 5) (qd 6) (qd 7) (qd 8) (qd 9) (qd 10) (qd 11) (qd 12) mm masd msav misS mpst mchg merr mfai zo8.2 minp minM mUp mcar mcam mahd magn mltr mbeg mcmd mcmM mpl msz mwr mlin mliM _ _ hzo9) (cwV 0 hts (gdV mU_1321 mU_1322 mU_1323 mU_75 mU_1324) rfl rfl rfl (by decide +kernel) ⟨Nat.le_of_ble_eq_true rfl, Nat.le_of_ble_eq_true rfl⟩) ⟨z_blind _ _ _ _, va_recv hK hP (ci := 7) (q0 := 76) rfl rfl, fun U hU hW => z_pre zLM hP hD hK hB hS hA wLaw_CM wLaw_NM hU hW⟩ rfl rfl hl.1 rfl (lv_room (Nat.le_of_ble_eq_true rfl)) dL_law_1394 ⟨by omega, by omega⟩) hP hD hS hA wLaw_CM (fun _ => rfl) (fun r u H locs hw hP hD hS => ?_)
  subst hw
  have hP : va_P (gD g) zCl (wLaw g ad qd st sv isS hst spare undo seen dbef drec ptx plen ppos pcnt cmds stE stF lch llen zo4.2 jd mm masd msav misS mpst mchg merr mfai zo8.2 minp minM mUp mcar mcam mahd magn mltr mbeg mcmd mcmM mpl msz mwr mlin mliM) H := Eq.mp (congrArg (fun w => va_P (gD g) zCl w H) wLaw_SM) hP
  have hD : va_D A (wLaw g ad qd st sv isS hst spare undo seen dbef drec ptx plen ppos pcnt cmds stE stF lch llen zo4.2 jd mm masd msav misS mpst mchg merr mfai zo8.2 minp minM mUp mcar mcam mahd magn mltr mbeg mcmd mcmM mpl msz mwr mlin mliM) := Eq.mp (congrArg (fun w => va_D A w) wLaw_SM) hD
  refine lv_iload hx hb dL_law_1397 (lv_at hl 1 rfl) ?_
  refine lv_icmp_eq (tgt := 1404) hx hb dL_law_1399 (by decide) (fun zc10 => ?_) (fun zc10 => ?_)
  · have hF := z_pos hF zc10
    refine lv_iload hx hb dL_law_1404 (lv_at hl 1 rfl) ?_
    refine lv_if_ne (tgt := 1420) hx hb dL_law_1406 (by decide) (fun zc11 => ?_) (fun zc11 => ?_)
    · have hF := z_neg hF zc11
      refine lv_goto (tgt := 2792) hx hb dL_law_1420 (by decide) ?_
      have ho := (Option.some.inj hF).symm
      subst ho
      refine W.widen (k := cells + 51) (n := slots + 306) (by omega) (by omega) ?_
      exact kj _ _ _ (lv_sub hl [2, 3, 4, 5, 6, 7] rfl) hP hD hS
    · have hF := z_pos hF zc11
      refine lv_aload_n hx hb dL_law_1409 rfl (lv_at hl 4 rfl) ?_
      refine lv_iconst (v := 0) hx hb dL_law_1410 (by decide) ?_
      refine va_lald hx hb hK hP 74 2 rfl rfl (by unfold vp_in; decide) dL_law_1411 ?_
      refine lv_lload hx hb dL_law_1412 (lv_at hl 0 rfl) ?_
      refine z_lcmp_eq (tgt := 1420) hx hb dL_law_1414 dL_law_1415 (by decide) (fun zc12 => ?_) (fun zc12 => ?_)
      · have hF := z_pos hF zc12
        refine lv_goto (tgt := 2792) hx hb dL_law_1420 (by decide) ?_
        have ho := (Option.some.inj hF).symm
        subst ho
        refine W.widen (k := cells + 51) (n := slots + 306) (by omega) (by omega) ?_
        exact kj _ _ _ (lv_sub hl [2, 3, 4, 5, 6, 7] rfl) hP hD hS
      · have hF := z_neg hF zc12
        refine lv_iconst (v := 0) hx hb dL_law_1418 (by decide) ?_
        exact absurd hF (by simp)
  · have hF := z_neg hF zc10
    refine lv_iconst (v := 0) hx hb dL_law_1402 (by decide) ?_
    exact absurd hF (by simp)
