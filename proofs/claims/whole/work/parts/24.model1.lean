abbrev w_X11_takesIn : List Cond := .code yX11_takesIn cX11_takesIn 6 (some .int) :: wU
abbrev r_X11_takesIn : Room := { frames := 1, cells := 0, slots := 0, locals := 20 }
abbrev q_X11_takesIn (g : GG) (q0 q1 q2 q3 q4 q5 q6 q7 q8 q9 q10 q11 q12 : Nat) (mm : Nat → Int64) (masd : Nat → Int64) (msav : Nat → Int64) (misS : Int32) (mpst : Nat → Int64) (mchg : Int32) (merr : Int32) (mfai : Int32) (mthr : Int32) (minp : Nat → Int32) (minM : Int32) (mUp : Nat → Int32) (mcar : Nat → Int32) (mcam : Nat → Int32) (mahd : Int32) (magn : Int32) (mltr : Nat → Int32) (mbeg : Nat → Int32) (mcmd : Nat → Int32) (mcmM : Int32) (mpl : Int32) (msz : Int32) (mwr : Int32) (mlin : Nat → Int32) (mliM : Int32) (o : Int32 × (Nat → Int64)) (A : Nat → Prop) := va_Qi (fun (r : Int32) (u : (Nat → Int64)) => o.1 = r ∧ o.2 = u) (fun u t => va_P (gD g) zCl (wModel g q0 q1 q2 q3 q4 q5 q6 q7 q8 q9 q10 q11 q12 u masd msav misS mpst mchg merr mfai mthr minp minM mUp mcar mcam mahd magn mltr mbeg mcmd mcmM mpl msz mwr mlin mliM) t.heap) A
set_option maxHeartbeats 4000000 in
set_option maxRecDepth 100000 in
theorem c_X11_takesIn (l : Launch) (g : GG) (q0 q1 q2 q3 q4 q5 q6 q7 q8 q9 q10 q11 q12 : Nat) (mm : Nat → Int64) (masd : Nat → Int64) (msav : Nat → Int64) (misS : Int32) (mpst : Nat → Int64) (mchg : Int32) (merr : Int32) (mfai : Int32) (mthr : Int32) (minp : Nat → Int32) (minM : Int32) (mUp : Nat → Int32) (mcar : Nat → Int32) (mcam : Nat → Int32) (mahd : Int32) (magn : Int32) (mltr : Nat → Int32) (mbeg : Nat → Int32) (mcmd : Nat → Int32) (mcmM : Int32) (mpl : Int32) (msz : Int32) (mwr : Int32) (mlin : Nat → Int32) (mliM : Int32) (sz : Nat) (p1 : Int64) (p3 : Int32) (p4 : Int32) (o : Int32 × (Nat → Int64)) (hF : F_X11_takesIn mm p1 p3 p4 = some o) : Met l yX11_takesIn w_X11_takesIn r_X11_takesIn (va_Pc [.ref q0, .long p1, .int p3, .int p4] (zP g (wModel g q0 q1 q2 q3 q4 q5 q6 q7 q8 q9 q10 q11 q12 mm masd msav misS mpst mchg merr mfai mthr minp minM mUp mcar mcam mahd magn mltr mbeg mcmd mcmM mpl msz mwr mlin mliM) sz)) (q_X11_takesIn g q0 q1 q2 q3 q4 q5 q6 q7 q8 q9 q10 q11 q12 mm masd msav misS mpst mchg merr mfai mthr minp minM mUp mcar mcam mahd magn mltr mbeg mcmd mcmM mpl msz mwr mlin mliM o (va_A (wModel g q0 q1 q2 q3 q4 q5 q6 q7 q8 q9 q10 q11 q12 mm masd msav misS mpst mchg merr mfai mthr minp minM mUp mcar mcam mahd magn mltr mbeg mcmd mcmM mpl msz mwr mlin mliM) sz)) 0 0 (va_A (wModel g q0 q1 q2 q3 q4 q5 q6 q7 q8 q9 q10 q11 q12 mm masd msav misS mpst mchg merr mfai mthr minp minM mUp mcar mcam mahd magn mltr mbeg mcmd mcmM mpl msz mwr mlin mliM) sz) := by
  refine Met.ofW (cc := cX11_takesIn) (maxL := 6) (ret := (some .int)) (by decide) rfl ?_
  intro p e s m args below meth c s₁ B hml hv
  obtain ⟨rfl, rfl, hP, hK, hD0, hB⟩ := hv
  have hx := B.exec
  have hb := B.bytes
  have hr := B.returns
  have hts : ∀ w ∈ wU, w.before _ s = true := fun w h => atoms_spec (ws := w_X11_takesIn) B.pre w (List.mem_cons_of_mem _ h)
  have hown : s.vm.findClass RX11 = some m.cls := findClass_of_methodNamed B.named
  have hlocks := B.notSynchronized
  have hD := hD0.self (sz := s.heap.size)
  generalize hAe : va_A (wModel g q0 q1 q2 q3 q4 q5 q6 q7 q8 q9 q10 q11 q12 mm masd msav misS mpst mchg merr mfai mthr minp minM mUp mcar mcam mahd magn mltr mbeg mcmd mcmM mpl msz mwr mlin mliM) s.heap.size = A at hD hB ⊢
  have hA : ∀ q : Nat, s.heap.size ≤ q → A q := fun q h => by rw [← hAe]; exact Or.inr h
  have hS : va_S A s.heap s.heap [] := va_S.rf
  have hl := lv_entry ([.ref q0, .long p1, .int p3, .int p4]) (n := 6) (Nat.le_of_ble_eq_true rfl)
  rw [lg_entry_eq]
  generalize (lg_sl ([.ref q0, .long p1, .int p3, .int p4]) ++ List.replicate (6 - (lg_sl ([.ref q0, .long p1, .int p3, .int p4])).length) Slot.unset).toArray = ls at hl ⊢
  have hl : lv_has ls 6 [(0, .ref q0), (1, .long p1), (3, .int p3), (4, .int p4)] := hl
  unfold F_X11_takesIn at hF
  refine lv_aload_n hx hb dX11_takesIn_0 rfl (lv_at hl 0 rfl) ?_
  obtain ⟨zo1, hzo1, hF⟩ := z_bind hF
  refine z_calliE (fun (_ : Unit) => (wModel g q0 q1 q2 q3 q4 q5 q6 q7 q8 q9 q10 q11 q12 mm masd msav misS mpst mchg merr mfai mthr minp minM mUp mcar mcam mahd magn mltr mbeg mcmd mcmM mpl msz mwr mlin mliM)) (va_runV (As := []) (rest := []) ⟨hx, hb, hml, hown, hts⟩ (c_X11_many l g q0 q1 q2 q3 q4 q5 q6 q7 q8 q9 q10 q11 q12 mm masd msav misS mpst mchg merr mfai mthr minp minM mUp mcar mcam mahd magn mltr mbeg mcmd mcmM mpl msz mwr mlin mliM _ _ hzo1) (cwV 0 hts (gdV mU_1356 mU_1358 mU_32 mU_75 mU_1359) rfl rfl rfl (by decide +kernel) ⟨Nat.le_of_ble_eq_true rfl, Nat.le_of_ble_eq_true rfl⟩) ⟨z_blind _ _ _ _, va_recv hK hP (ci := 7) (q0 := 0) rfl rfl, fun U hU hW => z_preE hP hD hK hB hS hA hU hW⟩ rfl rfl hl.1 rfl (lv_room (Nat.le_of_ble_eq_true rfl)) dX11_takesIn_1 ⟨Nat.le_of_ble_eq_true rfl, Nat.le_of_ble_eq_true rfl⟩) hD hS hA (fun _ => rfl) (fun r u H locs hw hP hD hS => ?_)
  subst hw
  have hP : va_P (gD g) zCl (wModel g q0 q1 q2 q3 q4 q5 q6 q7 q8 q9 q10 q11 q12 mm masd msav misS mpst mchg merr mfai mthr minp minM mUp mcar mcam mahd magn mltr mbeg mcmd mcmM mpl msz mwr mlin mliM) H := hP
  have hD : va_D A (wModel g q0 q1 q2 q3 q4 q5 q6 q7 q8 q9 q10 q11 q12 mm masd msav misS mpst mchg merr mfai mthr minp minM mUp mcar mcam mahd magn mltr mbeg mcmd mcmM mpl msz mwr mlin mliM) := hD
  obtain ⟨zo2, hzo2, hF⟩ := z_bind hF
  refine z_calli (fun (_ : Unit) => []) [] (va_runS (As := [.int zo1]) (rest := []) ⟨hx, hb, hml, hown, hts⟩ (c_X11_at l g _ zo1 _ hzo2) (va_cwS 1 hts (gdS mU_1372 mU_1373 mU_75 mU_1374) rfl rfl rfl (by decide +kernel) ⟨Nat.le_of_ble_eq_true rfl, Nat.le_of_ble_eq_true rfl⟩) ⟨z_blind _ _ _ _, fun U hU hW => z_pre [] hP hD hK hB hS hA rfl rfl hU hW⟩ rfl rfl hl.1 rfl (lv_room (Nat.le_of_ble_eq_true rfl)) dX11_takesIn_4 ⟨Nat.le_of_ble_eq_true rfl, Nat.le_of_ble_eq_true rfl⟩) hP hD hS hA rfl (fun _ => rfl) (fun r u H locs hw hP hD hS => ?_)
  subst hw
  have hP : va_P (gD g) zCl (wModel g q0 q1 q2 q3 q4 q5 q6 q7 q8 q9 q10 q11 q12 mm masd msav misS mpst mchg merr mfai mthr minp minM mUp mcar mcam mahd magn mltr mbeg mcmd mcmM mpl msz mwr mlin mliM) H := hP
  have hD : va_D A (wModel g q0 q1 q2 q3 q4 q5 q6 q7 q8 q9 q10 q11 q12 mm masd msav misS mpst mchg merr mfai mthr minp minM mUp mcar mcam mahd magn mltr mbeg mcmd mcmM mpl msz mwr mlin mliM) := hD
  refine lv_istore (lv' := [(5, .int zo2), (0, .ref q0), (1, .long p1), (3, .int p3), (4, .int p4)]) hx hb dX11_takesIn_7 hl (by decide) rfl (fun ls hl => ?_)
  refine lv_aload_n hx hb dX11_takesIn_9 rfl (lv_at hl 1 rfl) ?_
  refine va_get (D := gD g) (ci := 7) (v := .ref q1) (C := RX11) (T := TX11) (N := 25) hx hb hts inX11 hown hK hP 0 rfl rfl 0 (by decide) (hts _ mU_1244) (fun _ h9 => h9) rfl dX11_takesIn_10 ?_
  refine lv_iload hx hb dX11_takesIn_13 (lv_at hl 0 rfl) ?_
  refine lv_aload_n hx hb dX11_takesIn_15 rfl (lv_at hl 1 rfl) ?_
  refine va_get (D := gD g) (ci := 7) (v := .ref q1) (C := RX11) (T := TX11) (N := 25) hx hb hts inX11 hown hK hP 0 rfl rfl 0 (by decide) (hts _ mU_1244) (fun _ h9 => h9) rfl dX11_takesIn_16 ?_
  refine lv_iconst (v := 1) hx hb dX11_takesIn_19 (by decide) ?_
  refine va_lald hx hb hK hP 1 2 rfl rfl (by unfold vp_in; decide) dX11_takesIn_20 ?_
  obtain ⟨zg3, hF⟩ := z_grd hF
  refine va_last hx hb hK hP hD hS 1 2 rfl rfl zg3 dX11_takesIn_21 (fun H locs hP hD hS => ?_)
  have hP : va_P (gD g) zCl (wModel g q0 q1 q2 q3 q4 q5 q6 q7 q8 q9 q10 q11 q12 (vp_updL mm (Int32.toNatClampNeg zo2) (mm (Int32.toNatClampNeg 1))) masd msav misS mpst mchg merr mfai mthr minp minM mUp mcar mcam mahd magn mltr mbeg mcmd mcmM mpl msz mwr mlin mliM) H := hP
  have hD : va_D A (wModel g q0 q1 q2 q3 q4 q5 q6 q7 q8 q9 q10 q11 q12 (vp_updL mm (Int32.toNatClampNeg zo2) (mm (Int32.toNatClampNeg 1))) masd msav misS mpst mchg merr mfai mthr minp minM mUp mcar mcam mahd magn mltr mbeg mcmd mcmM mpl msz mwr mlin mliM) := hD
  refine lv_aload_n hx hb dX11_takesIn_22 rfl (lv_at hl 1 rfl) ?_
  refine va_get (D := gD g) (ci := 7) (v := .ref q1) (C := RX11) (T := TX11) (N := 25) hx hb hts inX11 hown hK hP 0 rfl rfl 0 (by decide) (hts _ mU_1244) (fun _ h9 => h9) rfl dX11_takesIn_23 ?_
  refine lv_iload hx hb dX11_takesIn_26 (lv_at hl 0 rfl) ?_
  refine lv_iconst (v := 1) hx hb dX11_takesIn_28 (by decide) ?_
  refine lv_iadd hx hb dX11_takesIn_29 ?_
  refine lv_lload_n hx hb dX11_takesIn_30 rfl (lv_at hl 2 rfl) ?_
  obtain ⟨zg4, hF⟩ := z_grd hF
  refine va_last hx hb hK hP hD hS 1 2 rfl rfl zg4 dX11_takesIn_31 (fun H locs hP hD hS => ?_)
  have hP : va_P (gD g) zCl (wModel g q0 q1 q2 q3 q4 q5 q6 q7 q8 q9 q10 q11 q12 (vp_updL (vp_updL mm (Int32.toNatClampNeg zo2) (mm (Int32.toNatClampNeg 1))) (Int32.toNatClampNeg (zo2 + 1)) p1) masd msav misS mpst mchg merr mfai mthr minp minM mUp mcar mcam mahd magn mltr mbeg mcmd mcmM mpl msz mwr mlin mliM) H := hP
  have hD : va_D A (wModel g q0 q1 q2 q3 q4 q5 q6 q7 q8 q9 q10 q11 q12 (vp_updL (vp_updL mm (Int32.toNatClampNeg zo2) (mm (Int32.toNatClampNeg 1))) (Int32.toNatClampNeg (zo2 + 1)) p1) masd msav misS mpst mchg merr mfai mthr minp minM mUp mcar mcam mahd magn mltr mbeg mcmd mcmM mpl msz mwr mlin mliM) := hD
  refine lv_aload_n hx hb dX11_takesIn_32 rfl (lv_at hl 1 rfl) ?_
  refine va_get (D := gD g) (ci := 7) (v := .ref q1) (C := RX11) (T := TX11) (N := 25) hx hb hts inX11 hown hK hP 0 rfl rfl 0 (by decide) (hts _ mU_1244) (fun _ h9 => h9) rfl dX11_takesIn_33 ?_
  refine lv_iload hx hb dX11_takesIn_36 (lv_at hl 0 rfl) ?_
  refine lv_iconst (v := 2) hx hb dX11_takesIn_38 (by decide) ?_
  refine lv_iadd hx hb dX11_takesIn_39 ?_
  refine lv_iload_n hx hb dX11_takesIn_40 rfl (lv_at hl 3 rfl) ?_
  refine lv_i2l (v := (Int32.toInt64 p3)) hx hb dX11_takesIn_41 rfl ?_
  obtain ⟨zg5, hF⟩ := z_grd hF
  refine va_last hx hb hK hP hD hS 1 2 rfl rfl zg5 dX11_takesIn_42 (fun H locs hP hD hS => ?_)
  have hP : va_P (gD g) zCl (wModel g q0 q1 q2 q3 q4 q5 q6 q7 q8 q9 q10 q11 q12 (vp_updL (vp_updL (vp_updL mm (Int32.toNatClampNeg zo2) (mm (Int32.toNatClampNeg 1))) (Int32.toNatClampNeg (zo2 + 1)) p1) (Int32.toNatClampNeg (zo2 + 2)) (Int32.toInt64 p3)) masd msav misS mpst mchg merr mfai mthr minp minM mUp mcar mcam mahd magn mltr mbeg mcmd mcmM mpl msz mwr mlin mliM) H := hP
  have hD : va_D A (wModel g q0 q1 q2 q3 q4 q5 q6 q7 q8 q9 q10 q11 q12 (vp_updL (vp_updL (vp_updL mm (Int32.toNatClampNeg zo2) (mm (Int32.toNatClampNeg 1))) (Int32.toNatClampNeg (zo2 + 1)) p1) (Int32.toNatClampNeg (zo2 + 2)) (Int32.toInt64 p3)) masd msav misS mpst mchg merr mfai mthr minp minM mUp mcar mcam mahd magn mltr mbeg mcmd mcmM mpl msz mwr mlin mliM) := hD
  refine lv_aload_n hx hb dX11_takesIn_43 rfl (lv_at hl 1 rfl) ?_
  refine va_get (D := gD g) (ci := 7) (v := .ref q1) (C := RX11) (T := TX11) (N := 25) hx hb hts inX11 hown hK hP 0 rfl rfl 0 (by decide) (hts _ mU_1244) (fun _ h9 => h9) rfl dX11_takesIn_44 ?_
  refine lv_iload hx hb dX11_takesIn_47 (lv_at hl 0 rfl) ?_
  refine lv_iconst (v := 3) hx hb dX11_takesIn_49 (by decide) ?_
  refine lv_iadd hx hb dX11_takesIn_50 ?_
  refine lv_iload hx hb dX11_takesIn_51 (lv_at hl 4 rfl) ?_
  refine lv_i2l (v := (Int32.toInt64 p4)) hx hb dX11_takesIn_53 rfl ?_
  obtain ⟨zg6, hF⟩ := z_grd hF
  refine va_last hx hb hK hP hD hS 1 2 rfl rfl zg6 dX11_takesIn_54 (fun H locs hP hD hS => ?_)
  have hP : va_P (gD g) zCl (wModel g q0 q1 q2 q3 q4 q5 q6 q7 q8 q9 q10 q11 q12 (vp_updL (vp_updL (vp_updL (vp_updL mm (Int32.toNatClampNeg zo2) (mm (Int32.toNatClampNeg 1))) (Int32.toNatClampNeg (zo2 + 1)) p1) (Int32.toNatClampNeg (zo2 + 2)) (Int32.toInt64 p3)) (Int32.toNatClampNeg (zo2 + 3)) (Int32.toInt64 p4)) masd msav misS mpst mchg merr mfai mthr minp minM mUp mcar mcam mahd magn mltr mbeg mcmd mcmM mpl msz mwr mlin mliM) H := hP
  have hD : va_D A (wModel g q0 q1 q2 q3 q4 q5 q6 q7 q8 q9 q10 q11 q12 (vp_updL (vp_updL (vp_updL (vp_updL mm (Int32.toNatClampNeg zo2) (mm (Int32.toNatClampNeg 1))) (Int32.toNatClampNeg (zo2 + 1)) p1) (Int32.toNatClampNeg (zo2 + 2)) (Int32.toInt64 p3)) (Int32.toNatClampNeg (zo2 + 3)) (Int32.toInt64 p4)) masd msav misS mpst mchg merr mfai mthr minp minM mUp mcar mcam mahd magn mltr mbeg mcmd mcmM mpl msz mwr mlin mliM) := hD
  refine lv_aload_n hx hb dX11_takesIn_55 rfl (lv_at hl 1 rfl) ?_
  refine va_get (D := gD g) (ci := 7) (v := .ref q1) (C := RX11) (T := TX11) (N := 25) hx hb hts inX11 hown hK hP 0 rfl rfl 0 (by decide) (hts _ mU_1244) (fun _ h9 => h9) rfl dX11_takesIn_56 ?_
  refine lv_iconst (v := 0) hx hb dX11_takesIn_59 (by decide) ?_
  refine lv_dup2_11 hx hb dX11_takesIn_60 rfl rfl ?_
  refine va_lald hx hb hK hP 1 2 rfl rfl (by unfold vp_in; decide) dX11_takesIn_61 ?_
  refine lv_lconst (v := 1) hx hb dX11_takesIn_62 (by decide) ?_
  refine lv_ladd hx hb dX11_takesIn_63 ?_
  obtain ⟨zv7, ezv7, hF⟩ := z_let hF
  refine z_topl ezv7 ?_
  refine va_last hx hb hK hP hD hS 1 2 rfl rfl (by unfold vp_in; decide) dX11_takesIn_64 (fun H locs hP hD hS => ?_)
  have hP : va_P (gD g) zCl (wModel g q0 q1 q2 q3 q4 q5 q6 q7 q8 q9 q10 q11 q12 (vp_updL (vp_updL (vp_updL (vp_updL (vp_updL mm (Int32.toNatClampNeg zo2) (mm (Int32.toNatClampNeg 1))) (Int32.toNatClampNeg (zo2 + 1)) p1) (Int32.toNatClampNeg (zo2 + 2)) (Int32.toInt64 p3)) (Int32.toNatClampNeg (zo2 + 3)) (Int32.toInt64 p4)) (Int32.toNatClampNeg 0) zv7) masd msav misS mpst mchg merr mfai mthr minp minM mUp mcar mcam mahd magn mltr mbeg mcmd mcmM mpl msz mwr mlin mliM) H := hP
  have hD : va_D A (wModel g q0 q1 q2 q3 q4 q5 q6 q7 q8 q9 q10 q11 q12 (vp_updL (vp_updL (vp_updL (vp_updL (vp_updL mm (Int32.toNatClampNeg zo2) (mm (Int32.toNatClampNeg 1))) (Int32.toNatClampNeg (zo2 + 1)) p1) (Int32.toNatClampNeg (zo2 + 2)) (Int32.toInt64 p3)) (Int32.toNatClampNeg (zo2 + 3)) (Int32.toInt64 p4)) (Int32.toNatClampNeg 0) zv7) masd msav misS mpst mchg merr mfai mthr minp minM mUp mcar mcam mahd magn mltr mbeg mcmd mcmM mpl msz mwr mlin mliM) := hD
  refine lv_aload_n hx hb dX11_takesIn_65 rfl (lv_at hl 1 rfl) ?_
  refine va_get (D := gD g) (ci := 7) (v := .ref q1) (C := RX11) (T := TX11) (N := 25) hx hb hts inX11 hown hK hP 0 rfl rfl 0 (by decide) (hts _ mU_1244) (fun _ h9 => h9) rfl dX11_takesIn_66 ?_
  refine lv_iconst (v := 1) hx hb dX11_takesIn_69 (by decide) ?_
  refine lv_dup2_11 hx hb dX11_takesIn_70 rfl rfl ?_
  refine va_lald hx hb hK hP 1 2 rfl rfl (by unfold vp_in; decide) dX11_takesIn_71 ?_
  refine lv_lconst (v := 1) hx hb dX11_takesIn_72 (by decide) ?_
  refine lv_ladd hx hb dX11_takesIn_73 ?_
  obtain ⟨zv8, ezv8, hF⟩ := z_let hF
  refine z_topl ezv8 ?_
  refine va_last hx hb hK hP hD hS 1 2 rfl rfl (by unfold vp_in; decide) dX11_takesIn_74 (fun H locs hP hD hS => ?_)
  have hP : va_P (gD g) zCl (wModel g q0 q1 q2 q3 q4 q5 q6 q7 q8 q9 q10 q11 q12 (vp_updL (vp_updL (vp_updL (vp_updL (vp_updL (vp_updL mm (Int32.toNatClampNeg zo2) (mm (Int32.toNatClampNeg 1))) (Int32.toNatClampNeg (zo2 + 1)) p1) (Int32.toNatClampNeg (zo2 + 2)) (Int32.toInt64 p3)) (Int32.toNatClampNeg (zo2 + 3)) (Int32.toInt64 p4)) (Int32.toNatClampNeg 0) zv7) (Int32.toNatClampNeg 1) zv8) masd msav misS mpst mchg merr mfai mthr minp minM mUp mcar mcam mahd magn mltr mbeg mcmd mcmM mpl msz mwr mlin mliM) H := hP
  have hD : va_D A (wModel g q0 q1 q2 q3 q4 q5 q6 q7 q8 q9 q10 q11 q12 (vp_updL (vp_updL (vp_updL (vp_updL (vp_updL (vp_updL mm (Int32.toNatClampNeg zo2) (mm (Int32.toNatClampNeg 1))) (Int32.toNatClampNeg (zo2 + 1)) p1) (Int32.toNatClampNeg (zo2 + 2)) (Int32.toInt64 p3)) (Int32.toNatClampNeg (zo2 + 3)) (Int32.toInt64 p4)) (Int32.toNatClampNeg 0) zv7) (Int32.toNatClampNeg 1) zv8) masd msav misS mpst mchg merr mfai mthr minp minM mUp mcar mcam mahd magn mltr mbeg mcmd mcmM mpl msz mwr mlin mliM) := hD
  refine lv_aload_n hx hb dX11_takesIn_75 rfl (lv_at hl 1 rfl) ?_
  refine va_get (D := gD g) (ci := 7) (v := .ref q1) (C := RX11) (T := TX11) (N := 25) hx hb hts inX11 hown hK hP 0 rfl rfl 0 (by decide) (hts _ mU_1244) (fun _ h9 => h9) rfl dX11_takesIn_76 ?_
  refine lv_iload hx hb dX11_takesIn_79 (lv_at hl 0 rfl) ?_
  obtain ⟨zg9, hF⟩ := z_grd hF
  refine va_lald hx hb hK hP 1 2 rfl rfl zg9 dX11_takesIn_81 ?_
  refine lv_l2i (v := (Int64.toInt32 ((vp_updL (vp_updL (vp_updL (vp_updL (vp_updL (vp_updL mm (Int32.toNatClampNeg zo2) (mm (Int32.toNatClampNeg 1))) (Int32.toNatClampNeg (zo2 + 1)) p1) (Int32.toNatClampNeg (zo2 + 2)) (Int32.toInt64 p3)) (Int32.toNatClampNeg (zo2 + 3)) (Int32.toInt64 p4)) (Int32.toNatClampNeg 0) zv7) (Int32.toNatClampNeg 1) zv8) (Int32.toNatClampNeg zo2)))) hx hb dX11_takesIn_82 rfl ?_
  have ho := (Option.some.inj hF).symm
  exact W.iret (v := (Int64.toInt32 ((vp_updL (vp_updL (vp_updL (vp_updL (vp_updL (vp_updL mm (Int32.toNatClampNeg zo2) (mm (Int32.toNatClampNeg 1))) (Int32.toNatClampNeg (zo2 + 1)) p1) (Int32.toNatClampNeg (zo2 + 2)) (Int32.toInt64 p3)) (Int32.toNatClampNeg (zo2 + 3)) (Int32.toInt64 p4)) (Int32.toNatClampNeg 0) zv7) (Int32.toNatClampNeg 1) zv8) (Int32.toNatClampNeg zo2)))) hx hb hr (fun t ht hW => ⟨⟨(Int64.toInt32 ((vp_updL (vp_updL (vp_updL (vp_updL (vp_updL (vp_updL mm (Int32.toNatClampNeg zo2) (mm (Int32.toNatClampNeg 1))) (Int32.toNatClampNeg (zo2 + 1)) p1) (Int32.toNatClampNeg (zo2 + 2)) (Int32.toInt64 p3)) (Int32.toNatClampNeg (zo2 + 3)) (Int32.toInt64 p4)) (Int32.toNatClampNeg 0) zv7) (Int32.toNatClampNeg 1) zv8) (Int32.toNatClampNeg zo2))), (vp_updL (vp_updL (vp_updL (vp_updL (vp_updL (vp_updL mm (Int32.toNatClampNeg zo2) (mm (Int32.toNatClampNeg 1))) (Int32.toNatClampNeg (zo2 + 1)) p1) (Int32.toNatClampNeg (zo2 + 2)) (Int32.toInt64 p3)) (Int32.toNatClampNeg (zo2 + 3)) (Int32.toInt64 p4)) (Int32.toNatClampNeg 0) zv7) (Int32.toNatClampNeg 1) zv8), rfl, ⟨by rw [ho], by rw [ho]⟩, z_end ht hP⟩, hS.F ht⟩) hS.2.2 dX11_takesIn_83
abbrev w_X11_addIt : List Cond := .code yX11_addIt cX11_addIt 5 (some .int) :: wU
abbrev r_X11_addIt : Room := { frames := 2, cells := 0, slots := 0, locals := 46 }
abbrev q_X11_addIt (g : GG) (q0 q1 q2 q3 q4 q5 q6 q7 q8 q9 q10 q11 q12 : Nat) (mm : Nat → Int64) (masd : Nat → Int64) (msav : Nat → Int64) (misS : Int32) (mpst : Nat → Int64) (mchg : Int32) (merr : Int32) (mfai : Int32) (mthr : Int32) (minp : Nat → Int32) (minM : Int32) (mUp : Nat → Int32) (mcar : Nat → Int32) (mcam : Nat → Int32) (mahd : Int32) (magn : Int32) (mltr : Nat → Int32) (mbeg : Nat → Int32) (mcmd : Nat → Int32) (mcmM : Int32) (mpl : Int32) (msz : Int32) (mwr : Int32) (mlin : Nat → Int32) (mliM : Int32) (o : Int32 × (Nat → Int64) × Int32) (A : Nat → Prop) := va_Qi (fun (r : Int32) (u : (Nat → Int64) × Int32) => o.1 = r ∧ o.2 = u) (fun u t => va_P (gD g) zCl (wModel g q0 q1 q2 q3 q4 q5 q6 q7 q8 q9 q10 q11 q12 u.1 masd msav misS mpst mchg merr mfai u.2 minp minM mUp mcar mcam mahd magn mltr mbeg mcmd mcmM mpl msz mwr mlin mliM) t.heap) A
set_option maxHeartbeats 4000000 in
set_option maxRecDepth 100000 in
theorem c_X11_addIt (l : Launch) (g : GG) (q0 q1 q2 q3 q4 q5 q6 q7 q8 q9 q10 q11 q12 : Nat) (mm : Nat → Int64) (masd : Nat → Int64) (msav : Nat → Int64) (misS : Int32) (mpst : Nat → Int64) (mchg : Int32) (merr : Int32) (mfai : Int32) (mthr : Int32) (minp : Nat → Int32) (minM : Int32) (mUp : Nat → Int32) (mcar : Nat → Int32) (mcam : Nat → Int32) (mahd : Int32) (magn : Int32) (mltr : Nat → Int32) (mbeg : Nat → Int32) (mcmd : Nat → Int32) (mcmM : Int32) (mpl : Int32) (msz : Int32) (mwr : Int32) (mlin : Nat → Int32) (mliM : Int32) (sz : Nat) (p1 : Int32) (p2 : Int32) (p3 : Int32) (p4 : Int32) (fu : Nat) (o : Int32 × (Nat → Int64) × Int32) (hF : F_X11_addIt fu mm mthr p1 p2 p3 p4 = some o) : Met l yX11_addIt w_X11_addIt r_X11_addIt (va_Pc [.ref q0, .int p1, .int p2, .int p3, .int p4] (zP g (wModel g q0 q1 q2 q3 q4 q5 q6 q7 q8 q9 q10 q11 q12 mm masd msav misS mpst mchg merr mfai mthr minp minM mUp mcar mcam mahd magn mltr mbeg mcmd mcmM mpl msz mwr mlin mliM) sz)) (q_X11_addIt g q0 q1 q2 q3 q4 q5 q6 q7 q8 q9 q10 q11 q12 mm masd msav misS mpst mchg merr mfai mthr minp minM mUp mcar mcam mahd magn mltr mbeg mcmd mcmM mpl msz mwr mlin mliM o (va_A (wModel g q0 q1 q2 q3 q4 q5 q6 q7 q8 q9 q10 q11 q12 mm masd msav misS mpst mchg merr mfai mthr minp minM mUp mcar mcam mahd magn mltr mbeg mcmd mcmM mpl msz mwr mlin mliM) sz)) 0 0 (va_A (wModel g q0 q1 q2 q3 q4 q5 q6 q7 q8 q9 q10 q11 q12 mm masd msav misS mpst mchg merr mfai mthr minp minM mUp mcar mcam mahd magn mltr mbeg mcmd mcmM mpl msz mwr mlin mliM) sz) := by
  refine Met.ofW (cc := cX11_addIt) (maxL := 5) (ret := (some .int)) (by decide) rfl ?_
  intro p e s m args below meth c s₁ B hml hv
  obtain ⟨rfl, rfl, hP, hK, hD0, hB⟩ := hv
  have hx := B.exec
  have hb := B.bytes
  have hr := B.returns
  have hts : ∀ w ∈ wU, w.before _ s = true := fun w h => atoms_spec (ws := w_X11_addIt) B.pre w (List.mem_cons_of_mem _ h)
  have hown : s.vm.findClass RX11 = some m.cls := findClass_of_methodNamed B.named
  have hlocks := B.notSynchronized
  have hD := hD0.self (sz := s.heap.size)
  generalize hAe : va_A (wModel g q0 q1 q2 q3 q4 q5 q6 q7 q8 q9 q10 q11 q12 mm masd msav misS mpst mchg merr mfai mthr minp minM mUp mcar mcam mahd magn mltr mbeg mcmd mcmM mpl msz mwr mlin mliM) s.heap.size = A at hD hB ⊢
  have hA : ∀ q : Nat, s.heap.size ≤ q → A q := fun q h => by rw [← hAe]; exact Or.inr h
  have hS : va_S A s.heap s.heap [] := va_S.rf
  have hl := lv_entry ([.ref q0, .int p1, .int p2, .int p3, .int p4]) (n := 5) (Nat.le_of_ble_eq_true rfl)
  rw [lg_entry_eq]
  generalize (lg_sl ([.ref q0, .int p1, .int p2, .int p3, .int p4]) ++ List.replicate (5 - (lg_sl ([.ref q0, .int p1, .int p2, .int p3, .int p4])).length) Slot.unset).toArray = ls at hl ⊢
  have hl : lv_has ls 5 [(0, .ref q0), (1, .int p1), (2, .int p2), (3, .int p3), (4, .int p4)] := hl
  unfold F_X11_addIt at hF
  refine lv_iload_n hx hb dX11_addIt_0 rfl (lv_at hl 1 rfl) ?_
  refine lv_iload_n hx hb dX11_addIt_1 rfl (lv_at hl 2 rfl) ?_
  obtain ⟨zo1, hzo1, hF⟩ := z_bind hF
  refine z_calli (fun (_ : Unit) => []) [] (va_runS (As := [.int p1, .int p2]) (rest := []) ⟨hx, hb, hml, hown, hts⟩ (c_X11_isAmount l g _ p1 p2 _ hzo1) (va_cwS 2 hts (gdS mU_1337 mU_1338 mU_75 mU_1339) rfl rfl rfl (by decide +kernel) ⟨Nat.le_of_ble_eq_true rfl, Nat.le_of_ble_eq_true rfl⟩) ⟨z_blind _ _ _ _, fun U hU hW => z_pre [] hP hD hK hB hS hA rfl rfl hU hW⟩ rfl rfl hl.1 rfl (lv_room (Nat.le_of_ble_eq_true rfl)) dX11_addIt_2 ⟨Nat.le_of_ble_eq_true rfl, Nat.le_of_ble_eq_true rfl⟩) hP hD hS hA rfl (fun _ => rfl) (fun r u H locs hw hP hD hS => ?_)
  subst hw
  have hP : va_P (gD g) zCl (wModel g q0 q1 q2 q3 q4 q5 q6 q7 q8 q9 q10 q11 q12 mm masd msav misS mpst mchg merr mfai mthr minp minM mUp mcar mcam mahd magn mltr mbeg mcmd mcmM mpl msz mwr mlin mliM) H := hP
  have hD : va_D A (wModel g q0 q1 q2 q3 q4 q5 q6 q7 q8 q9 q10 q11 q12 mm masd msav misS mpst mchg merr mfai mthr minp minM mUp mcar mcam mahd magn mltr mbeg mcmd mcmM mpl msz mwr mlin mliM) := hD
  refine lv_if_eq (tgt := 23) hx hb dX11_addIt_5 (by decide) (fun zc2 => ?_) (fun zc2 => ?_)
  · have hF := z_pos hF zc2
    refine lv_aload_n hx hb dX11_addIt_23 rfl (lv_at hl 0 rfl) ?_
    refine lv_iconst (v := 1) hx hb dX11_addIt_24 (by decide) ?_
    obtain ⟨zo3, hzo3, hF⟩ := z_bind hF
    refine z_calliE (fun (u : Int32) => (wModel g q0 q1 q2 q3 q4 q5 q6 q7 q8 q9 q10 q11 q12 mm masd msav misS mpst mchg merr mfai u minp minM mUp mcar mcam mahd magn mltr mbeg mcmd mcmM mpl msz mwr mlin mliM)) (va_runV (As := [.int 1]) (rest := []) ⟨hx, hb, hml, hown, hts⟩ (c_X11_throwing l g q0 q1 q2 q3 q4 q5 q6 q7 q8 q9 q10 q11 q12 mm masd msav misS mpst mchg merr mfai mthr minp minM mUp mcar mcam mahd magn mltr mbeg mcmd mcmM mpl msz mwr mlin mliM _ 1 _ hzo3) (cwV 1 hts (gdV mU_1352 mU_1354 mU_31 mU_75 mU_1355) rfl rfl rfl (by decide +kernel) ⟨Nat.le_of_ble_eq_true rfl, Nat.le_of_ble_eq_true rfl⟩) ⟨z_blind _ _ _ _, va_recv hK hP (ci := 7) (q0 := 0) rfl rfl, fun U hU hW => z_preE hP hD hK hB hS hA hU hW⟩ rfl rfl hl.1 rfl (lv_room (Nat.le_of_ble_eq_true rfl)) dX11_addIt_25 ⟨Nat.le_of_ble_eq_true rfl, Nat.le_of_ble_eq_true rfl⟩) hD hS hA (fun _ => rfl) (fun r u H locs hw hP hD hS => ?_)
    obtain ⟨rfl, rfl⟩ := hw
    have hP : va_P (gD g) zCl (wModel g q0 q1 q2 q3 q4 q5 q6 q7 q8 q9 q10 q11 q12 mm masd msav misS mpst mchg merr mfai zo3.2 minp minM mUp mcar mcam mahd magn mltr mbeg mcmd mcmM mpl msz mwr mlin mliM) H := hP
    have hD : va_D A (wModel g q0 q1 q2 q3 q4 q5 q6 q7 q8 q9 q10 q11 q12 mm masd msav misS mpst mchg merr mfai zo3.2 minp minM mUp mcar mcam mahd magn mltr mbeg mcmd mcmM mpl msz mwr mlin mliM) := hD
    have ho := (Option.some.inj hF).symm
    exact W.iret (v := zo3.1) hx hb hr (fun t ht hW => ⟨⟨zo3.1, (mm, zo3.2), rfl, ⟨by rw [ho], by rw [ho]⟩, z_end ht hP⟩, hS.F ht⟩) hS.2.2 dX11_addIt_28
  · have hF := z_neg hF zc2
    refine lv_iload_n hx hb dX11_addIt_8 rfl (lv_at hl 3 rfl) ?_
    obtain ⟨zo4, hzo4, hF⟩ := z_bind hF
    refine z_calli (fun (_ : Unit) => []) [] (va_runS (As := [.int p3]) (rest := []) ⟨hx, hb, hml, hown, hts⟩ (c_X11_isScale l g _ p3 _ hzo4) (va_cwS 1 hts (gdS mU_1345 mU_1346 mU_75 mU_1347) rfl rfl rfl (by decide +kernel) ⟨Nat.le_of_ble_eq_true rfl, Nat.le_of_ble_eq_true rfl⟩) ⟨z_blind _ _ _ _, fun U hU hW => z_pre [] hP hD hK hB hS hA rfl rfl hU hW⟩ rfl rfl hl.1 rfl (lv_room (Nat.le_of_ble_eq_true rfl)) dX11_addIt_9 ⟨Nat.le_of_ble_eq_true rfl, Nat.le_of_ble_eq_true rfl⟩) hP hD hS hA rfl (fun _ => rfl) (fun r u H locs hw hP hD hS => ?_)
    subst hw
    have hP : va_P (gD g) zCl (wModel g q0 q1 q2 q3 q4 q5 q6 q7 q8 q9 q10 q11 q12 mm masd msav misS mpst mchg merr mfai mthr minp minM mUp mcar mcam mahd magn mltr mbeg mcmd mcmM mpl msz mwr mlin mliM) H := hP
    have hD : va_D A (wModel g q0 q1 q2 q3 q4 q5 q6 q7 q8 q9 q10 q11 q12 mm masd msav misS mpst mchg merr mfai mthr minp minM mUp mcar mcam mahd magn mltr mbeg mcmd mcmM mpl msz mwr mlin mliM) := hD
    refine lv_if_eq (tgt := 23) hx hb dX11_addIt_12 (by decide) (fun zc5 => ?_) (fun zc5 => ?_)
    · have hF := z_pos hF zc5
      refine lv_aload_n hx hb dX11_addIt_23 rfl (lv_at hl 0 rfl) ?_
      refine lv_iconst (v := 1) hx hb dX11_addIt_24 (by decide) ?_
      obtain ⟨zo6, hzo6, hF⟩ := z_bind hF
      refine z_calliE (fun (u : Int32) => (wModel g q0 q1 q2 q3 q4 q5 q6 q7 q8 q9 q10 q11 q12 mm masd msav misS mpst mchg merr mfai u minp minM mUp mcar mcam mahd magn mltr mbeg mcmd mcmM mpl msz mwr mlin mliM)) (va_runV (As := [.int 1]) (rest := []) ⟨hx, hb, hml, hown, hts⟩ (c_X11_throwing l g q0 q1 q2 q3 q4 q5 q6 q7 q8 q9 q10 q11 q12 mm masd msav misS mpst mchg merr mfai mthr minp minM mUp mcar mcam mahd magn mltr mbeg mcmd mcmM mpl msz mwr mlin mliM _ 1 _ hzo6) (cwV 1 hts (gdV mU_1352 mU_1354 mU_31 mU_75 mU_1355) rfl rfl rfl (by decide +kernel) ⟨Nat.le_of_ble_eq_true rfl, Nat.le_of_ble_eq_true rfl⟩) ⟨z_blind _ _ _ _, va_recv hK hP (ci := 7) (q0 := 0) rfl rfl, fun U hU hW => z_preE hP hD hK hB hS hA hU hW⟩ rfl rfl hl.1 rfl (lv_room (Nat.le_of_ble_eq_true rfl)) dX11_addIt_25 ⟨Nat.le_of_ble_eq_true rfl, Nat.le_of_ble_eq_true rfl⟩) hD hS hA (fun _ => rfl) (fun r u H locs hw hP hD hS => ?_)
      obtain ⟨rfl, rfl⟩ := hw
      have hP : va_P (gD g) zCl (wModel g q0 q1 q2 q3 q4 q5 q6 q7 q8 q9 q10 q11 q12 mm masd msav misS mpst mchg merr mfai zo6.2 minp minM mUp mcar mcam mahd magn mltr mbeg mcmd mcmM mpl msz mwr mlin mliM) H := hP
      have hD : va_D A (wModel g q0 q1 q2 q3 q4 q5 q6 q7 q8 q9 q10 q11 q12 mm masd msav misS mpst mchg merr mfai zo6.2 minp minM mUp mcar mcam mahd magn mltr mbeg mcmd mcmM mpl msz mwr mlin mliM) := hD
      have ho := (Option.some.inj hF).symm
      exact W.iret (v := zo6.1) hx hb hr (fun t ht hW => ⟨⟨zo6.1, (mm, zo6.2), rfl, ⟨by rw [ho], by rw [ho]⟩, z_end ht hP⟩, hS.F ht⟩) hS.2.2 dX11_addIt_28
    · have hF := z_neg hF zc5
      refine lv_iload hx hb dX11_addIt_15 (lv_at hl 4 rfl) ?_
      obtain ⟨zo7, hzo7, hF⟩ := z_bind hF
      refine z_calli (fun (_ : Unit) => []) [] (va_runS (As := [.int p4]) (rest := []) ⟨hx, hb, hml, hown, hts⟩ (c_X11_isMode l g _ p4 _ hzo7) (va_cwS 1 hts (gdS mU_1349 mU_1350 mU_75 mU_1351) rfl rfl rfl (by decide +kernel) ⟨Nat.le_of_ble_eq_true rfl, Nat.le_of_ble_eq_true rfl⟩) ⟨z_blind _ _ _ _, fun U hU hW => z_pre [] hP hD hK hB hS hA rfl rfl hU hW⟩ rfl rfl hl.1 rfl (lv_room (Nat.le_of_ble_eq_true rfl)) dX11_addIt_17 ⟨Nat.le_of_ble_eq_true rfl, Nat.le_of_ble_eq_true rfl⟩) hP hD hS hA rfl (fun _ => rfl) (fun r u H locs hw hP hD hS => ?_)
      subst hw
      have hP : va_P (gD g) zCl (wModel g q0 q1 q2 q3 q4 q5 q6 q7 q8 q9 q10 q11 q12 mm masd msav misS mpst mchg merr mfai mthr minp minM mUp mcar mcam mahd magn mltr mbeg mcmd mcmM mpl msz mwr mlin mliM) H := hP
      have hD : va_D A (wModel g q0 q1 q2 q3 q4 q5 q6 q7 q8 q9 q10 q11 q12 mm masd msav misS mpst mchg merr mfai mthr minp minM mUp mcar mcam mahd magn mltr mbeg mcmd mcmM mpl msz mwr mlin mliM) := hD
      refine lv_if_ne (tgt := 29) hx hb dX11_addIt_20 (by decide) (fun zc8 => ?_) (fun zc8 => ?_)
      · have hF := z_neg hF zc8
        refine lv_aload_n hx hb dX11_addIt_29 rfl (lv_at hl 0 rfl) ?_
        obtain ⟨zo9, hzo9, hF⟩ := z_bind hF
        refine z_calliE (fun (_ : Unit) => (wModel g q0 q1 q2 q3 q4 q5 q6 q7 q8 q9 q10 q11 q12 mm masd msav misS mpst mchg merr mfai mthr minp minM mUp mcar mcam mahd magn mltr mbeg mcmd mcmM mpl msz mwr mlin mliM)) (va_runV (As := []) (rest := []) ⟨hx, hb, hml, hown, hts⟩ (c_X11_many l g q0 q1 q2 q3 q4 q5 q6 q7 q8 q9 q10 q11 q12 mm masd msav misS mpst mchg merr mfai mthr minp minM mUp mcar mcam mahd magn mltr mbeg mcmd mcmM mpl msz mwr mlin mliM _ _ hzo9) (cwV 0 hts (gdV mU_1356 mU_1358 mU_32 mU_75 mU_1359) rfl rfl rfl (by decide +kernel) ⟨Nat.le_of_ble_eq_true rfl, Nat.le_of_ble_eq_true rfl⟩) ⟨z_blind _ _ _ _, va_recv hK hP (ci := 7) (q0 := 0) rfl rfl, fun U hU hW => z_preE hP hD hK hB hS hA hU hW⟩ rfl rfl hl.1 rfl (lv_room (Nat.le_of_ble_eq_true rfl)) dX11_addIt_30 ⟨Nat.le_of_ble_eq_true rfl, Nat.le_of_ble_eq_true rfl⟩) hD hS hA (fun _ => rfl) (fun r u H locs hw hP hD hS => ?_)
        subst hw
        have hP : va_P (gD g) zCl (wModel g q0 q1 q2 q3 q4 q5 q6 q7 q8 q9 q10 q11 q12 mm masd msav misS mpst mchg merr mfai mthr minp minM mUp mcar mcam mahd magn mltr mbeg mcmd mcmM mpl msz mwr mlin mliM) H := hP
        have hD : va_D A (wModel g q0 q1 q2 q3 q4 q5 q6 q7 q8 q9 q10 q11 q12 mm masd msav misS mpst mchg merr mfai mthr minp minM mUp mcar mcam mahd magn mltr mbeg mcmd mcmM mpl msz mwr mlin mliM) := hD
        refine lv_bipush (v := 6) hx hb dX11_addIt_33 (by decide) ?_
        refine lv_icmp_ne (tgt := 44) hx hb dX11_addIt_35 (by decide) (fun zc10 => ?_) (fun zc10 => ?_)
        · have hF := z_neg hF zc10
          refine lv_iload_n hx hb dX11_addIt_44 rfl (lv_at hl 1 rfl) ?_
          refine lv_iload_n hx hb dX11_addIt_45 rfl (lv_at hl 2 rfl) ?_
          obtain ⟨zo11, hzo11, hF⟩ := z_bind hF
          refine z_calll (fun (_ : Unit) => []) [] (va_runS (As := [.int p1, .int p2]) (rest := []) ⟨hx, hb, hml, hown, hts⟩ (c_X11_units l g _ p1 p2 _ hzo11) (va_cwS 2 hts (gdS mU_1360 mU_1361 mU_75 mU_1362) rfl rfl rfl (by decide +kernel) ⟨Nat.le_of_ble_eq_true rfl, Nat.le_of_ble_eq_true rfl⟩) ⟨z_blind _ _ _ _, fun U hU hW => z_pre [] hP hD hK hB hS hA rfl rfl hU hW⟩ rfl rfl hl.1 rfl (lv_room (Nat.le_of_ble_eq_true rfl)) dX11_addIt_46 ⟨Nat.le_of_ble_eq_true rfl, Nat.le_of_ble_eq_true rfl⟩) hP hD hS hA rfl (fun _ => rfl) (fun r u H locs hw hP hD hS => ?_)
          subst hw
          have hP : va_P (gD g) zCl (wModel g q0 q1 q2 q3 q4 q5 q6 q7 q8 q9 q10 q11 q12 mm masd msav misS mpst mchg merr mfai mthr minp minM mUp mcar mcam mahd magn mltr mbeg mcmd mcmM mpl msz mwr mlin mliM) H := hP
          have hD : va_D A (wModel g q0 q1 q2 q3 q4 q5 q6 q7 q8 q9 q10 q11 q12 mm masd msav misS mpst mchg merr mfai mthr minp minM mUp mcar mcam mahd magn mltr mbeg mcmd mcmM mpl msz mwr mlin mliM) := hD
          refine lv_iload_n hx hb dX11_addIt_49 rfl (lv_at hl 3 rfl) ?_
          obtain ⟨zo12, hzo12, hF⟩ := z_bind hF
          refine z_calll (fun (_ : Unit) => []) [] (va_runS (As := [.int p3]) (rest := [.long zo11]) ⟨hx, hb, hml, hown, hts⟩ (c_X11_step l g _ p3 fu _ hzo12) (va_cwS 1 hts (gdS mU_1364 mU_1365 mU_75 mU_1366) rfl rfl rfl (by decide +kernel) ⟨Nat.le_of_ble_eq_true rfl, Nat.le_of_ble_eq_true rfl⟩) ⟨z_blind _ _ _ _, fun U hU hW => z_pre [] hP hD hK hB hS hA rfl rfl hU hW⟩ rfl rfl hl.1 rfl (lv_room (Nat.le_of_ble_eq_true rfl)) dX11_addIt_50 ⟨Nat.le_of_ble_eq_true rfl, Nat.le_of_ble_eq_true rfl⟩) hP hD hS hA rfl (fun _ => rfl) (fun r u H locs hw hP hD hS => ?_)
          subst hw
          have hP : va_P (gD g) zCl (wModel g q0 q1 q2 q3 q4 q5 q6 q7 q8 q9 q10 q11 q12 mm masd msav misS mpst mchg merr mfai mthr minp minM mUp mcar mcam mahd magn mltr mbeg mcmd mcmM mpl msz mwr mlin mliM) H := hP
          have hD : va_D A (wModel g q0 q1 q2 q3 q4 q5 q6 q7 q8 q9 q10 q11 q12 mm masd msav misS mpst mchg merr mfai mthr minp minM mUp mcar mcam mahd magn mltr mbeg mcmd mcmM mpl msz mwr mlin mliM) := hD
          obtain ⟨zg13, hF⟩ := z_grd hF
          refine lv_lrem hx hb dX11_addIt_53 zg13 ?_
          refine lv_lconst (v := 0) hx hb dX11_addIt_54 (by decide) ?_
          refine z_lcmp_le (tgt := 65) hx hb dX11_addIt_55 dX11_addIt_56 (by decide) (fun zc14 => ?_) (fun zc14 => ?_)
          · have hF := z_neg hF zc14
            refine lv_aload_n hx hb dX11_addIt_65 rfl (lv_at hl 0 rfl) ?_
            refine lv_iload_n hx hb dX11_addIt_66 rfl (lv_at hl 1 rfl) ?_
            refine lv_iload_n hx hb dX11_addIt_67 rfl (lv_at hl 2 rfl) ?_
            obtain ⟨zo15, hzo15, hF⟩ := z_bind hF
            refine z_calll (fun (_ : Unit) => []) [] (va_runS (As := [.int p1, .int p2]) (rest := [.ref q0]) ⟨hx, hb, hml, hown, hts⟩ (c_X11_units l g _ p1 p2 _ hzo15) (va_cwS 2 hts (gdS mU_1360 mU_1361 mU_75 mU_1362) rfl rfl rfl (by decide +kernel) ⟨Nat.le_of_ble_eq_true rfl, Nat.le_of_ble_eq_true rfl⟩) ⟨z_blind _ _ _ _, fun U hU hW => z_pre [] hP hD hK hB hS hA rfl rfl hU hW⟩ rfl rfl hl.1 rfl (lv_room (Nat.le_of_ble_eq_true rfl)) dX11_addIt_68 ⟨Nat.le_of_ble_eq_true rfl, Nat.le_of_ble_eq_true rfl⟩) hP hD hS hA rfl (fun _ => rfl) (fun r u H locs hw hP hD hS => ?_)
            subst hw
            have hP : va_P (gD g) zCl (wModel g q0 q1 q2 q3 q4 q5 q6 q7 q8 q9 q10 q11 q12 mm masd msav misS mpst mchg merr mfai mthr minp minM mUp mcar mcam mahd magn mltr mbeg mcmd mcmM mpl msz mwr mlin mliM) H := hP
            have hD : va_D A (wModel g q0 q1 q2 q3 q4 q5 q6 q7 q8 q9 q10 q11 q12 mm masd msav misS mpst mchg merr mfai mthr minp minM mUp mcar mcam mahd magn mltr mbeg mcmd mcmM mpl msz mwr mlin mliM) := hD
            refine lv_iload_n hx hb dX11_addIt_71 rfl (lv_at hl 3 rfl) ?_
            refine lv_iload hx hb dX11_addIt_72 (lv_at hl 4 rfl) ?_
            obtain ⟨zo16, hzo16, hF⟩ := z_bind hF
            refine z_calliE (fun (u : (Nat → Int64)) => (wModel g q0 q1 q2 q3 q4 q5 q6 q7 q8 q9 q10 q11 q12 u masd msav misS mpst mchg merr mfai mthr minp minM mUp mcar mcam mahd magn mltr mbeg mcmd mcmM mpl msz mwr mlin mliM)) (va_runV (As := [.long zo15, .int p3, .int p4]) (rest := []) ⟨hx, hb, hml, hown, hts⟩ (c_X11_takesIn l g q0 q1 q2 q3 q4 q5 q6 q7 q8 q9 q10 q11 q12 mm masd msav misS mpst mchg merr mfai mthr minp minM mUp mcar mcam mahd magn mltr mbeg mcmd mcmM mpl msz mwr mlin mliM _ zo15 p3 p4 _ hzo16) (cwV 3 hts (gdV mU_1368 mU_1370 mU_33 mU_75 mU_1371) rfl rfl rfl (by decide +kernel) ⟨Nat.le_of_ble_eq_true rfl, Nat.le_of_ble_eq_true rfl⟩) ⟨z_blind _ _ _ _, va_recv hK hP (ci := 7) (q0 := 0) rfl rfl, fun U hU hW => z_preE hP hD hK hB hS hA hU hW⟩ rfl rfl hl.1 rfl (lv_room (Nat.le_of_ble_eq_true rfl)) dX11_addIt_74 ⟨Nat.le_of_ble_eq_true rfl, Nat.le_of_ble_eq_true rfl⟩) hD hS hA (fun _ => rfl) (fun r u H locs hw hP hD hS => ?_)
            obtain ⟨rfl, rfl⟩ := hw
            have hP : va_P (gD g) zCl (wModel g q0 q1 q2 q3 q4 q5 q6 q7 q8 q9 q10 q11 q12 zo16.2 masd msav misS mpst mchg merr mfai mthr minp minM mUp mcar mcam mahd magn mltr mbeg mcmd mcmM mpl msz mwr mlin mliM) H := hP
            have hD : va_D A (wModel g q0 q1 q2 q3 q4 q5 q6 q7 q8 q9 q10 q11 q12 zo16.2 masd msav misS mpst mchg merr mfai mthr minp minM mUp mcar mcam mahd magn mltr mbeg mcmd mcmM mpl msz mwr mlin mliM) := hD
            have ho := (Option.some.inj hF).symm
            exact W.iret (v := zo16.1) hx hb hr (fun t ht hW => ⟨⟨zo16.1, (zo16.2, mthr), rfl, ⟨by rw [ho], by rw [ho]⟩, z_end ht hP⟩, hS.F ht⟩) hS.2.2 dX11_addIt_77
          · have hF := z_pos hF zc14
            refine lv_aload_n hx hb dX11_addIt_59 rfl (lv_at hl 0 rfl) ?_
            refine lv_iconst (v := 3) hx hb dX11_addIt_60 (by decide) ?_
            obtain ⟨zo17, hzo17, hF⟩ := z_bind hF
            refine z_calliE (fun (u : Int32) => (wModel g q0 q1 q2 q3 q4 q5 q6 q7 q8 q9 q10 q11 q12 mm masd msav misS mpst mchg merr mfai u minp minM mUp mcar mcam mahd magn mltr mbeg mcmd mcmM mpl msz mwr mlin mliM)) (va_runV (As := [.int 3]) (rest := []) ⟨hx, hb, hml, hown, hts⟩ (c_X11_throwing l g q0 q1 q2 q3 q4 q5 q6 q7 q8 q9 q10 q11 q12 mm masd msav misS mpst mchg merr mfai mthr minp minM mUp mcar mcam mahd magn mltr mbeg mcmd mcmM mpl msz mwr mlin mliM _ 3 _ hzo17) (cwV 1 hts (gdV mU_1352 mU_1354 mU_31 mU_75 mU_1355) rfl rfl rfl (by decide +kernel) ⟨Nat.le_of_ble_eq_true rfl, Nat.le_of_ble_eq_true rfl⟩) ⟨z_blind _ _ _ _, va_recv hK hP (ci := 7) (q0 := 0) rfl rfl, fun U hU hW => z_preE hP hD hK hB hS hA hU hW⟩ rfl rfl hl.1 rfl (lv_room (Nat.le_of_ble_eq_true rfl)) dX11_addIt_61 ⟨Nat.le_of_ble_eq_true rfl, Nat.le_of_ble_eq_true rfl⟩) hD hS hA (fun _ => rfl) (fun r u H locs hw hP hD hS => ?_)
            obtain ⟨rfl, rfl⟩ := hw
            have hP : va_P (gD g) zCl (wModel g q0 q1 q2 q3 q4 q5 q6 q7 q8 q9 q10 q11 q12 mm masd msav misS mpst mchg merr mfai zo17.2 minp minM mUp mcar mcam mahd magn mltr mbeg mcmd mcmM mpl msz mwr mlin mliM) H := hP
            have hD : va_D A (wModel g q0 q1 q2 q3 q4 q5 q6 q7 q8 q9 q10 q11 q12 mm masd msav misS mpst mchg merr mfai zo17.2 minp minM mUp mcar mcam mahd magn mltr mbeg mcmd mcmM mpl msz mwr mlin mliM) := hD
            have ho := (Option.some.inj hF).symm
            exact W.iret (v := zo17.1) hx hb hr (fun t ht hW => ⟨⟨zo17.1, (mm, zo17.2), rfl, ⟨by rw [ho], by rw [ho]⟩, z_end ht hP⟩, hS.F ht⟩) hS.2.2 dX11_addIt_64
        · have hF := z_pos hF zc10
          refine lv_aload_n hx hb dX11_addIt_38 rfl (lv_at hl 0 rfl) ?_
          refine lv_iconst (v := 2) hx hb dX11_addIt_39 (by decide) ?_
          obtain ⟨zo18, hzo18, hF⟩ := z_bind hF
          refine z_calliE (fun (u : Int32) => (wModel g q0 q1 q2 q3 q4 q5 q6 q7 q8 q9 q10 q11 q12 mm masd msav misS mpst mchg merr mfai u minp minM mUp mcar mcam mahd magn mltr mbeg mcmd mcmM mpl msz mwr mlin mliM)) (va_runV (As := [.int 2]) (rest := []) ⟨hx, hb, hml, hown, hts⟩ (c_X11_throwing l g q0 q1 q2 q3 q4 q5 q6 q7 q8 q9 q10 q11 q12 mm masd msav misS mpst mchg merr mfai mthr minp minM mUp mcar mcam mahd magn mltr mbeg mcmd mcmM mpl msz mwr mlin mliM _ 2 _ hzo18) (cwV 1 hts (gdV mU_1352 mU_1354 mU_31 mU_75 mU_1355) rfl rfl rfl (by decide +kernel) ⟨Nat.le_of_ble_eq_true rfl, Nat.le_of_ble_eq_true rfl⟩) ⟨z_blind _ _ _ _, va_recv hK hP (ci := 7) (q0 := 0) rfl rfl, fun U hU hW => z_preE hP hD hK hB hS hA hU hW⟩ rfl rfl hl.1 rfl (lv_room (Nat.le_of_ble_eq_true rfl)) dX11_addIt_40 ⟨Nat.le_of_ble_eq_true rfl, Nat.le_of_ble_eq_true rfl⟩) hD hS hA (fun _ => rfl) (fun r u H locs hw hP hD hS => ?_)
          obtain ⟨rfl, rfl⟩ := hw
          have hP : va_P (gD g) zCl (wModel g q0 q1 q2 q3 q4 q5 q6 q7 q8 q9 q10 q11 q12 mm masd msav misS mpst mchg merr mfai zo18.2 minp minM mUp mcar mcam mahd magn mltr mbeg mcmd mcmM mpl msz mwr mlin mliM) H := hP
          have hD : va_D A (wModel g q0 q1 q2 q3 q4 q5 q6 q7 q8 q9 q10 q11 q12 mm masd msav misS mpst mchg merr mfai zo18.2 minp minM mUp mcar mcam mahd magn mltr mbeg mcmd mcmM mpl msz mwr mlin mliM) := hD
          have ho := (Option.some.inj hF).symm
          exact W.iret (v := zo18.1) hx hb hr (fun t ht hW => ⟨⟨zo18.1, (mm, zo18.2), rfl, ⟨by rw [ho], by rw [ho]⟩, z_end ht hP⟩, hS.F ht⟩) hS.2.2 dX11_addIt_43
      · have hF := z_pos hF zc8
        refine lv_aload_n hx hb dX11_addIt_23 rfl (lv_at hl 0 rfl) ?_
        refine lv_iconst (v := 1) hx hb dX11_addIt_24 (by decide) ?_
        obtain ⟨zo19, hzo19, hF⟩ := z_bind hF
        refine z_calliE (fun (u : Int32) => (wModel g q0 q1 q2 q3 q4 q5 q6 q7 q8 q9 q10 q11 q12 mm masd msav misS mpst mchg merr mfai u minp minM mUp mcar mcam mahd magn mltr mbeg mcmd mcmM mpl msz mwr mlin mliM)) (va_runV (As := [.int 1]) (rest := []) ⟨hx, hb, hml, hown, hts⟩ (c_X11_throwing l g q0 q1 q2 q3 q4 q5 q6 q7 q8 q9 q10 q11 q12 mm masd msav misS mpst mchg merr mfai mthr minp minM mUp mcar mcam mahd magn mltr mbeg mcmd mcmM mpl msz mwr mlin mliM _ 1 _ hzo19) (cwV 1 hts (gdV mU_1352 mU_1354 mU_31 mU_75 mU_1355) rfl rfl rfl (by decide +kernel) ⟨Nat.le_of_ble_eq_true rfl, Nat.le_of_ble_eq_true rfl⟩) ⟨z_blind _ _ _ _, va_recv hK hP (ci := 7) (q0 := 0) rfl rfl, fun U hU hW => z_preE hP hD hK hB hS hA hU hW⟩ rfl rfl hl.1 rfl (lv_room (Nat.le_of_ble_eq_true rfl)) dX11_addIt_25 ⟨Nat.le_of_ble_eq_true rfl, Nat.le_of_ble_eq_true rfl⟩) hD hS hA (fun _ => rfl) (fun r u H locs hw hP hD hS => ?_)
        obtain ⟨rfl, rfl⟩ := hw
        have hP : va_P (gD g) zCl (wModel g q0 q1 q2 q3 q4 q5 q6 q7 q8 q9 q10 q11 q12 mm masd msav misS mpst mchg merr mfai zo19.2 minp minM mUp mcar mcam mahd magn mltr mbeg mcmd mcmM mpl msz mwr mlin mliM) H := hP
        have hD : va_D A (wModel g q0 q1 q2 q3 q4 q5 q6 q7 q8 q9 q10 q11 q12 mm masd msav misS mpst mchg merr mfai zo19.2 minp minM mUp mcar mcam mahd magn mltr mbeg mcmd mcmM mpl msz mwr mlin mliM) := hD
        have ho := (Option.some.inj hF).symm
        exact W.iret (v := zo19.1) hx hb hr (fun t ht hW => ⟨⟨zo19.1, (mm, zo19.2), rfl, ⟨by rw [ho], by rw [ho]⟩, z_end ht hP⟩, hS.F ht⟩) hS.2.2 dX11_addIt_28
abbrev w_X11_addNumber : List Cond := .code yX11_addNumber cX11_addNumber 6 (some .int) :: wU
abbrev r_X11_addNumber : Room := { frames := 3, cells := 0, slots := 0, locals := 70 }
abbrev q_X11_addNumber (g : GG) (q0 q1 q2 q3 q4 q5 q6 q7 q8 q9 q10 q11 q12 : Nat) (mm : Nat → Int64) (masd : Nat → Int64) (msav : Nat → Int64) (misS : Int32) (mpst : Nat → Int64) (mchg : Int32) (merr : Int32) (mfai : Int32) (mthr : Int32) (minp : Nat → Int32) (minM : Int32) (mUp : Nat → Int32) (mcar : Nat → Int32) (mcam : Nat → Int32) (mahd : Int32) (magn : Int32) (mltr : Nat → Int32) (mbeg : Nat → Int32) (mcmd : Nat → Int32) (mcmM : Int32) (mpl : Int32) (msz : Int32) (mwr : Int32) (mlin : Nat → Int32) (mliM : Int32) (o : Int32 × (Nat → Int64) × (Nat → Int64) × (Nat → Int64) × Int32 × Int32) (A : Nat → Prop) := va_Qi (fun (r : Int32) (u : (Nat → Int64) × (Nat → Int64) × (Nat → Int64) × Int32 × Int32) => o.1 = r ∧ o.2 = u) (fun u t => va_P (gD g) zCl (wModel g q0 q1 q2 q3 q4 q5 q6 q7 q8 q9 q10 q11 q12 u.1 u.2.1 msav misS u.2.2.1 u.2.2.2.1 merr mfai u.2.2.2.2 minp minM mUp mcar mcam mahd magn mltr mbeg mcmd mcmM mpl msz mwr mlin mliM) t.heap) A
set_option maxHeartbeats 4000000 in
set_option maxRecDepth 100000 in
theorem c_X11_addNumber (l : Launch) (g : GG) (q0 q1 q2 q3 q4 q5 q6 q7 q8 q9 q10 q11 q12 : Nat) (mm : Nat → Int64) (masd : Nat → Int64) (msav : Nat → Int64) (misS : Int32) (mpst : Nat → Int64) (mchg : Int32) (merr : Int32) (mfai : Int32) (mthr : Int32) (minp : Nat → Int32) (minM : Int32) (mUp : Nat → Int32) (mcar : Nat → Int32) (mcam : Nat → Int32) (mahd : Int32) (magn : Int32) (mltr : Nat → Int32) (mbeg : Nat → Int32) (mcmd : Nat → Int32) (mcmM : Int32) (mpl : Int32) (msz : Int32) (mwr : Int32) (mlin : Nat → Int32) (mliM : Int32) (sz : Nat) (p1 : Int32) (p2 : Int32) (p3 : Int32) (p4 : Int32) (fu : Nat) (o : Int32 × (Nat → Int64) × (Nat → Int64) × (Nat → Int64) × Int32 × Int32) (hF : F_X11_addNumber fu mm masd mpst mchg mthr p1 p2 p3 p4 = some o) : Met l yX11_addNumber w_X11_addNumber r_X11_addNumber (va_Pc [.ref q0, .int p1, .int p2, .int p3, .int p4] (zP g (wModel g q0 q1 q2 q3 q4 q5 q6 q7 q8 q9 q10 q11 q12 mm masd msav misS mpst mchg merr mfai mthr minp minM mUp mcar mcam mahd magn mltr mbeg mcmd mcmM mpl msz mwr mlin mliM) sz)) (q_X11_addNumber g q0 q1 q2 q3 q4 q5 q6 q7 q8 q9 q10 q11 q12 mm masd msav misS mpst mchg merr mfai mthr minp minM mUp mcar mcam mahd magn mltr mbeg mcmd mcmM mpl msz mwr mlin mliM o (va_A (wModel g q0 q1 q2 q3 q4 q5 q6 q7 q8 q9 q10 q11 q12 mm masd msav misS mpst mchg merr mfai mthr minp minM mUp mcar mcam mahd magn mltr mbeg mcmd mcmM mpl msz mwr mlin mliM) sz)) 0 0 (va_A (wModel g q0 q1 q2 q3 q4 q5 q6 q7 q8 q9 q10 q11 q12 mm masd msav misS mpst mchg merr mfai mthr minp minM mUp mcar mcam mahd magn mltr mbeg mcmd mcmM mpl msz mwr mlin mliM) sz) := by
  refine Met.ofW (cc := cX11_addNumber) (maxL := 6) (ret := (some .int)) (by decide) rfl ?_
  intro p e s m args below meth c s₁ B hml hv
  obtain ⟨rfl, rfl, hP, hK, hD0, hB⟩ := hv
  have hx := B.exec
  have hb := B.bytes
  have hr := B.returns
  have hts : ∀ w ∈ wU, w.before _ s = true := fun w h => atoms_spec (ws := w_X11_addNumber) B.pre w (List.mem_cons_of_mem _ h)
  have hown : s.vm.findClass RX11 = some m.cls := findClass_of_methodNamed B.named
  have hlocks := B.notSynchronized
  have hD := hD0.self (sz := s.heap.size)
  generalize hAe : va_A (wModel g q0 q1 q2 q3 q4 q5 q6 q7 q8 q9 q10 q11 q12 mm masd msav misS mpst mchg merr mfai mthr minp minM mUp mcar mcam mahd magn mltr mbeg mcmd mcmM mpl msz mwr mlin mliM) s.heap.size = A at hD hB ⊢
  have hA : ∀ q : Nat, s.heap.size ≤ q → A q := fun q h => by rw [← hAe]; exact Or.inr h
  have hS : va_S A s.heap s.heap [] := va_S.rf
  have hl := lv_entry ([.ref q0, .int p1, .int p2, .int p3, .int p4]) (n := 6) (Nat.le_of_ble_eq_true rfl)
  rw [lg_entry_eq]
  generalize (lg_sl ([.ref q0, .int p1, .int p2, .int p3, .int p4]) ++ List.replicate (6 - (lg_sl ([.ref q0, .int p1, .int p2, .int p3, .int p4])).length) Slot.unset).toArray = ls at hl ⊢
  have hl : lv_has ls 6 [(0, .ref q0), (1, .int p1), (2, .int p2), (3, .int p3), (4, .int p4)] := hl
  unfold F_X11_addNumber at hF
  refine lv_aload_n hx hb dX11_addNumber_0 rfl (lv_at hl 0 rfl) ?_
  obtain ⟨zo1, hzo1, hF⟩ := z_bind hF
  refine z_callvE (fun (u : (Nat → Int64) × Int32) => (wModel g q0 q1 q2 q3 q4 q5 q6 q7 q8 q9 q10 q11 q12 mm u.1 msav misS mpst mchg merr mfai u.2 minp minM mUp mcar mcam mahd magn mltr mbeg mcmd mcmM mpl msz mwr mlin mliM)) (va_runV (As := []) (rest := []) ⟨hx, hb, hml, hown, hts⟩ (c_X11_starts l g q0 q1 q2 q3 q4 q5 q6 q7 q8 q9 q10 q11 q12 mm masd msav misS mpst mchg merr mfai mthr minp minM mUp mcar mcam mahd magn mltr mbeg mcmd mcmM mpl msz mwr mlin mliM _ fu _ hzo1) (cwV 0 hts (gdV mU_1329 mU_1331 mU_29 mU_75 mU_1332) rfl rfl rfl (by decide +kernel) ⟨Nat.le_of_ble_eq_true rfl, Nat.le_of_ble_eq_true rfl⟩) ⟨z_blind _ _ _ _, va_recv hK hP (ci := 7) (q0 := 0) rfl rfl, fun U hU hW => z_preE hP hD hK hB hS hA hU hW⟩ rfl rfl hl.1 rfl (lv_room (Nat.le_of_ble_eq_true rfl)) dX11_addNumber_1 ⟨Nat.le_of_ble_eq_true rfl, Nat.le_of_ble_eq_true rfl⟩) hD hS hA (fun _ => rfl) (fun u H locs hw hP hD hS => ?_)
  subst hw
  have hP : va_P (gD g) zCl (wModel g q0 q1 q2 q3 q4 q5 q6 q7 q8 q9 q10 q11 q12 mm zo1.1 msav misS mpst mchg merr mfai zo1.2 minp minM mUp mcar mcam mahd magn mltr mbeg mcmd mcmM mpl msz mwr mlin mliM) H := hP
  have hD : va_D A (wModel g q0 q1 q2 q3 q4 q5 q6 q7 q8 q9 q10 q11 q12 mm zo1.1 msav misS mpst mchg merr mfai zo1.2 minp minM mUp mcar mcam mahd magn mltr mbeg mcmd mcmM mpl msz mwr mlin mliM) := hD
  refine lv_aload_n hx hb dX11_addNumber_4 rfl (lv_at hl 0 rfl) ?_
  refine lv_iload_n hx hb dX11_addNumber_5 rfl (lv_at hl 1 rfl) ?_
  refine lv_iload_n hx hb dX11_addNumber_6 rfl (lv_at hl 2 rfl) ?_
  refine lv_iload_n hx hb dX11_addNumber_7 rfl (lv_at hl 3 rfl) ?_
  refine lv_iload hx hb dX11_addNumber_8 (lv_at hl 4 rfl) ?_
  obtain ⟨zo2, hzo2, hF⟩ := z_bind hF
  refine z_calliE (fun (u : (Nat → Int64) × Int32) => (wModel g q0 q1 q2 q3 q4 q5 q6 q7 q8 q9 q10 q11 q12 u.1 zo1.1 msav misS mpst mchg merr mfai u.2 minp minM mUp mcar mcam mahd magn mltr mbeg mcmd mcmM mpl msz mwr mlin mliM)) (va_runV (As := [.int p1, .int p2, .int p3, .int p4]) (rest := []) ⟨hx, hb, hml, hown, hts⟩ (c_X11_addIt l g q0 q1 q2 q3 q4 q5 q6 q7 q8 q9 q10 q11 q12 mm zo1.1 msav misS mpst mchg merr mfai zo1.2 minp minM mUp mcar mcam mahd magn mltr mbeg mcmd mcmM mpl msz mwr mlin mliM _ p1 p2 p3 p4 fu _ hzo2) (cwV 4 hts (gdV mU_1333 mU_1335 mU_30 mU_75 mU_1336) rfl rfl rfl (by decide +kernel) ⟨Nat.le_of_ble_eq_true rfl, Nat.le_of_ble_eq_true rfl⟩) ⟨z_blind _ _ _ _, va_recv hK hP (ci := 7) (q0 := 0) rfl rfl, fun U hU hW => z_preE hP hD hK hB hS hA hU hW⟩ rfl rfl hl.1 rfl (lv_room (Nat.le_of_ble_eq_true rfl)) dX11_addNumber_10 ⟨Nat.le_of_ble_eq_true rfl, Nat.le_of_ble_eq_true rfl⟩) hD hS hA (fun _ => rfl) (fun r u H locs hw hP hD hS => ?_)
  obtain ⟨rfl, rfl⟩ := hw
  have hP : va_P (gD g) zCl (wModel g q0 q1 q2 q3 q4 q5 q6 q7 q8 q9 q10 q11 q12 zo2.2.1 zo1.1 msav misS mpst mchg merr mfai zo2.2.2 minp minM mUp mcar mcam mahd magn mltr mbeg mcmd mcmM mpl msz mwr mlin mliM) H := hP
  have hD : va_D A (wModel g q0 q1 q2 q3 q4 q5 q6 q7 q8 q9 q10 q11 q12 zo2.2.1 zo1.1 msav misS mpst mchg merr mfai zo2.2.2 minp minM mUp mcar mcam mahd magn mltr mbeg mcmd mcmM mpl msz mwr mlin mliM) := hD
  refine lv_istore (lv' := [(5, .int zo2.1), (0, .ref q0), (1, .int p1), (2, .int p2), (3, .int p3), (4, .int p4)]) hx hb dX11_addNumber_13 hl (by decide) rfl (fun ls hl => ?_)
  refine lv_aload_n hx hb dX11_addNumber_15 rfl (lv_at hl 1 rfl) ?_
  obtain ⟨zo3, hzo3, hF⟩ := z_bind hF
  refine z_callvE (fun (u : (Nat → Int64) × Int32) => (wModel g q0 q1 q2 q3 q4 q5 q6 q7 q8 q9 q10 q11 q12 zo2.2.1 zo1.1 msav misS u.1 u.2 merr mfai zo2.2.2 minp minM mUp mcar mcam mahd magn mltr mbeg mcmd mcmM mpl msz mwr mlin mliM)) (va_runV (As := []) (rest := []) ⟨hx, hb, hml, hown, hts⟩ (c_X11_ends l g q0 q1 q2 q3 q4 q5 q6 q7 q8 q9 q10 q11 q12 zo2.2.1 zo1.1 msav misS mpst mchg merr mfai zo2.2.2 minp minM mUp mcar mcam mahd magn mltr mbeg mcmd mcmM mpl msz mwr mlin mliM _ fu _ hzo3) (cwV 0 hts (gdV mU_1375 mU_1377 mU_34 mU_75 mU_1378) rfl rfl rfl (by decide +kernel) ⟨Nat.le_of_ble_eq_true rfl, Nat.le_of_ble_eq_true rfl⟩) ⟨z_blind _ _ _ _, va_recv hK hP (ci := 7) (q0 := 0) rfl rfl, fun U hU hW => z_preE hP hD hK hB hS hA hU hW⟩ rfl rfl hl.1 rfl (lv_room (Nat.le_of_ble_eq_true rfl)) dX11_addNumber_16 ⟨Nat.le_of_ble_eq_true rfl, Nat.le_of_ble_eq_true rfl⟩) hD hS hA (fun _ => rfl) (fun u H locs hw hP hD hS => ?_)
  subst hw
  have hP : va_P (gD g) zCl (wModel g q0 q1 q2 q3 q4 q5 q6 q7 q8 q9 q10 q11 q12 zo2.2.1 zo1.1 msav misS zo3.1 zo3.2 merr mfai zo2.2.2 minp minM mUp mcar mcam mahd magn mltr mbeg mcmd mcmM mpl msz mwr mlin mliM) H := hP
  have hD : va_D A (wModel g q0 q1 q2 q3 q4 q5 q6 q7 q8 q9 q10 q11 q12 zo2.2.1 zo1.1 msav misS zo3.1 zo3.2 merr mfai zo2.2.2 minp minM mUp mcar mcam mahd magn mltr mbeg mcmd mcmM mpl msz mwr mlin mliM) := hD
  refine lv_iload hx hb dX11_addNumber_19 (lv_at hl 0 rfl) ?_
  have ho := (Option.some.inj hF).symm
  exact W.iret (v := zo2.1) hx hb hr (fun t ht hW => ⟨⟨zo2.1, (zo2.2.1, zo1.1, zo3.1, zo3.2, zo2.2.2), rfl, ⟨by rw [ho], by rw [ho]⟩, z_end ht hP⟩, hS.F ht⟩) hS.2.2 dX11_addNumber_21
abbrev w_X11_overIt : List Cond := .code yX11_overIt cX11_overIt 5 (some .int) :: wU
abbrev r_X11_overIt : Room := { frames := 2, cells := 0, slots := 0, locals := 45 }
abbrev q_X11_overIt (g : GG) (q0 q1 q2 q3 q4 q5 q6 q7 q8 q9 q10 q11 q12 : Nat) (mm : Nat → Int64) (masd : Nat → Int64) (msav : Nat → Int64) (misS : Int32) (mpst : Nat → Int64) (mchg : Int32) (merr : Int32) (mfai : Int32) (mthr : Int32) (minp : Nat → Int32) (minM : Int32) (mUp : Nat → Int32) (mcar : Nat → Int32) (mcam : Nat → Int32) (mahd : Int32) (magn : Int32) (mltr : Nat → Int32) (mbeg : Nat → Int32) (mcmd : Nat → Int32) (mcmM : Int32) (mpl : Int32) (msz : Int32) (mwr : Int32) (mlin : Nat → Int32) (mliM : Int32) (o : Int32 × (Nat → Int64) × Int32) (A : Nat → Prop) := va_Qi (fun (r : Int32) (u : (Nat → Int64) × Int32) => o.1 = r ∧ o.2 = u) (fun u t => va_P (gD g) zCl (wModel g q0 q1 q2 q3 q4 q5 q6 q7 q8 q9 q10 q11 q12 u.1 masd msav misS mpst mchg merr mfai u.2 minp minM mUp mcar mcam mahd magn mltr mbeg mcmd mcmM mpl msz mwr mlin mliM) t.heap) A
set_option maxHeartbeats 4000000 in
set_option maxRecDepth 100000 in
theorem c_X11_overIt (l : Launch) (g : GG) (q0 q1 q2 q3 q4 q5 q6 q7 q8 q9 q10 q11 q12 : Nat) (mm : Nat → Int64) (masd : Nat → Int64) (msav : Nat → Int64) (misS : Int32) (mpst : Nat → Int64) (mchg : Int32) (merr : Int32) (mfai : Int32) (mthr : Int32) (minp : Nat → Int32) (minM : Int32) (mUp : Nat → Int32) (mcar : Nat → Int32) (mcam : Nat → Int32) (mahd : Int32) (magn : Int32) (mltr : Nat → Int32) (mbeg : Nat → Int32) (mcmd : Nat → Int32) (mcmM : Int32) (mpl : Int32) (msz : Int32) (mwr : Int32) (mlin : Nat → Int32) (mliM : Int32) (sz : Nat) (p1 : Int32) (p2 : Int32) (p3 : Int32) (p4 : Int32) (fu : Nat) (o : Int32 × (Nat → Int64) × Int32) (hF : F_X11_overIt fu mm mthr p1 p2 p3 p4 = some o) : Met l yX11_overIt w_X11_overIt r_X11_overIt (va_Pc [.ref q0, .int p1, .int p2, .int p3, .int p4] (zP g (wModel g q0 q1 q2 q3 q4 q5 q6 q7 q8 q9 q10 q11 q12 mm masd msav misS mpst mchg merr mfai mthr minp minM mUp mcar mcam mahd magn mltr mbeg mcmd mcmM mpl msz mwr mlin mliM) sz)) (q_X11_overIt g q0 q1 q2 q3 q4 q5 q6 q7 q8 q9 q10 q11 q12 mm masd msav misS mpst mchg merr mfai mthr minp minM mUp mcar mcam mahd magn mltr mbeg mcmd mcmM mpl msz mwr mlin mliM o (va_A (wModel g q0 q1 q2 q3 q4 q5 q6 q7 q8 q9 q10 q11 q12 mm masd msav misS mpst mchg merr mfai mthr minp minM mUp mcar mcam mahd magn mltr mbeg mcmd mcmM mpl msz mwr mlin mliM) sz)) 0 0 (va_A (wModel g q0 q1 q2 q3 q4 q5 q6 q7 q8 q9 q10 q11 q12 mm masd msav misS mpst mchg merr mfai mthr minp minM mUp mcar mcam mahd magn mltr mbeg mcmd mcmM mpl msz mwr mlin mliM) sz) := by
  refine Met.ofW (cc := cX11_overIt) (maxL := 5) (ret := (some .int)) (by decide) rfl ?_
  intro p e s m args below meth c s₁ B hml hv
  obtain ⟨rfl, rfl, hP, hK, hD0, hB⟩ := hv
  have hx := B.exec
  have hb := B.bytes
  have hr := B.returns
  have hts : ∀ w ∈ wU, w.before _ s = true := fun w h => atoms_spec (ws := w_X11_overIt) B.pre w (List.mem_cons_of_mem _ h)
  have hown : s.vm.findClass RX11 = some m.cls := findClass_of_methodNamed B.named
  have hlocks := B.notSynchronized
  have hD := hD0.self (sz := s.heap.size)
  generalize hAe : va_A (wModel g q0 q1 q2 q3 q4 q5 q6 q7 q8 q9 q10 q11 q12 mm masd msav misS mpst mchg merr mfai mthr minp minM mUp mcar mcam mahd magn mltr mbeg mcmd mcmM mpl msz mwr mlin mliM) s.heap.size = A at hD hB ⊢
  have hA : ∀ q : Nat, s.heap.size ≤ q → A q := fun q h => by rw [← hAe]; exact Or.inr h
  have hS : va_S A s.heap s.heap [] := va_S.rf
  have hl := lv_entry ([.ref q0, .int p1, .int p2, .int p3, .int p4]) (n := 5) (Nat.le_of_ble_eq_true rfl)
  rw [lg_entry_eq]
  generalize (lg_sl ([.ref q0, .int p1, .int p2, .int p3, .int p4]) ++ List.replicate (5 - (lg_sl ([.ref q0, .int p1, .int p2, .int p3, .int p4])).length) Slot.unset).toArray = ls at hl ⊢
  have hl : lv_has ls 5 [(0, .ref q0), (1, .int p1), (2, .int p2), (3, .int p3), (4, .int p4)] := hl
  unfold F_X11_overIt at hF
  refine lv_iload_n hx hb dX11_overIt_0 rfl (lv_at hl 1 rfl) ?_
  refine lv_i2l (v := (Int32.toInt64 p1)) hx hb dX11_overIt_1 rfl ?_
  refine lv_lconst (v := 0) hx hb dX11_overIt_2 (by decide) ?_
  refine lv_ldc2 (v := 9999) hx hb hown (hts _ mU_1344) dX11_overIt_3 ?_
  obtain ⟨zo1, hzo1, hF⟩ := z_bind hF
  refine z_calli (fun (_ : Unit) => []) [] (va_runS (As := [.long (Int32.toInt64 p1), .long 0, .long 9999]) (rest := []) ⟨hx, hb, hml, hown, hts⟩ (c_X11_in l g _ (Int32.toInt64 p1) 0 9999 _ hzo1) (va_cwS 3 hts (gdS mU_1341 mU_1342 mU_75 mU_1343) rfl rfl rfl (by decide +kernel) ⟨Nat.le_of_ble_eq_true rfl, Nat.le_of_ble_eq_true rfl⟩) ⟨z_blind _ _ _ _, fun U hU hW => z_pre [] hP hD hK hB hS hA rfl rfl hU hW⟩ rfl rfl hl.1 rfl (lv_room (Nat.le_of_ble_eq_true rfl)) dX11_overIt_6 ⟨Nat.le_of_ble_eq_true rfl, Nat.le_of_ble_eq_true rfl⟩) hP hD hS hA rfl (fun _ => rfl) (fun r u H locs hw hP hD hS => ?_)
  subst hw
  have hP : va_P (gD g) zCl (wModel g q0 q1 q2 q3 q4 q5 q6 q7 q8 q9 q10 q11 q12 mm masd msav misS mpst mchg merr mfai mthr minp minM mUp mcar mcam mahd magn mltr mbeg mcmd mcmM mpl msz mwr mlin mliM) H := hP
  have hD : va_D A (wModel g q0 q1 q2 q3 q4 q5 q6 q7 q8 q9 q10 q11 q12 mm masd msav misS mpst mchg merr mfai mthr minp minM mUp mcar mcam mahd magn mltr mbeg mcmd mcmM mpl msz mwr mlin mliM) := hD
  refine lv_if_eq (tgt := 39) hx hb dX11_overIt_9 (by decide) (fun zc2 => ?_) (fun zc2 => ?_)
  · have hF := z_pos hF zc2
    refine lv_aload_n hx hb dX11_overIt_39 rfl (lv_at hl 0 rfl) ?_
    refine lv_iconst (v := 1) hx hb dX11_overIt_40 (by decide) ?_
    obtain ⟨zo3, hzo3, hF⟩ := z_bind hF
    refine z_calliE (fun (u : Int32) => (wModel g q0 q1 q2 q3 q4 q5 q6 q7 q8 q9 q10 q11 q12 mm masd msav misS mpst mchg merr mfai u minp minM mUp mcar mcam mahd magn mltr mbeg mcmd mcmM mpl msz mwr mlin mliM)) (va_runV (As := [.int 1]) (rest := []) ⟨hx, hb, hml, hown, hts⟩ (c_X11_throwing l g q0 q1 q2 q3 q4 q5 q6 q7 q8 q9 q10 q11 q12 mm masd msav misS mpst mchg merr mfai mthr minp minM mUp mcar mcam mahd magn mltr mbeg mcmd mcmM mpl msz mwr mlin mliM _ 1 _ hzo3) (cwV 1 hts (gdV mU_1352 mU_1354 mU_31 mU_75 mU_1355) rfl rfl rfl (by decide +kernel) ⟨Nat.le_of_ble_eq_true rfl, Nat.le_of_ble_eq_true rfl⟩) ⟨z_blind _ _ _ _, va_recv hK hP (ci := 7) (q0 := 0) rfl rfl, fun U hU hW => z_preE hP hD hK hB hS hA hU hW⟩ rfl rfl hl.1 rfl (lv_room (Nat.le_of_ble_eq_true rfl)) dX11_overIt_41 ⟨Nat.le_of_ble_eq_true rfl, Nat.le_of_ble_eq_true rfl⟩) hD hS hA (fun _ => rfl) (fun r u H locs hw hP hD hS => ?_)
    obtain ⟨rfl, rfl⟩ := hw
    have hP : va_P (gD g) zCl (wModel g q0 q1 q2 q3 q4 q5 q6 q7 q8 q9 q10 q11 q12 mm masd msav misS mpst mchg merr mfai zo3.2 minp minM mUp mcar mcam mahd magn mltr mbeg mcmd mcmM mpl msz mwr mlin mliM) H := hP
    have hD : va_D A (wModel g q0 q1 q2 q3 q4 q5 q6 q7 q8 q9 q10 q11 q12 mm masd msav misS mpst mchg merr mfai zo3.2 minp minM mUp mcar mcam mahd magn mltr mbeg mcmd mcmM mpl msz mwr mlin mliM) := hD
    have ho := (Option.some.inj hF).symm
    exact W.iret (v := zo3.1) hx hb hr (fun t ht hW => ⟨⟨zo3.1, (mm, zo3.2), rfl, ⟨by rw [ho], by rw [ho]⟩, z_end ht hP⟩, hS.F ht⟩) hS.2.2 dX11_overIt_44
  · have hF := z_neg hF zc2
    refine lv_iload_n hx hb dX11_overIt_12 rfl (lv_at hl 2 rfl) ?_
    refine lv_i2l (v := (Int32.toInt64 p2)) hx hb dX11_overIt_13 rfl ?_
    refine lv_lconst (v := 1) hx hb dX11_overIt_14 (by decide) ?_
    refine lv_ldc2 (v := 999) hx hb hown (hts _ mU_1387) dX11_overIt_15 ?_
    obtain ⟨zo4, hzo4, hF⟩ := z_bind hF
    refine z_calli (fun (_ : Unit) => []) [] (va_runS (As := [.long (Int32.toInt64 p2), .long 1, .long 999]) (rest := []) ⟨hx, hb, hml, hown, hts⟩ (c_X11_in l g _ (Int32.toInt64 p2) 1 999 _ hzo4) (va_cwS 3 hts (gdS mU_1341 mU_1342 mU_75 mU_1343) rfl rfl rfl (by decide +kernel) ⟨Nat.le_of_ble_eq_true rfl, Nat.le_of_ble_eq_true rfl⟩) ⟨z_blind _ _ _ _, fun U hU hW => z_pre [] hP hD hK hB hS hA rfl rfl hU hW⟩ rfl rfl hl.1 rfl (lv_room (Nat.le_of_ble_eq_true rfl)) dX11_overIt_18 ⟨Nat.le_of_ble_eq_true rfl, Nat.le_of_ble_eq_true rfl⟩) hP hD hS hA rfl (fun _ => rfl) (fun r u H locs hw hP hD hS => ?_)
    subst hw
    have hP : va_P (gD g) zCl (wModel g q0 q1 q2 q3 q4 q5 q6 q7 q8 q9 q10 q11 q12 mm masd msav misS mpst mchg merr mfai mthr minp minM mUp mcar mcam mahd magn mltr mbeg mcmd mcmM mpl msz mwr mlin mliM) H := hP
    have hD : va_D A (wModel g q0 q1 q2 q3 q4 q5 q6 q7 q8 q9 q10 q11 q12 mm masd msav misS mpst mchg merr mfai mthr minp minM mUp mcar mcam mahd magn mltr mbeg mcmd mcmM mpl msz mwr mlin mliM) := hD
    refine lv_if_eq (tgt := 39) hx hb dX11_overIt_21 (by decide) (fun zc5 => ?_) (fun zc5 => ?_)
    · have hF := z_pos hF zc5
      refine lv_aload_n hx hb dX11_overIt_39 rfl (lv_at hl 0 rfl) ?_
      refine lv_iconst (v := 1) hx hb dX11_overIt_40 (by decide) ?_
      obtain ⟨zo6, hzo6, hF⟩ := z_bind hF
      refine z_calliE (fun (u : Int32) => (wModel g q0 q1 q2 q3 q4 q5 q6 q7 q8 q9 q10 q11 q12 mm masd msav misS mpst mchg merr mfai u minp minM mUp mcar mcam mahd magn mltr mbeg mcmd mcmM mpl msz mwr mlin mliM)) (va_runV (As := [.int 1]) (rest := []) ⟨hx, hb, hml, hown, hts⟩ (c_X11_throwing l g q0 q1 q2 q3 q4 q5 q6 q7 q8 q9 q10 q11 q12 mm masd msav misS mpst mchg merr mfai mthr minp minM mUp mcar mcam mahd magn mltr mbeg mcmd mcmM mpl msz mwr mlin mliM _ 1 _ hzo6) (cwV 1 hts (gdV mU_1352 mU_1354 mU_31 mU_75 mU_1355) rfl rfl rfl (by decide +kernel) ⟨Nat.le_of_ble_eq_true rfl, Nat.le_of_ble_eq_true rfl⟩) ⟨z_blind _ _ _ _, va_recv hK hP (ci := 7) (q0 := 0) rfl rfl, fun U hU hW => z_preE hP hD hK hB hS hA hU hW⟩ rfl rfl hl.1 rfl (lv_room (Nat.le_of_ble_eq_true rfl)) dX11_overIt_41 ⟨Nat.le_of_ble_eq_true rfl, Nat.le_of_ble_eq_true rfl⟩) hD hS hA (fun _ => rfl) (fun r u H locs hw hP hD hS => ?_)
      obtain ⟨rfl, rfl⟩ := hw
      have hP : va_P (gD g) zCl (wModel g q0 q1 q2 q3 q4 q5 q6 q7 q8 q9 q10 q11 q12 mm masd msav misS mpst mchg merr mfai zo6.2 minp minM mUp mcar mcam mahd magn mltr mbeg mcmd mcmM mpl msz mwr mlin mliM) H := hP
      have hD : va_D A (wModel g q0 q1 q2 q3 q4 q5 q6 q7 q8 q9 q10 q11 q12 mm masd msav misS mpst mchg merr mfai zo6.2 minp minM mUp mcar mcam mahd magn mltr mbeg mcmd mcmM mpl msz mwr mlin mliM) := hD
      have ho := (Option.some.inj hF).symm
      exact W.iret (v := zo6.1) hx hb hr (fun t ht hW => ⟨⟨zo6.1, (mm, zo6.2), rfl, ⟨by rw [ho], by rw [ho]⟩, z_end ht hP⟩, hS.F ht⟩) hS.2.2 dX11_overIt_44
    · have hF := z_neg hF zc5
      refine lv_iload_n hx hb dX11_overIt_24 rfl (lv_at hl 3 rfl) ?_
      obtain ⟨zo7, hzo7, hF⟩ := z_bind hF
      refine z_calli (fun (_ : Unit) => []) [] (va_runS (As := [.int p3]) (rest := []) ⟨hx, hb, hml, hown, hts⟩ (c_X11_isScale l g _ p3 _ hzo7) (va_cwS 1 hts (gdS mU_1345 mU_1346 mU_75 mU_1347) rfl rfl rfl (by decide +kernel) ⟨Nat.le_of_ble_eq_true rfl, Nat.le_of_ble_eq_true rfl⟩) ⟨z_blind _ _ _ _, fun U hU hW => z_pre [] hP hD hK hB hS hA rfl rfl hU hW⟩ rfl rfl hl.1 rfl (lv_room (Nat.le_of_ble_eq_true rfl)) dX11_overIt_25 ⟨Nat.le_of_ble_eq_true rfl, Nat.le_of_ble_eq_true rfl⟩) hP hD hS hA rfl (fun _ => rfl) (fun r u H locs hw hP hD hS => ?_)
      subst hw
      have hP : va_P (gD g) zCl (wModel g q0 q1 q2 q3 q4 q5 q6 q7 q8 q9 q10 q11 q12 mm masd msav misS mpst mchg merr mfai mthr minp minM mUp mcar mcam mahd magn mltr mbeg mcmd mcmM mpl msz mwr mlin mliM) H := hP
      have hD : va_D A (wModel g q0 q1 q2 q3 q4 q5 q6 q7 q8 q9 q10 q11 q12 mm masd msav misS mpst mchg merr mfai mthr minp minM mUp mcar mcam mahd magn mltr mbeg mcmd mcmM mpl msz mwr mlin mliM) := hD
      refine lv_if_eq (tgt := 39) hx hb dX11_overIt_28 (by decide) (fun zc8 => ?_) (fun zc8 => ?_)
      · have hF := z_pos hF zc8
        refine lv_aload_n hx hb dX11_overIt_39 rfl (lv_at hl 0 rfl) ?_
        refine lv_iconst (v := 1) hx hb dX11_overIt_40 (by decide) ?_
        obtain ⟨zo9, hzo9, hF⟩ := z_bind hF
        refine z_calliE (fun (u : Int32) => (wModel g q0 q1 q2 q3 q4 q5 q6 q7 q8 q9 q10 q11 q12 mm masd msav misS mpst mchg merr mfai u minp minM mUp mcar mcam mahd magn mltr mbeg mcmd mcmM mpl msz mwr mlin mliM)) (va_runV (As := [.int 1]) (rest := []) ⟨hx, hb, hml, hown, hts⟩ (c_X11_throwing l g q0 q1 q2 q3 q4 q5 q6 q7 q8 q9 q10 q11 q12 mm masd msav misS mpst mchg merr mfai mthr minp minM mUp mcar mcam mahd magn mltr mbeg mcmd mcmM mpl msz mwr mlin mliM _ 1 _ hzo9) (cwV 1 hts (gdV mU_1352 mU_1354 mU_31 mU_75 mU_1355) rfl rfl rfl (by decide +kernel) ⟨Nat.le_of_ble_eq_true rfl, Nat.le_of_ble_eq_true rfl⟩) ⟨z_blind _ _ _ _, va_recv hK hP (ci := 7) (q0 := 0) rfl rfl, fun U hU hW => z_preE hP hD hK hB hS hA hU hW⟩ rfl rfl hl.1 rfl (lv_room (Nat.le_of_ble_eq_true rfl)) dX11_overIt_41 ⟨Nat.le_of_ble_eq_true rfl, Nat.le_of_ble_eq_true rfl⟩) hD hS hA (fun _ => rfl) (fun r u H locs hw hP hD hS => ?_)
        obtain ⟨rfl, rfl⟩ := hw
        have hP : va_P (gD g) zCl (wModel g q0 q1 q2 q3 q4 q5 q6 q7 q8 q9 q10 q11 q12 mm masd msav misS mpst mchg merr mfai zo9.2 minp minM mUp mcar mcam mahd magn mltr mbeg mcmd mcmM mpl msz mwr mlin mliM) H := hP
        have hD : va_D A (wModel g q0 q1 q2 q3 q4 q5 q6 q7 q8 q9 q10 q11 q12 mm masd msav misS mpst mchg merr mfai zo9.2 minp minM mUp mcar mcam mahd magn mltr mbeg mcmd mcmM mpl msz mwr mlin mliM) := hD
        have ho := (Option.some.inj hF).symm
        exact W.iret (v := zo9.1) hx hb hr (fun t ht hW => ⟨⟨zo9.1, (mm, zo9.2), rfl, ⟨by rw [ho], by rw [ho]⟩, z_end ht hP⟩, hS.F ht⟩) hS.2.2 dX11_overIt_44
      · have hF := z_neg hF zc8
        refine lv_iload hx hb dX11_overIt_31 (lv_at hl 4 rfl) ?_
        obtain ⟨zo10, hzo10, hF⟩ := z_bind hF
        refine z_calli (fun (_ : Unit) => []) [] (va_runS (As := [.int p4]) (rest := []) ⟨hx, hb, hml, hown, hts⟩ (c_X11_isMode l g _ p4 _ hzo10) (va_cwS 1 hts (gdS mU_1349 mU_1350 mU_75 mU_1351) rfl rfl rfl (by decide +kernel) ⟨Nat.le_of_ble_eq_true rfl, Nat.le_of_ble_eq_true rfl⟩) ⟨z_blind _ _ _ _, fun U hU hW => z_pre [] hP hD hK hB hS hA rfl rfl hU hW⟩ rfl rfl hl.1 rfl (lv_room (Nat.le_of_ble_eq_true rfl)) dX11_overIt_33 ⟨Nat.le_of_ble_eq_true rfl, Nat.le_of_ble_eq_true rfl⟩) hP hD hS hA rfl (fun _ => rfl) (fun r u H locs hw hP hD hS => ?_)
        subst hw
        have hP : va_P (gD g) zCl (wModel g q0 q1 q2 q3 q4 q5 q6 q7 q8 q9 q10 q11 q12 mm masd msav misS mpst mchg merr mfai mthr minp minM mUp mcar mcam mahd magn mltr mbeg mcmd mcmM mpl msz mwr mlin mliM) H := hP
        have hD : va_D A (wModel g q0 q1 q2 q3 q4 q5 q6 q7 q8 q9 q10 q11 q12 mm masd msav misS mpst mchg merr mfai mthr minp minM mUp mcar mcam mahd magn mltr mbeg mcmd mcmM mpl msz mwr mlin mliM) := hD
        refine lv_if_ne (tgt := 45) hx hb dX11_overIt_36 (by decide) (fun zc11 => ?_) (fun zc11 => ?_)
        · have hF := z_neg hF zc11
          refine lv_aload_n hx hb dX11_overIt_45 rfl (lv_at hl 0 rfl) ?_
          obtain ⟨zo12, hzo12, hF⟩ := z_bind hF
          refine z_calliE (fun (_ : Unit) => (wModel g q0 q1 q2 q3 q4 q5 q6 q7 q8 q9 q10 q11 q12 mm masd msav misS mpst mchg merr mfai mthr minp minM mUp mcar mcam mahd magn mltr mbeg mcmd mcmM mpl msz mwr mlin mliM)) (va_runV (As := []) (rest := []) ⟨hx, hb, hml, hown, hts⟩ (c_X11_many l g q0 q1 q2 q3 q4 q5 q6 q7 q8 q9 q10 q11 q12 mm masd msav misS mpst mchg merr mfai mthr minp minM mUp mcar mcam mahd magn mltr mbeg mcmd mcmM mpl msz mwr mlin mliM _ _ hzo12) (cwV 0 hts (gdV mU_1356 mU_1358 mU_32 mU_75 mU_1359) rfl rfl rfl (by decide +kernel) ⟨Nat.le_of_ble_eq_true rfl, Nat.le_of_ble_eq_true rfl⟩) ⟨z_blind _ _ _ _, va_recv hK hP (ci := 7) (q0 := 0) rfl rfl, fun U hU hW => z_preE hP hD hK hB hS hA hU hW⟩ rfl rfl hl.1 rfl (lv_room (Nat.le_of_ble_eq_true rfl)) dX11_overIt_46 ⟨Nat.le_of_ble_eq_true rfl, Nat.le_of_ble_eq_true rfl⟩) hD hS hA (fun _ => rfl) (fun r u H locs hw hP hD hS => ?_)
          subst hw
          have hP : va_P (gD g) zCl (wModel g q0 q1 q2 q3 q4 q5 q6 q7 q8 q9 q10 q11 q12 mm masd msav misS mpst mchg merr mfai mthr minp minM mUp mcar mcam mahd magn mltr mbeg mcmd mcmM mpl msz mwr mlin mliM) H := hP
          have hD : va_D A (wModel g q0 q1 q2 q3 q4 q5 q6 q7 q8 q9 q10 q11 q12 mm masd msav misS mpst mchg merr mfai mthr minp minM mUp mcar mcam mahd magn mltr mbeg mcmd mcmM mpl msz mwr mlin mliM) := hD
          refine lv_bipush (v := 6) hx hb dX11_overIt_49 (by decide) ?_
          refine lv_icmp_ne (tgt := 60) hx hb dX11_overIt_51 (by decide) (fun zc13 => ?_) (fun zc13 => ?_)
          · have hF := z_neg hF zc13
            refine lv_aload_n hx hb dX11_overIt_60 rfl (lv_at hl 0 rfl) ?_
            refine lv_iload_n hx hb dX11_overIt_61 rfl (lv_at hl 3 rfl) ?_
            obtain ⟨zo14, hzo14, hF⟩ := z_bind hF
            refine z_calll (fun (_ : Unit) => []) [] (va_runS (As := [.int p3]) (rest := [.ref q0]) ⟨hx, hb, hml, hown, hts⟩ (c_X11_step l g _ p3 fu _ hzo14) (va_cwS 1 hts (gdS mU_1364 mU_1365 mU_75 mU_1366) rfl rfl rfl (by decide +kernel) ⟨Nat.le_of_ble_eq_true rfl, Nat.le_of_ble_eq_true rfl⟩) ⟨z_blind _ _ _ _, fun U hU hW => z_pre [] hP hD hK hB hS hA rfl rfl hU hW⟩ rfl rfl hl.1 rfl (lv_room (Nat.le_of_ble_eq_true rfl)) dX11_overIt_62 ⟨Nat.le_of_ble_eq_true rfl, Nat.le_of_ble_eq_true rfl⟩) hP hD hS hA rfl (fun _ => rfl) (fun r u H locs hw hP hD hS => ?_)
            subst hw
            have hP : va_P (gD g) zCl (wModel g q0 q1 q2 q3 q4 q5 q6 q7 q8 q9 q10 q11 q12 mm masd msav misS mpst mchg merr mfai mthr minp minM mUp mcar mcam mahd magn mltr mbeg mcmd mcmM mpl msz mwr mlin mliM) H := hP
            have hD : va_D A (wModel g q0 q1 q2 q3 q4 q5 q6 q7 q8 q9 q10 q11 q12 mm masd msav misS mpst mchg merr mfai mthr minp minM mUp mcar mcam mahd magn mltr mbeg mcmd mcmM mpl msz mwr mlin mliM) := hD
            refine lv_ldc2 (v := 10000) hx hb hown (hts _ mU_1363) dX11_overIt_65 ?_
            refine lv_iload_n hx hb dX11_overIt_68 rfl (lv_at hl 1 rfl) ?_
            refine lv_i2l (v := (Int32.toInt64 p1)) hx hb dX11_overIt_69 rfl ?_
            refine lv_lmul hx hb dX11_overIt_70 ?_
            refine lv_iload_n hx hb dX11_overIt_71 rfl (lv_at hl 2 rfl) ?_
            refine lv_i2l (v := (Int32.toInt64 p2)) hx hb dX11_overIt_72 rfl ?_
            refine lv_iload_n hx hb dX11_overIt_73 rfl (lv_at hl 3 rfl) ?_
            obtain ⟨zo15, hzo15, hF⟩ := z_bind hF
            refine z_calll (fun (_ : Unit) => []) [] (va_runS (As := [.int p3]) (rest := [.long (Int32.toInt64 p2), .long (10000 * (Int32.toInt64 p1)), .long zo14, .ref q0]) ⟨hx, hb, hml, hown, hts⟩ (c_X11_step l g _ p3 fu _ hzo15) (va_cwS 1 hts (gdS mU_1364 mU_1365 mU_75 mU_1366) rfl rfl rfl (by decide +kernel) ⟨Nat.le_of_ble_eq_true rfl, Nat.le_of_ble_eq_true rfl⟩) ⟨z_blind _ _ _ _, fun U hU hW => z_pre [] hP hD hK hB hS hA rfl rfl hU hW⟩ rfl rfl hl.1 rfl (lv_room (Nat.le_of_ble_eq_true rfl)) dX11_overIt_74 ⟨Nat.le_of_ble_eq_true rfl, Nat.le_of_ble_eq_true rfl⟩) hP hD hS hA rfl (fun _ => rfl) (fun r u H locs hw hP hD hS => ?_)
            subst hw
            have hP : va_P (gD g) zCl (wModel g q0 q1 q2 q3 q4 q5 q6 q7 q8 q9 q10 q11 q12 mm masd msav misS mpst mchg merr mfai mthr minp minM mUp mcar mcam mahd magn mltr mbeg mcmd mcmM mpl msz mwr mlin mliM) H := hP
            have hD : va_D A (wModel g q0 q1 q2 q3 q4 q5 q6 q7 q8 q9 q10 q11 q12 mm masd msav misS mpst mchg merr mfai mthr minp minM mUp mcar mcam mahd magn mltr mbeg mcmd mcmM mpl msz mwr mlin mliM) := hD
            refine lv_lmul hx hb dX11_overIt_77 ?_
            refine lv_iload hx hb dX11_overIt_78 (lv_at hl 4 rfl) ?_
            obtain ⟨zo16, hzo16, hF⟩ := z_bind hF
            refine z_calll (fun (_ : Unit) => []) [] (va_runS (As := [.long (10000 * (Int32.toInt64 p1)), .long ((Int32.toInt64 p2) * zo15), .int p4]) (rest := [.long zo14, .ref q0]) ⟨hx, hb, hml, hown, hts⟩ (c_X11_times l g _ (10000 * (Int32.toInt64 p1)) ((Int32.toInt64 p2) * zo15) p4 _ hzo16) (va_cwS 3 hts (gdS mU_1388 mU_1389 mU_75 mU_1390) rfl rfl rfl (by decide +kernel) ⟨Nat.le_of_ble_eq_true rfl, Nat.le_of_ble_eq_true rfl⟩) ⟨z_blind _ _ _ _, fun U hU hW => z_pre [] hP hD hK hB hS hA rfl rfl hU hW⟩ rfl rfl hl.1 rfl (lv_room (Nat.le_of_ble_eq_true rfl)) dX11_overIt_80 ⟨Nat.le_of_ble_eq_true rfl, Nat.le_of_ble_eq_true rfl⟩) hP hD hS hA rfl (fun _ => rfl) (fun r u H locs hw hP hD hS => ?_)
            subst hw
            have hP : va_P (gD g) zCl (wModel g q0 q1 q2 q3 q4 q5 q6 q7 q8 q9 q10 q11 q12 mm masd msav misS mpst mchg merr mfai mthr minp minM mUp mcar mcam mahd magn mltr mbeg mcmd mcmM mpl msz mwr mlin mliM) H := hP
            have hD : va_D A (wModel g q0 q1 q2 q3 q4 q5 q6 q7 q8 q9 q10 q11 q12 mm masd msav misS mpst mchg merr mfai mthr minp minM mUp mcar mcam mahd magn mltr mbeg mcmd mcmM mpl msz mwr mlin mliM) := hD
            refine lv_lmul hx hb dX11_overIt_83 ?_
            refine lv_iload_n hx hb dX11_overIt_84 rfl (lv_at hl 3 rfl) ?_
            refine lv_iload hx hb dX11_overIt_85 (lv_at hl 4 rfl) ?_
            obtain ⟨zo17, hzo17, hF⟩ := z_bind hF
            refine z_calliE (fun (u : (Nat → Int64)) => (wModel g q0 q1 q2 q3 q4 q5 q6 q7 q8 q9 q10 q11 q12 u masd msav misS mpst mchg merr mfai mthr minp minM mUp mcar mcam mahd magn mltr mbeg mcmd mcmM mpl msz mwr mlin mliM)) (va_runV (As := [.long (zo14 * zo16), .int p3, .int p4]) (rest := []) ⟨hx, hb, hml, hown, hts⟩ (c_X11_takesIn l g q0 q1 q2 q3 q4 q5 q6 q7 q8 q9 q10 q11 q12 mm masd msav misS mpst mchg merr mfai mthr minp minM mUp mcar mcam mahd magn mltr mbeg mcmd mcmM mpl msz mwr mlin mliM _ (zo14 * zo16) p3 p4 _ hzo17) (cwV 3 hts (gdV mU_1368 mU_1370 mU_33 mU_75 mU_1371) rfl rfl rfl (by decide +kernel) ⟨Nat.le_of_ble_eq_true rfl, Nat.le_of_ble_eq_true rfl⟩) ⟨z_blind _ _ _ _, va_recv hK hP (ci := 7) (q0 := 0) rfl rfl, fun U hU hW => z_preE hP hD hK hB hS hA hU hW⟩ rfl rfl hl.1 rfl (lv_room (Nat.le_of_ble_eq_true rfl)) dX11_overIt_87 ⟨Nat.le_of_ble_eq_true rfl, Nat.le_of_ble_eq_true rfl⟩) hD hS hA (fun _ => rfl) (fun r u H locs hw hP hD hS => ?_)
            obtain ⟨rfl, rfl⟩ := hw
            have hP : va_P (gD g) zCl (wModel g q0 q1 q2 q3 q4 q5 q6 q7 q8 q9 q10 q11 q12 zo17.2 masd msav misS mpst mchg merr mfai mthr minp minM mUp mcar mcam mahd magn mltr mbeg mcmd mcmM mpl msz mwr mlin mliM) H := hP
            have hD : va_D A (wModel g q0 q1 q2 q3 q4 q5 q6 q7 q8 q9 q10 q11 q12 zo17.2 masd msav misS mpst mchg merr mfai mthr minp minM mUp mcar mcam mahd magn mltr mbeg mcmd mcmM mpl msz mwr mlin mliM) := hD
            have ho := (Option.some.inj hF).symm
            exact W.iret (v := zo17.1) hx hb hr (fun t ht hW => ⟨⟨zo17.1, (zo17.2, mthr), rfl, ⟨by rw [ho], by rw [ho]⟩, z_end ht hP⟩, hS.F ht⟩) hS.2.2 dX11_overIt_90
          · have hF := z_pos hF zc13
            refine lv_aload_n hx hb dX11_overIt_54 rfl (lv_at hl 0 rfl) ?_
            refine lv_iconst (v := 2) hx hb dX11_overIt_55 (by decide) ?_
            obtain ⟨zo18, hzo18, hF⟩ := z_bind hF
            refine z_calliE (fun (u : Int32) => (wModel g q0 q1 q2 q3 q4 q5 q6 q7 q8 q9 q10 q11 q12 mm masd msav misS mpst mchg merr mfai u minp minM mUp mcar mcam mahd magn mltr mbeg mcmd mcmM mpl msz mwr mlin mliM)) (va_runV (As := [.int 2]) (rest := []) ⟨hx, hb, hml, hown, hts⟩ (c_X11_throwing l g q0 q1 q2 q3 q4 q5 q6 q7 q8 q9 q10 q11 q12 mm masd msav misS mpst mchg merr mfai mthr minp minM mUp mcar mcam mahd magn mltr mbeg mcmd mcmM mpl msz mwr mlin mliM _ 2 _ hzo18) (cwV 1 hts (gdV mU_1352 mU_1354 mU_31 mU_75 mU_1355) rfl rfl rfl (by decide +kernel) ⟨Nat.le_of_ble_eq_true rfl, Nat.le_of_ble_eq_true rfl⟩) ⟨z_blind _ _ _ _, va_recv hK hP (ci := 7) (q0 := 0) rfl rfl, fun U hU hW => z_preE hP hD hK hB hS hA hU hW⟩ rfl rfl hl.1 rfl (lv_room (Nat.le_of_ble_eq_true rfl)) dX11_overIt_56 ⟨Nat.le_of_ble_eq_true rfl, Nat.le_of_ble_eq_true rfl⟩) hD hS hA (fun _ => rfl) (fun r u H locs hw hP hD hS => ?_)
            obtain ⟨rfl, rfl⟩ := hw
            have hP : va_P (gD g) zCl (wModel g q0 q1 q2 q3 q4 q5 q6 q7 q8 q9 q10 q11 q12 mm masd msav misS mpst mchg merr mfai zo18.2 minp minM mUp mcar mcam mahd magn mltr mbeg mcmd mcmM mpl msz mwr mlin mliM) H := hP
            have hD : va_D A (wModel g q0 q1 q2 q3 q4 q5 q6 q7 q8 q9 q10 q11 q12 mm masd msav misS mpst mchg merr mfai zo18.2 minp minM mUp mcar mcam mahd magn mltr mbeg mcmd mcmM mpl msz mwr mlin mliM) := hD
            have ho := (Option.some.inj hF).symm
            exact W.iret (v := zo18.1) hx hb hr (fun t ht hW => ⟨⟨zo18.1, (mm, zo18.2), rfl, ⟨by rw [ho], by rw [ho]⟩, z_end ht hP⟩, hS.F ht⟩) hS.2.2 dX11_overIt_59
        · have hF := z_pos hF zc11
          refine lv_aload_n hx hb dX11_overIt_39 rfl (lv_at hl 0 rfl) ?_
          refine lv_iconst (v := 1) hx hb dX11_overIt_40 (by decide) ?_
          obtain ⟨zo19, hzo19, hF⟩ := z_bind hF
          refine z_calliE (fun (u : Int32) => (wModel g q0 q1 q2 q3 q4 q5 q6 q7 q8 q9 q10 q11 q12 mm masd msav misS mpst mchg merr mfai u minp minM mUp mcar mcam mahd magn mltr mbeg mcmd mcmM mpl msz mwr mlin mliM)) (va_runV (As := [.int 1]) (rest := []) ⟨hx, hb, hml, hown, hts⟩ (c_X11_throwing l g q0 q1 q2 q3 q4 q5 q6 q7 q8 q9 q10 q11 q12 mm masd msav misS mpst mchg merr mfai mthr minp minM mUp mcar mcam mahd magn mltr mbeg mcmd mcmM mpl msz mwr mlin mliM _ 1 _ hzo19) (cwV 1 hts (gdV mU_1352 mU_1354 mU_31 mU_75 mU_1355) rfl rfl rfl (by decide +kernel) ⟨Nat.le_of_ble_eq_true rfl, Nat.le_of_ble_eq_true rfl⟩) ⟨z_blind _ _ _ _, va_recv hK hP (ci := 7) (q0 := 0) rfl rfl, fun U hU hW => z_preE hP hD hK hB hS hA hU hW⟩ rfl rfl hl.1 rfl (lv_room (Nat.le_of_ble_eq_true rfl)) dX11_overIt_41 ⟨Nat.le_of_ble_eq_true rfl, Nat.le_of_ble_eq_true rfl⟩) hD hS hA (fun _ => rfl) (fun r u H locs hw hP hD hS => ?_)
          obtain ⟨rfl, rfl⟩ := hw
          have hP : va_P (gD g) zCl (wModel g q0 q1 q2 q3 q4 q5 q6 q7 q8 q9 q10 q11 q12 mm masd msav misS mpst mchg merr mfai zo19.2 minp minM mUp mcar mcam mahd magn mltr mbeg mcmd mcmM mpl msz mwr mlin mliM) H := hP
          have hD : va_D A (wModel g q0 q1 q2 q3 q4 q5 q6 q7 q8 q9 q10 q11 q12 mm masd msav misS mpst mchg merr mfai zo19.2 minp minM mUp mcar mcam mahd magn mltr mbeg mcmd mcmM mpl msz mwr mlin mliM) := hD
          have ho := (Option.some.inj hF).symm
          exact W.iret (v := zo19.1) hx hb hr (fun t ht hW => ⟨⟨zo19.1, (mm, zo19.2), rfl, ⟨by rw [ho], by rw [ho]⟩, z_end ht hP⟩, hS.F ht⟩) hS.2.2 dX11_overIt_44
abbrev w_X11_addQuotient : List Cond := .code yX11_addQuotient cX11_addQuotient 6 (some .int) :: wU
abbrev r_X11_addQuotient : Room := { frames := 3, cells := 0, slots := 0, locals := 69 }
abbrev q_X11_addQuotient (g : GG) (q0 q1 q2 q3 q4 q5 q6 q7 q8 q9 q10 q11 q12 : Nat) (mm : Nat → Int64) (masd : Nat → Int64) (msav : Nat → Int64) (misS : Int32) (mpst : Nat → Int64) (mchg : Int32) (merr : Int32) (mfai : Int32) (mthr : Int32) (minp : Nat → Int32) (minM : Int32) (mUp : Nat → Int32) (mcar : Nat → Int32) (mcam : Nat → Int32) (mahd : Int32) (magn : Int32) (mltr : Nat → Int32) (mbeg : Nat → Int32) (mcmd : Nat → Int32) (mcmM : Int32) (mpl : Int32) (msz : Int32) (mwr : Int32) (mlin : Nat → Int32) (mliM : Int32) (o : Int32 × (Nat → Int64) × (Nat → Int64) × (Nat → Int64) × Int32 × Int32) (A : Nat → Prop) := va_Qi (fun (r : Int32) (u : (Nat → Int64) × (Nat → Int64) × (Nat → Int64) × Int32 × Int32) => o.1 = r ∧ o.2 = u) (fun u t => va_P (gD g) zCl (wModel g q0 q1 q2 q3 q4 q5 q6 q7 q8 q9 q10 q11 q12 u.1 u.2.1 msav misS u.2.2.1 u.2.2.2.1 merr mfai u.2.2.2.2 minp minM mUp mcar mcam mahd magn mltr mbeg mcmd mcmM mpl msz mwr mlin mliM) t.heap) A
set_option maxHeartbeats 4000000 in
set_option maxRecDepth 100000 in
theorem c_X11_addQuotient (l : Launch) (g : GG) (q0 q1 q2 q3 q4 q5 q6 q7 q8 q9 q10 q11 q12 : Nat) (mm : Nat → Int64) (masd : Nat → Int64) (msav : Nat → Int64) (misS : Int32) (mpst : Nat → Int64) (mchg : Int32) (merr : Int32) (mfai : Int32) (mthr : Int32) (minp : Nat → Int32) (minM : Int32) (mUp : Nat → Int32) (mcar : Nat → Int32) (mcam : Nat → Int32) (mahd : Int32) (magn : Int32) (mltr : Nat → Int32) (mbeg : Nat → Int32) (mcmd : Nat → Int32) (mcmM : Int32) (mpl : Int32) (msz : Int32) (mwr : Int32) (mlin : Nat → Int32) (mliM : Int32) (sz : Nat) (p1 : Int32) (p2 : Int32) (p3 : Int32) (p4 : Int32) (fu : Nat) (o : Int32 × (Nat → Int64) × (Nat → Int64) × (Nat → Int64) × Int32 × Int32) (hF : F_X11_addQuotient fu mm masd mpst mchg mthr p1 p2 p3 p4 = some o) : Met l yX11_addQuotient w_X11_addQuotient r_X11_addQuotient (va_Pc [.ref q0, .int p1, .int p2, .int p3, .int p4] (zP g (wModel g q0 q1 q2 q3 q4 q5 q6 q7 q8 q9 q10 q11 q12 mm masd msav misS mpst mchg merr mfai mthr minp minM mUp mcar mcam mahd magn mltr mbeg mcmd mcmM mpl msz mwr mlin mliM) sz)) (q_X11_addQuotient g q0 q1 q2 q3 q4 q5 q6 q7 q8 q9 q10 q11 q12 mm masd msav misS mpst mchg merr mfai mthr minp minM mUp mcar mcam mahd magn mltr mbeg mcmd mcmM mpl msz mwr mlin mliM o (va_A (wModel g q0 q1 q2 q3 q4 q5 q6 q7 q8 q9 q10 q11 q12 mm masd msav misS mpst mchg merr mfai mthr minp minM mUp mcar mcam mahd magn mltr mbeg mcmd mcmM mpl msz mwr mlin mliM) sz)) 0 0 (va_A (wModel g q0 q1 q2 q3 q4 q5 q6 q7 q8 q9 q10 q11 q12 mm masd msav misS mpst mchg merr mfai mthr minp minM mUp mcar mcam mahd magn mltr mbeg mcmd mcmM mpl msz mwr mlin mliM) sz) := by
  refine Met.ofW (cc := cX11_addQuotient) (maxL := 6) (ret := (some .int)) (by decide) rfl ?_
  intro p e s m args below meth c s₁ B hml hv
  obtain ⟨rfl, rfl, hP, hK, hD0, hB⟩ := hv
  have hx := B.exec
  have hb := B.bytes
  have hr := B.returns
  have hts : ∀ w ∈ wU, w.before _ s = true := fun w h => atoms_spec (ws := w_X11_addQuotient) B.pre w (List.mem_cons_of_mem _ h)
  have hown : s.vm.findClass RX11 = some m.cls := findClass_of_methodNamed B.named
  have hlocks := B.notSynchronized
  have hD := hD0.self (sz := s.heap.size)
  generalize hAe : va_A (wModel g q0 q1 q2 q3 q4 q5 q6 q7 q8 q9 q10 q11 q12 mm masd msav misS mpst mchg merr mfai mthr minp minM mUp mcar mcam mahd magn mltr mbeg mcmd mcmM mpl msz mwr mlin mliM) s.heap.size = A at hD hB ⊢
  have hA : ∀ q : Nat, s.heap.size ≤ q → A q := fun q h => by rw [← hAe]; exact Or.inr h
  have hS : va_S A s.heap s.heap [] := va_S.rf
  have hl := lv_entry ([.ref q0, .int p1, .int p2, .int p3, .int p4]) (n := 6) (Nat.le_of_ble_eq_true rfl)
  rw [lg_entry_eq]
  generalize (lg_sl ([.ref q0, .int p1, .int p2, .int p3, .int p4]) ++ List.replicate (6 - (lg_sl ([.ref q0, .int p1, .int p2, .int p3, .int p4])).length) Slot.unset).toArray = ls at hl ⊢
  have hl : lv_has ls 6 [(0, .ref q0), (1, .int p1), (2, .int p2), (3, .int p3), (4, .int p4)] := hl
  unfold F_X11_addQuotient at hF
  refine lv_aload_n hx hb dX11_addQuotient_0 rfl (lv_at hl 0 rfl) ?_
  obtain ⟨zo1, hzo1, hF⟩ := z_bind hF
  refine z_callvE (fun (u : (Nat → Int64) × Int32) => (wModel g q0 q1 q2 q3 q4 q5 q6 q7 q8 q9 q10 q11 q12 mm u.1 msav misS mpst mchg merr mfai u.2 minp minM mUp mcar mcam mahd magn mltr mbeg mcmd mcmM mpl msz mwr mlin mliM)) (va_runV (As := []) (rest := []) ⟨hx, hb, hml, hown, hts⟩ (c_X11_starts l g q0 q1 q2 q3 q4 q5 q6 q7 q8 q9 q10 q11 q12 mm masd msav misS mpst mchg merr mfai mthr minp minM mUp mcar mcam mahd magn mltr mbeg mcmd mcmM mpl msz mwr mlin mliM _ fu _ hzo1) (cwV 0 hts (gdV mU_1329 mU_1331 mU_29 mU_75 mU_1332) rfl rfl rfl (by decide +kernel) ⟨Nat.le_of_ble_eq_true rfl, Nat.le_of_ble_eq_true rfl⟩) ⟨z_blind _ _ _ _, va_recv hK hP (ci := 7) (q0 := 0) rfl rfl, fun U hU hW => z_preE hP hD hK hB hS hA hU hW⟩ rfl rfl hl.1 rfl (lv_room (Nat.le_of_ble_eq_true rfl)) dX11_addQuotient_1 ⟨Nat.le_of_ble_eq_true rfl, Nat.le_of_ble_eq_true rfl⟩) hD hS hA (fun _ => rfl) (fun u H locs hw hP hD hS => ?_)
  subst hw
  have hP : va_P (gD g) zCl (wModel g q0 q1 q2 q3 q4 q5 q6 q7 q8 q9 q10 q11 q12 mm zo1.1 msav misS mpst mchg merr mfai zo1.2 minp minM mUp mcar mcam mahd magn mltr mbeg mcmd mcmM mpl msz mwr mlin mliM) H := hP
  have hD : va_D A (wModel g q0 q1 q2 q3 q4 q5 q6 q7 q8 q9 q10 q11 q12 mm zo1.1 msav misS mpst mchg merr mfai zo1.2 minp minM mUp mcar mcam mahd magn mltr mbeg mcmd mcmM mpl msz mwr mlin mliM) := hD
  refine lv_aload_n hx hb dX11_addQuotient_4 rfl (lv_at hl 0 rfl) ?_
  refine lv_iload_n hx hb dX11_addQuotient_5 rfl (lv_at hl 1 rfl) ?_
  refine lv_iload_n hx hb dX11_addQuotient_6 rfl (lv_at hl 2 rfl) ?_
  refine lv_iload_n hx hb dX11_addQuotient_7 rfl (lv_at hl 3 rfl) ?_
  refine lv_iload hx hb dX11_addQuotient_8 (lv_at hl 4 rfl) ?_
  obtain ⟨zo2, hzo2, hF⟩ := z_bind hF
  refine z_calliE (fun (u : (Nat → Int64) × Int32) => (wModel g q0 q1 q2 q3 q4 q5 q6 q7 q8 q9 q10 q11 q12 u.1 zo1.1 msav misS mpst mchg merr mfai u.2 minp minM mUp mcar mcam mahd magn mltr mbeg mcmd mcmM mpl msz mwr mlin mliM)) (va_runV (As := [.int p1, .int p2, .int p3, .int p4]) (rest := []) ⟨hx, hb, hml, hown, hts⟩ (c_X11_overIt l g q0 q1 q2 q3 q4 q5 q6 q7 q8 q9 q10 q11 q12 mm zo1.1 msav misS mpst mchg merr mfai zo1.2 minp minM mUp mcar mcam mahd magn mltr mbeg mcmd mcmM mpl msz mwr mlin mliM _ p1 p2 p3 p4 fu _ hzo2) (cwV 4 hts (gdV mU_1383 mU_1385 mU_35 mU_75 mU_1386) rfl rfl rfl (by decide +kernel) ⟨Nat.le_of_ble_eq_true rfl, Nat.le_of_ble_eq_true rfl⟩) ⟨z_blind _ _ _ _, va_recv hK hP (ci := 7) (q0 := 0) rfl rfl, fun U hU hW => z_preE hP hD hK hB hS hA hU hW⟩ rfl rfl hl.1 rfl (lv_room (Nat.le_of_ble_eq_true rfl)) dX11_addQuotient_10 ⟨Nat.le_of_ble_eq_true rfl, Nat.le_of_ble_eq_true rfl⟩) hD hS hA (fun _ => rfl) (fun r u H locs hw hP hD hS => ?_)
  obtain ⟨rfl, rfl⟩ := hw
  have hP : va_P (gD g) zCl (wModel g q0 q1 q2 q3 q4 q5 q6 q7 q8 q9 q10 q11 q12 zo2.2.1 zo1.1 msav misS mpst mchg merr mfai zo2.2.2 minp minM mUp mcar mcam mahd magn mltr mbeg mcmd mcmM mpl msz mwr mlin mliM) H := hP
  have hD : va_D A (wModel g q0 q1 q2 q3 q4 q5 q6 q7 q8 q9 q10 q11 q12 zo2.2.1 zo1.1 msav misS mpst mchg merr mfai zo2.2.2 minp minM mUp mcar mcam mahd magn mltr mbeg mcmd mcmM mpl msz mwr mlin mliM) := hD
  refine lv_istore (lv' := [(5, .int zo2.1), (0, .ref q0), (1, .int p1), (2, .int p2), (3, .int p3), (4, .int p4)]) hx hb dX11_addQuotient_13 hl (by decide) rfl (fun ls hl => ?_)
  refine lv_aload_n hx hb dX11_addQuotient_15 rfl (lv_at hl 1 rfl) ?_
  obtain ⟨zo3, hzo3, hF⟩ := z_bind hF
  refine z_callvE (fun (u : (Nat → Int64) × Int32) => (wModel g q0 q1 q2 q3 q4 q5 q6 q7 q8 q9 q10 q11 q12 zo2.2.1 zo1.1 msav misS u.1 u.2 merr mfai zo2.2.2 minp minM mUp mcar mcam mahd magn mltr mbeg mcmd mcmM mpl msz mwr mlin mliM)) (va_runV (As := []) (rest := []) ⟨hx, hb, hml, hown, hts⟩ (c_X11_ends l g q0 q1 q2 q3 q4 q5 q6 q7 q8 q9 q10 q11 q12 zo2.2.1 zo1.1 msav misS mpst mchg merr mfai zo2.2.2 minp minM mUp mcar mcam mahd magn mltr mbeg mcmd mcmM mpl msz mwr mlin mliM _ fu _ hzo3) (cwV 0 hts (gdV mU_1375 mU_1377 mU_34 mU_75 mU_1378) rfl rfl rfl (by decide +kernel) ⟨Nat.le_of_ble_eq_true rfl, Nat.le_of_ble_eq_true rfl⟩) ⟨z_blind _ _ _ _, va_recv hK hP (ci := 7) (q0 := 0) rfl rfl, fun U hU hW => z_preE hP hD hK hB hS hA hU hW⟩ rfl rfl hl.1 rfl (lv_room (Nat.le_of_ble_eq_true rfl)) dX11_addQuotient_16 ⟨Nat.le_of_ble_eq_true rfl, Nat.le_of_ble_eq_true rfl⟩) hD hS hA (fun _ => rfl) (fun u H locs hw hP hD hS => ?_)
  subst hw
  have hP : va_P (gD g) zCl (wModel g q0 q1 q2 q3 q4 q5 q6 q7 q8 q9 q10 q11 q12 zo2.2.1 zo1.1 msav misS zo3.1 zo3.2 merr mfai zo2.2.2 minp minM mUp mcar mcam mahd magn mltr mbeg mcmd mcmM mpl msz mwr mlin mliM) H := hP
  have hD : va_D A (wModel g q0 q1 q2 q3 q4 q5 q6 q7 q8 q9 q10 q11 q12 zo2.2.1 zo1.1 msav misS zo3.1 zo3.2 merr mfai zo2.2.2 minp minM mUp mcar mcam mahd magn mltr mbeg mcmd mcmM mpl msz mwr mlin mliM) := hD
  refine lv_iload hx hb dX11_addQuotient_19 (lv_at hl 0 rfl) ?_
  have ho := (Option.some.inj hF).symm
  exact W.iret (v := zo2.1) hx hb hr (fun t ht hW => ⟨⟨zo2.1, (zo2.2.1, zo1.1, zo3.1, zo3.2, zo2.2.2), rfl, ⟨by rw [ho], by rw [ho]⟩, z_end ht hP⟩, hS.F ht⟩) hS.2.2 dX11_addQuotient_21
abbrev w_X11_freeIt : List Cond := .code yX11_freeIt cX11_freeIt 6 (some .long) :: wU
abbrev r_X11_freeIt : Room := { frames := 2, cells := 0, slots := 0, locals := 42 }
abbrev q_X11_freeIt (g : GG) (q0 q1 q2 q3 q4 q5 q6 q7 q8 q9 q10 q11 q12 : Nat) (mm : Nat → Int64) (masd : Nat → Int64) (msav : Nat → Int64) (misS : Int32) (mpst : Nat → Int64) (mchg : Int32) (merr : Int32) (mfai : Int32) (mthr : Int32) (minp : Nat → Int32) (minM : Int32) (mUp : Nat → Int32) (mcar : Nat → Int32) (mcam : Nat → Int32) (mahd : Int32) (magn : Int32) (mltr : Nat → Int32) (mbeg : Nat → Int32) (mcmd : Nat → Int32) (mcmM : Int32) (mpl : Int32) (msz : Int32) (mwr : Int32) (mlin : Nat → Int32) (mliM : Int32) (o : Int64 × (Nat → Int64) × Int32) (A : Nat → Prop) := va_Ql (fun (r : Int64) (u : (Nat → Int64) × Int32) => o.1 = r ∧ o.2 = u) (fun u t => va_P (gD g) zCl (wModel g q0 q1 q2 q3 q4 q5 q6 q7 q8 q9 q10 q11 q12 u.1 masd msav misS mpst mchg merr mfai u.2 minp minM mUp mcar mcam mahd magn mltr mbeg mcmd mcmM mpl msz mwr mlin mliM) t.heap) A
set_option maxHeartbeats 4000000 in
set_option maxRecDepth 100000 in
theorem c_X11_freeIt (l : Launch) (g : GG) (q0 q1 q2 q3 q4 q5 q6 q7 q8 q9 q10 q11 q12 : Nat) (mm : Nat → Int64) (masd : Nat → Int64) (msav : Nat → Int64) (misS : Int32) (mpst : Nat → Int64) (mchg : Int32) (merr : Int32) (mfai : Int32) (mthr : Int32) (minp : Nat → Int32) (minM : Int32) (mUp : Nat → Int32) (mcar : Nat → Int32) (mcam : Nat → Int32) (mahd : Int32) (magn : Int32) (mltr : Nat → Int32) (mbeg : Nat → Int32) (mcmd : Nat → Int32) (mcmM : Int32) (mpl : Int32) (msz : Int32) (mwr : Int32) (mlin : Nat → Int32) (mliM : Int32) (sz : Nat) (p1 : Int32) (fu : Nat) (o : Int64 × (Nat → Int64) × Int32) (hF : F_X11_freeIt fu mm mthr p1 = some o) : Met l yX11_freeIt w_X11_freeIt r_X11_freeIt (va_Pc [.ref q0, .int p1] (zP g (wModel g q0 q1 q2 q3 q4 q5 q6 q7 q8 q9 q10 q11 q12 mm masd msav misS mpst mchg merr mfai mthr minp minM mUp mcar mcam mahd magn mltr mbeg mcmd mcmM mpl msz mwr mlin mliM) sz)) (q_X11_freeIt g q0 q1 q2 q3 q4 q5 q6 q7 q8 q9 q10 q11 q12 mm masd msav misS mpst mchg merr mfai mthr minp minM mUp mcar mcam mahd magn mltr mbeg mcmd mcmM mpl msz mwr mlin mliM o (va_A (wModel g q0 q1 q2 q3 q4 q5 q6 q7 q8 q9 q10 q11 q12 mm masd msav misS mpst mchg merr mfai mthr minp minM mUp mcar mcam mahd magn mltr mbeg mcmd mcmM mpl msz mwr mlin mliM) sz)) 0 0 (va_A (wModel g q0 q1 q2 q3 q4 q5 q6 q7 q8 q9 q10 q11 q12 mm masd msav misS mpst mchg merr mfai mthr minp minM mUp mcar mcam mahd magn mltr mbeg mcmd mcmM mpl msz mwr mlin mliM) sz) := by
  refine Met.ofW (cc := cX11_freeIt) (maxL := 6) (ret := (some .long)) (by decide) rfl ?_
  intro p e s m args below meth c s₁ B hml hv
  obtain ⟨rfl, rfl, hP, hK, hD0, hB⟩ := hv
  have hx := B.exec
  have hb := B.bytes
  have hr := B.returns
  have hts : ∀ w ∈ wU, w.before _ s = true := fun w h => atoms_spec (ws := w_X11_freeIt) B.pre w (List.mem_cons_of_mem _ h)
  have hown : s.vm.findClass RX11 = some m.cls := findClass_of_methodNamed B.named
  have hlocks := B.notSynchronized
  have hD := hD0.self (sz := s.heap.size)
  generalize hAe : va_A (wModel g q0 q1 q2 q3 q4 q5 q6 q7 q8 q9 q10 q11 q12 mm masd msav misS mpst mchg merr mfai mthr minp minM mUp mcar mcam mahd magn mltr mbeg mcmd mcmM mpl msz mwr mlin mliM) s.heap.size = A at hD hB ⊢
  have hA : ∀ q : Nat, s.heap.size ≤ q → A q := fun q h => by rw [← hAe]; exact Or.inr h
  have hS : va_S A s.heap s.heap [] := va_S.rf
  have hl := lv_entry ([.ref q0, .int p1]) (n := 6) (Nat.le_of_ble_eq_true rfl)
  rw [lg_entry_eq]
  generalize (lg_sl ([.ref q0, .int p1]) ++ List.replicate (6 - (lg_sl ([.ref q0, .int p1])).length) Slot.unset).toArray = ls at hl ⊢
  have hl : lv_has ls 6 [(0, .ref q0), (1, .int p1)] := hl
  unfold F_X11_freeIt at hF
  have K69 : ∀ (n69 : Nat) (mm : Nat → Int64) (mthr : Int32) (x3 : Int64) (x5 : Int32), F_X11_freeIt_69 fu n69 mm mthr x3 x5 = some o → ∀ (H : Heap) (locs : List Loc) (ls : Array Slot), lv_has ls 6 [(0, .ref q0), (3, .long x3), (5, .int x5)] → va_P (gD g) zCl (wModel g q0 q1 q2 q3 q4 q5 q6 q7 q8 q9 q10 q11 q12 mm masd msav misS mpst mchg merr mfai mthr minp minM mUp mcar mcam mahd magn mltr mbeg mcmd mcmM mpl msz mwr mlin mliM) H → va_D A (wModel g q0 q1 q2 q3 q4 q5 q6 q7 q8 q9 q10 q11 q12 mm masd msav misS mpst mchg merr mfai mthr minp minM mUp mcar mcam mahd magn mltr mbeg mcmd mcmM mpl msz mwr mlin mliM) → va_S A s.heap H locs → W p l e (headSpec w_X11_freeIt r_X11_freeIt).room s m ([.ref q0, .int p1] : List Value).toArray below meth c H locs 0 0 (MQ below (q_X11_freeIt g q0 q1 q2 q3 q4 q5 q6 q7 q8 q9 q10 q11 q12 mm masd msav misS mpst mchg merr mfai mthr minp minM mUp mcar mcam mahd magn mltr mbeg mcmd mcmM mpl msz mwr mlin mliM o A) ([.ref q0, .int p1] : List Value).toArray s 0 0 A) (F0 m 69 ls []) := by
    intro n69
    induction n69 with
    | zero =>
      intro mm mthr x3 x5 hF
      exact absurd hF (by simp [F_X11_freeIt_69])
    | succ n69 ih69 =>
      intro mm mthr x3 x5 hF H locs ls hl hP hD hS
      unfold F_X11_freeIt_69 at hF
      refine lv_iload hx hb dX11_freeIt_69 (lv_at hl 2 rfl) ?_
      refine lv_bipush (v := 28) hx hb dX11_freeIt_71 (by decide) ?_
      refine lv_icmp_ge (tgt := 90) hx hb dX11_freeIt_73 (by decide) (fun zc1 => ?_) (fun zc1 => ?_)
      · have hF := z_pos hF zc1
        refine lv_aload_n hx hb dX11_freeIt_90 rfl (lv_at hl 0 rfl) ?_
        refine va_get (D := gD g) (ci := 7) (v := .ref q1) (C := RX11) (T := TX11) (N := 25) hx hb hts inX11 hown hK hP 0 rfl rfl 0 (by decide) (hts _ mU_1244) (fun _ h9 => h9) rfl dX11_freeIt_91 ?_
        refine lv_iconst (v := 0) hx hb dX11_freeIt_94 (by decide) ?_
        refine lv_dup2_11 hx hb dX11_freeIt_95 rfl rfl ?_
        refine va_lald hx hb hK hP 1 2 rfl rfl (by unfold vp_in; decide) dX11_freeIt_96 ?_
        refine lv_lconst (v := 1) hx hb dX11_freeIt_97 (by decide) ?_
        refine lv_lsub hx hb dX11_freeIt_98 ?_
        refine va_last hx hb hK hP hD hS 1 2 rfl rfl (by unfold vp_in; decide) dX11_freeIt_99 (fun H locs hP hD hS => ?_)
        have hP : va_P (gD g) zCl (wModel g q0 q1 q2 q3 q4 q5 q6 q7 q8 q9 q10 q11 q12 (vp_updL mm (Int32.toNatClampNeg 0) ((mm (Int32.toNatClampNeg 0)) - 1)) masd msav misS mpst mchg merr mfai mthr minp minM mUp mcar mcam mahd magn mltr mbeg mcmd mcmM mpl msz mwr mlin mliM) H := hP
        have hD : va_D A (wModel g q0 q1 q2 q3 q4 q5 q6 q7 q8 q9 q10 q11 q12 (vp_updL mm (Int32.toNatClampNeg 0) ((mm (Int32.toNatClampNeg 0)) - 1)) masd msav misS mpst mchg merr mfai mthr minp minM mUp mcar mcam mahd magn mltr mbeg mcmd mcmM mpl msz mwr mlin mliM) := hD
        refine lv_lload_n hx hb dX11_freeIt_100 rfl (lv_at hl 1 rfl) ?_
        have ho := (Option.some.inj hF).symm
        exact W.lret (v := x3) hx hb hr (fun t ht hW => ⟨⟨x3, ((vp_updL mm (Int32.toNatClampNeg 0) ((mm (Int32.toNatClampNeg 0)) - 1)), mthr), rfl, ⟨by rw [ho], by rw [ho]⟩, z_end ht hP⟩, hS.F ht⟩) hS.2.2 dX11_freeIt_101
      · have hF := z_neg hF zc1
        refine lv_aload_n hx hb dX11_freeIt_76 rfl (lv_at hl 0 rfl) ?_
        refine va_get (D := gD g) (ci := 7) (v := .ref q1) (C := RX11) (T := TX11) (N := 25) hx hb hts inX11 hown hK hP 0 rfl rfl 0 (by decide) (hts _ mU_1244) (fun _ h9 => h9) rfl dX11_freeIt_77 ?_
        refine lv_iload hx hb dX11_freeIt_80 (lv_at hl 2 rfl) ?_
        refine lv_lconst (v := 0) hx hb dX11_freeIt_82 (by decide) ?_
        obtain ⟨zg2, hF⟩ := z_grd hF
        refine va_last hx hb hK hP hD hS 1 2 rfl rfl zg2 dX11_freeIt_83 (fun H locs hP hD hS => ?_)
        have hP : va_P (gD g) zCl (wModel g q0 q1 q2 q3 q4 q5 q6 q7 q8 q9 q10 q11 q12 (vp_updL mm (Int32.toNatClampNeg x5) 0) masd msav misS mpst mchg merr mfai mthr minp minM mUp mcar mcam mahd magn mltr mbeg mcmd mcmM mpl msz mwr mlin mliM) H := hP
        have hD : va_D A (wModel g q0 q1 q2 q3 q4 q5 q6 q7 q8 q9 q10 q11 q12 (vp_updL mm (Int32.toNatClampNeg x5) 0) masd msav misS mpst mchg merr mfai mthr minp minM mUp mcar mcam mahd magn mltr mbeg mcmd mcmM mpl msz mwr mlin mliM) := hD
        obtain ⟨zv3, ezv3, hF⟩ := z_let hF
        refine lv_iinc (v := zv3) (lv' := [(5, .int zv3), (0, .ref q0), (3, .long x3)]) hx hb dX11_freeIt_84 hl (k := 2) rfl (by rw [ezv3]; rfl) (by decide) rfl (fun ls hl => ?_)
        refine lv_goto (tgt := 69) hx hb dX11_freeIt_87 (by decide) ?_
        exact ih69 (vp_updL mm (Int32.toNatClampNeg x5) 0) mthr x3 zv3 hF _ _ _ (lv_sub hl [1, 2, 0] rfl) hP hD hS
  have K36 : ∀ (n36 : Nat) (mm : Nat → Int64) (mthr : Int32) (x3 : Int64) (x5 : Int32), F_X11_freeIt_36 fu n36 mm mthr x3 x5 = some o → ∀ (H : Heap) (locs : List Loc) (ls : Array Slot), lv_has ls 6 [(0, .ref q0), (3, .long x3), (5, .int x5)] → va_P (gD g) zCl (wModel g q0 q1 q2 q3 q4 q5 q6 q7 q8 q9 q10 q11 q12 mm masd msav misS mpst mchg merr mfai mthr minp minM mUp mcar mcam mahd magn mltr mbeg mcmd mcmM mpl msz mwr mlin mliM) H → va_D A (wModel g q0 q1 q2 q3 q4 q5 q6 q7 q8 q9 q10 q11 q12 mm masd msav misS mpst mchg merr mfai mthr minp minM mUp mcar mcam mahd magn mltr mbeg mcmd mcmM mpl msz mwr mlin mliM) → va_S A s.heap H locs → W p l e (headSpec w_X11_freeIt r_X11_freeIt).room s m ([.ref q0, .int p1] : List Value).toArray below meth c H locs 0 0 (MQ below (q_X11_freeIt g q0 q1 q2 q3 q4 q5 q6 q7 q8 q9 q10 q11 q12 mm masd msav misS mpst mchg merr mfai mthr minp minM mUp mcar mcam mahd magn mltr mbeg mcmd mcmM mpl msz mwr mlin mliM o A) ([.ref q0, .int p1] : List Value).toArray s 0 0 A) (F0 m 36 ls []) := by
    intro n36
    induction n36 with
    | zero =>
      intro mm mthr x3 x5 hF
      exact absurd hF (by simp [F_X11_freeIt_36])
    | succ n36 ih36 =>
      intro mm mthr x3 x5 hF H locs ls hl hP hD hS
      unfold F_X11_freeIt_36 at hF
      refine lv_iload hx hb dX11_freeIt_36 (lv_at hl 2 rfl) ?_
      refine lv_bipush (v := 24) hx hb dX11_freeIt_38 (by decide) ?_
      refine lv_icmp_ge (tgt := 65) hx hb dX11_freeIt_40 (by decide) (fun zc4 => ?_) (fun zc4 => ?_)
      · have hF := z_pos hF zc4
        refine lv_bipush (v := 24) hx hb dX11_freeIt_65 (by decide) ?_
        refine lv_istore (lv' := [(5, .int 24), (0, .ref q0), (3, .long x3)]) hx hb dX11_freeIt_67 hl (by decide) rfl (fun ls hl => ?_)
        exact K69 fu mm mthr x3 24 hF _ _ _ (lv_sub hl [1, 2, 0] rfl) hP hD hS
      · have hF := z_neg hF zc4
        refine lv_aload_n hx hb dX11_freeIt_43 rfl (lv_at hl 0 rfl) ?_
        refine va_get (D := gD g) (ci := 7) (v := .ref q1) (C := RX11) (T := TX11) (N := 25) hx hb hts inX11 hown hK hP 0 rfl rfl 0 (by decide) (hts _ mU_1244) (fun _ h9 => h9) rfl dX11_freeIt_44 ?_
        refine lv_iload hx hb dX11_freeIt_47 (lv_at hl 2 rfl) ?_
        refine lv_aload_n hx hb dX11_freeIt_49 rfl (lv_at hl 0 rfl) ?_
        refine va_get (D := gD g) (ci := 7) (v := .ref q1) (C := RX11) (T := TX11) (N := 25) hx hb hts inX11 hown hK hP 0 rfl rfl 0 (by decide) (hts _ mU_1244) (fun _ h9 => h9) rfl dX11_freeIt_50 ?_
        refine lv_iload hx hb dX11_freeIt_53 (lv_at hl 2 rfl) ?_
        refine lv_iconst (v := 4) hx hb dX11_freeIt_55 (by decide) ?_
        refine lv_iadd hx hb dX11_freeIt_56 ?_
        obtain ⟨zg5, hF⟩ := z_grd hF
        refine va_lald hx hb hK hP 1 2 rfl rfl zg5 dX11_freeIt_57 ?_
        obtain ⟨zg6, hF⟩ := z_grd hF
        refine va_last hx hb hK hP hD hS 1 2 rfl rfl zg6 dX11_freeIt_58 (fun H locs hP hD hS => ?_)
        have hP : va_P (gD g) zCl (wModel g q0 q1 q2 q3 q4 q5 q6 q7 q8 q9 q10 q11 q12 (vp_updL mm (Int32.toNatClampNeg x5) (mm (Int32.toNatClampNeg (x5 + 4)))) masd msav misS mpst mchg merr mfai mthr minp minM mUp mcar mcam mahd magn mltr mbeg mcmd mcmM mpl msz mwr mlin mliM) H := hP
        have hD : va_D A (wModel g q0 q1 q2 q3 q4 q5 q6 q7 q8 q9 q10 q11 q12 (vp_updL mm (Int32.toNatClampNeg x5) (mm (Int32.toNatClampNeg (x5 + 4)))) masd msav misS mpst mchg merr mfai mthr minp minM mUp mcar mcam mahd magn mltr mbeg mcmd mcmM mpl msz mwr mlin mliM) := hD
        obtain ⟨zv7, ezv7, hF⟩ := z_let hF
        refine lv_iinc (v := zv7) (lv' := [(5, .int zv7), (0, .ref q0), (3, .long x3)]) hx hb dX11_freeIt_59 hl (k := 2) rfl (by rw [ezv7]; rfl) (by decide) rfl (fun ls hl => ?_)
        refine lv_goto (tgt := 36) hx hb dX11_freeIt_62 (by decide) ?_
        exact ih36 (vp_updL mm (Int32.toNatClampNeg x5) (mm (Int32.toNatClampNeg (x5 + 4)))) mthr x3 zv7 hF _ _ _ (lv_sub hl [1, 2, 0] rfl) hP hD hS
  refine lv_aload_n hx hb dX11_freeIt_0 rfl (lv_at hl 0 rfl) ?_
  refine lv_iload_n hx hb dX11_freeIt_1 rfl (lv_at hl 1 rfl) ?_
  obtain ⟨zo8, hzo8, hF⟩ := z_bind hF
  refine z_calliE (fun (_ : Unit) => (wModel g q0 q1 q2 q3 q4 q5 q6 q7 q8 q9 q10 q11 q12 mm masd msav misS mpst mchg merr mfai mthr minp minM mUp mcar mcam mahd magn mltr mbeg mcmd mcmM mpl msz mwr mlin mliM)) (va_runV (As := [.int p1]) (rest := []) ⟨hx, hb, hml, hown, hts⟩ (c_X11_find l g q0 q1 q2 q3 q4 q5 q6 q7 q8 q9 q10 q11 q12 mm masd msav misS mpst mchg merr mfai mthr minp minM mUp mcar mcam mahd magn mltr mbeg mcmd mcmM mpl msz mwr mlin mliM _ p1 fu _ hzo8) (cwV 1 hts (gdV mU_1400 mU_1402 mU_37 mU_75 mU_1403) rfl rfl rfl (by decide +kernel) ⟨Nat.le_of_ble_eq_true rfl, Nat.le_of_ble_eq_true rfl⟩) ⟨z_blind _ _ _ _, va_recv hK hP (ci := 7) (q0 := 0) rfl rfl, fun U hU hW => z_preE hP hD hK hB hS hA hU hW⟩ rfl rfl hl.1 rfl (lv_room (Nat.le_of_ble_eq_true rfl)) dX11_freeIt_2 ⟨Nat.le_of_ble_eq_true rfl, Nat.le_of_ble_eq_true rfl⟩) hD hS hA (fun _ => rfl) (fun r u H locs hw hP hD hS => ?_)
  subst hw
  have hP : va_P (gD g) zCl (wModel g q0 q1 q2 q3 q4 q5 q6 q7 q8 q9 q10 q11 q12 mm masd msav misS mpst mchg merr mfai mthr minp minM mUp mcar mcam mahd magn mltr mbeg mcmd mcmM mpl msz mwr mlin mliM) H := hP
  have hD : va_D A (wModel g q0 q1 q2 q3 q4 q5 q6 q7 q8 q9 q10 q11 q12 mm masd msav misS mpst mchg merr mfai mthr minp minM mUp mcar mcam mahd magn mltr mbeg mcmd mcmM mpl msz mwr mlin mliM) := hD
  refine lv_istore_n (lv' := [(2, .int zo8), (0, .ref q0), (1, .int p1)]) hx hb dX11_freeIt_5 rfl hl (by decide) rfl (fun ls hl => ?_)
  refine lv_iload_n hx hb dX11_freeIt_6 rfl (lv_at hl 0 rfl) ?_
  refine lv_iconst (v := (-1)) hx hb dX11_freeIt_7 (by decide) ?_
  refine lv_icmp_ne (tgt := 18) hx hb dX11_freeIt_8 (by decide) (fun zc9 => ?_) (fun zc9 => ?_)
  · have hF := z_neg hF zc9
    refine lv_aload_n hx hb dX11_freeIt_18 rfl (lv_at hl 1 rfl) ?_
    refine va_get (D := gD g) (ci := 7) (v := .ref q1) (C := RX11) (T := TX11) (N := 25) hx hb hts inX11 hown hK hP 0 rfl rfl 0 (by decide) (hts _ mU_1244) (fun _ h9 => h9) rfl dX11_freeIt_19 ?_
    refine lv_iload_n hx hb dX11_freeIt_22 rfl (lv_at hl 0 rfl) ?_
    obtain ⟨zo10, hzo10, hF⟩ := z_bind hF
    refine z_calli (fun (_ : Unit) => []) [] (va_runS (As := [.int zo8]) (rest := [.ref q1]) ⟨hx, hb, hml, hown, hts⟩ (c_X11_at l g _ zo8 _ hzo10) (va_cwS 1 hts (gdS mU_1372 mU_1373 mU_75 mU_1374) rfl rfl rfl (by decide +kernel) ⟨Nat.le_of_ble_eq_true rfl, Nat.le_of_ble_eq_true rfl⟩) ⟨z_blind _ _ _ _, fun U hU hW => z_pre [] hP hD hK hB hS hA rfl rfl hU hW⟩ rfl rfl hl.1 rfl (lv_room (Nat.le_of_ble_eq_true rfl)) dX11_freeIt_23 ⟨Nat.le_of_ble_eq_true rfl, Nat.le_of_ble_eq_true rfl⟩) hP hD hS hA rfl (fun _ => rfl) (fun r u H locs hw hP hD hS => ?_)
    subst hw
    have hP : va_P (gD g) zCl (wModel g q0 q1 q2 q3 q4 q5 q6 q7 q8 q9 q10 q11 q12 mm masd msav misS mpst mchg merr mfai mthr minp minM mUp mcar mcam mahd magn mltr mbeg mcmd mcmM mpl msz mwr mlin mliM) H := hP
    have hD : va_D A (wModel g q0 q1 q2 q3 q4 q5 q6 q7 q8 q9 q10 q11 q12 mm masd msav misS mpst mchg merr mfai mthr minp minM mUp mcar mcam mahd magn mltr mbeg mcmd mcmM mpl msz mwr mlin mliM) := hD
    refine lv_iconst (v := 1) hx hb dX11_freeIt_26 (by decide) ?_
    refine lv_iadd hx hb dX11_freeIt_27 ?_
    obtain ⟨zg11, hF⟩ := z_grd hF
    refine va_lald hx hb hK hP 1 2 rfl rfl zg11 dX11_freeIt_28 ?_
    obtain ⟨zv12, ezv12, hF⟩ := z_let hF
    refine z_topl ezv12 ?_
    refine lv_lstore_n (lv' := [(3, .long zv12), (2, .int zo8), (0, .ref q0), (1, .int p1)]) hx hb dX11_freeIt_29 rfl hl (by decide) rfl (fun ls hl => ?_)
    refine lv_iload_n hx hb dX11_freeIt_30 rfl (lv_at hl 1 rfl) ?_
    obtain ⟨zo13, hzo13, hF⟩ := z_bind hF
    refine z_calli (fun (_ : Unit) => []) [] (va_runS (As := [.int zo8]) (rest := []) ⟨hx, hb, hml, hown, hts⟩ (c_X11_at l g _ zo8 _ hzo13) (va_cwS 1 hts (gdS mU_1372 mU_1373 mU_75 mU_1374) rfl rfl rfl (by decide +kernel) ⟨Nat.le_of_ble_eq_true rfl, Nat.le_of_ble_eq_true rfl⟩) ⟨z_blind _ _ _ _, fun U hU hW => z_pre [] hP hD hK hB hS hA rfl rfl hU hW⟩ rfl rfl hl.1 rfl (lv_room (Nat.le_of_ble_eq_true rfl)) dX11_freeIt_31 ⟨Nat.le_of_ble_eq_true rfl, Nat.le_of_ble_eq_true rfl⟩) hP hD hS hA rfl (fun _ => rfl) (fun r u H locs hw hP hD hS => ?_)
    subst hw
    have hP : va_P (gD g) zCl (wModel g q0 q1 q2 q3 q4 q5 q6 q7 q8 q9 q10 q11 q12 mm masd msav misS mpst mchg merr mfai mthr minp minM mUp mcar mcam mahd magn mltr mbeg mcmd mcmM mpl msz mwr mlin mliM) H := hP
    have hD : va_D A (wModel g q0 q1 q2 q3 q4 q5 q6 q7 q8 q9 q10 q11 q12 mm masd msav misS mpst mchg merr mfai mthr minp minM mUp mcar mcam mahd magn mltr mbeg mcmd mcmM mpl msz mwr mlin mliM) := hD
    refine lv_istore (lv' := [(5, .int zo13), (3, .long zv12), (2, .int zo8), (0, .ref q0), (1, .int p1)]) hx hb dX11_freeIt_34 hl (by decide) rfl (fun ls hl => ?_)
    exact K36 fu mm mthr zv12 zo13 hF _ _ _ (lv_sub hl [3, 1, 0] rfl) hP hD hS
  · have hF := z_pos hF zc9
    refine lv_aload_n hx hb dX11_freeIt_11 rfl (lv_at hl 1 rfl) ?_
    refine lv_iconst (v := 1) hx hb dX11_freeIt_12 (by decide) ?_
    obtain ⟨zo14, hzo14, hF⟩ := z_bind hF
    refine z_calliE (fun (u : Int32) => (wModel g q0 q1 q2 q3 q4 q5 q6 q7 q8 q9 q10 q11 q12 mm masd msav misS mpst mchg merr mfai u minp minM mUp mcar mcam mahd magn mltr mbeg mcmd mcmM mpl msz mwr mlin mliM)) (va_runV (As := [.int 1]) (rest := []) ⟨hx, hb, hml, hown, hts⟩ (c_X11_throwing l g q0 q1 q2 q3 q4 q5 q6 q7 q8 q9 q10 q11 q12 mm masd msav misS mpst mchg merr mfai mthr minp minM mUp mcar mcam mahd magn mltr mbeg mcmd mcmM mpl msz mwr mlin mliM _ 1 _ hzo14) (cwV 1 hts (gdV mU_1352 mU_1354 mU_31 mU_75 mU_1355) rfl rfl rfl (by decide +kernel) ⟨Nat.le_of_ble_eq_true rfl, Nat.le_of_ble_eq_true rfl⟩) ⟨z_blind _ _ _ _, va_recv hK hP (ci := 7) (q0 := 0) rfl rfl, fun U hU hW => z_preE hP hD hK hB hS hA hU hW⟩ rfl rfl hl.1 rfl (lv_room (Nat.le_of_ble_eq_true rfl)) dX11_freeIt_13 ⟨Nat.le_of_ble_eq_true rfl, Nat.le_of_ble_eq_true rfl⟩) hD hS hA (fun _ => rfl) (fun r u H locs hw hP hD hS => ?_)
    obtain ⟨rfl, rfl⟩ := hw
    have hP : va_P (gD g) zCl (wModel g q0 q1 q2 q3 q4 q5 q6 q7 q8 q9 q10 q11 q12 mm masd msav misS mpst mchg merr mfai zo14.2 minp minM mUp mcar mcam mahd magn mltr mbeg mcmd mcmM mpl msz mwr mlin mliM) H := hP
    have hD : va_D A (wModel g q0 q1 q2 q3 q4 q5 q6 q7 q8 q9 q10 q11 q12 mm masd msav misS mpst mchg merr mfai zo14.2 minp minM mUp mcar mcam mahd magn mltr mbeg mcmd mcmM mpl msz mwr mlin mliM) := hD
    refine lv_i2l (v := (Int32.toInt64 zo14.1)) hx hb dX11_freeIt_16 rfl ?_
    have ho := (Option.some.inj hF).symm
    exact W.lret (v := (Int32.toInt64 zo14.1)) hx hb hr (fun t ht hW => ⟨⟨(Int32.toInt64 zo14.1), (mm, zo14.2), rfl, ⟨by rw [ho], by rw [ho]⟩, z_end ht hP⟩, hS.F ht⟩) hS.2.2 dX11_freeIt_17
abbrev w_X11_remove : List Cond := .code yX11_remove cX11_remove 4 (some .long) :: wU
abbrev r_X11_remove : Room := { frames := 3, cells := 0, slots := 0, locals := 67 }
abbrev q_X11_remove (g : GG) (q0 q1 q2 q3 q4 q5 q6 q7 q8 q9 q10 q11 q12 : Nat) (mm : Nat → Int64) (masd : Nat → Int64) (msav : Nat → Int64) (misS : Int32) (mpst : Nat → Int64) (mchg : Int32) (merr : Int32) (mfai : Int32) (mthr : Int32) (minp : Nat → Int32) (minM : Int32) (mUp : Nat → Int32) (mcar : Nat → Int32) (mcam : Nat → Int32) (mahd : Int32) (magn : Int32) (mltr : Nat → Int32) (mbeg : Nat → Int32) (mcmd : Nat → Int32) (mcmM : Int32) (mpl : Int32) (msz : Int32) (mwr : Int32) (mlin : Nat → Int32) (mliM : Int32) (o : Int64 × (Nat → Int64) × (Nat → Int64) × (Nat → Int64) × Int32 × Int32) (A : Nat → Prop) := va_Ql (fun (r : Int64) (u : (Nat → Int64) × (Nat → Int64) × (Nat → Int64) × Int32 × Int32) => o.1 = r ∧ o.2 = u) (fun u t => va_P (gD g) zCl (wModel g q0 q1 q2 q3 q4 q5 q6 q7 q8 q9 q10 q11 q12 u.1 u.2.1 msav misS u.2.2.1 u.2.2.2.1 merr mfai u.2.2.2.2 minp minM mUp mcar mcam mahd magn mltr mbeg mcmd mcmM mpl msz mwr mlin mliM) t.heap) A
set_option maxHeartbeats 4000000 in
set_option maxRecDepth 100000 in
theorem c_X11_remove (l : Launch) (g : GG) (q0 q1 q2 q3 q4 q5 q6 q7 q8 q9 q10 q11 q12 : Nat) (mm : Nat → Int64) (masd : Nat → Int64) (msav : Nat → Int64) (misS : Int32) (mpst : Nat → Int64) (mchg : Int32) (merr : Int32) (mfai : Int32) (mthr : Int32) (minp : Nat → Int32) (minM : Int32) (mUp : Nat → Int32) (mcar : Nat → Int32) (mcam : Nat → Int32) (mahd : Int32) (magn : Int32) (mltr : Nat → Int32) (mbeg : Nat → Int32) (mcmd : Nat → Int32) (mcmM : Int32) (mpl : Int32) (msz : Int32) (mwr : Int32) (mlin : Nat → Int32) (mliM : Int32) (sz : Nat) (p1 : Int32) (fu : Nat) (o : Int64 × (Nat → Int64) × (Nat → Int64) × (Nat → Int64) × Int32 × Int32) (hF : F_X11_remove fu mm masd mpst mchg mthr p1 = some o) : Met l yX11_remove w_X11_remove r_X11_remove (va_Pc [.ref q0, .int p1] (zP g (wModel g q0 q1 q2 q3 q4 q5 q6 q7 q8 q9 q10 q11 q12 mm masd msav misS mpst mchg merr mfai mthr minp minM mUp mcar mcam mahd magn mltr mbeg mcmd mcmM mpl msz mwr mlin mliM) sz)) (q_X11_remove g q0 q1 q2 q3 q4 q5 q6 q7 q8 q9 q10 q11 q12 mm masd msav misS mpst mchg merr mfai mthr minp minM mUp mcar mcam mahd magn mltr mbeg mcmd mcmM mpl msz mwr mlin mliM o (va_A (wModel g q0 q1 q2 q3 q4 q5 q6 q7 q8 q9 q10 q11 q12 mm masd msav misS mpst mchg merr mfai mthr minp minM mUp mcar mcam mahd magn mltr mbeg mcmd mcmM mpl msz mwr mlin mliM) sz)) 0 0 (va_A (wModel g q0 q1 q2 q3 q4 q5 q6 q7 q8 q9 q10 q11 q12 mm masd msav misS mpst mchg merr mfai mthr minp minM mUp mcar mcam mahd magn mltr mbeg mcmd mcmM mpl msz mwr mlin mliM) sz) := by
  refine Met.ofW (cc := cX11_remove) (maxL := 4) (ret := (some .long)) (by decide) rfl ?_
  intro p e s m args below meth c s₁ B hml hv
  obtain ⟨rfl, rfl, hP, hK, hD0, hB⟩ := hv
  have hx := B.exec
  have hb := B.bytes
  have hr := B.returns
  have hts : ∀ w ∈ wU, w.before _ s = true := fun w h => atoms_spec (ws := w_X11_remove) B.pre w (List.mem_cons_of_mem _ h)
  have hown : s.vm.findClass RX11 = some m.cls := findClass_of_methodNamed B.named
  have hlocks := B.notSynchronized
  have hD := hD0.self (sz := s.heap.size)
  generalize hAe : va_A (wModel g q0 q1 q2 q3 q4 q5 q6 q7 q8 q9 q10 q11 q12 mm masd msav misS mpst mchg merr mfai mthr minp minM mUp mcar mcam mahd magn mltr mbeg mcmd mcmM mpl msz mwr mlin mliM) s.heap.size = A at hD hB ⊢
  have hA : ∀ q : Nat, s.heap.size ≤ q → A q := fun q h => by rw [← hAe]; exact Or.inr h
  have hS : va_S A s.heap s.heap [] := va_S.rf
  have hl := lv_entry ([.ref q0, .int p1]) (n := 4) (Nat.le_of_ble_eq_true rfl)
  rw [lg_entry_eq]
  generalize (lg_sl ([.ref q0, .int p1]) ++ List.replicate (4 - (lg_sl ([.ref q0, .int p1])).length) Slot.unset).toArray = ls at hl ⊢
  have hl : lv_has ls 4 [(0, .ref q0), (1, .int p1)] := hl
  unfold F_X11_remove at hF
  refine lv_aload_n hx hb dX11_remove_0 rfl (lv_at hl 0 rfl) ?_
  obtain ⟨zo1, hzo1, hF⟩ := z_bind hF
  refine z_callvE (fun (u : (Nat → Int64) × Int32) => (wModel g q0 q1 q2 q3 q4 q5 q6 q7 q8 q9 q10 q11 q12 mm u.1 msav misS mpst mchg merr mfai u.2 minp minM mUp mcar mcam mahd magn mltr mbeg mcmd mcmM mpl msz mwr mlin mliM)) (va_runV (As := []) (rest := []) ⟨hx, hb, hml, hown, hts⟩ (c_X11_starts l g q0 q1 q2 q3 q4 q5 q6 q7 q8 q9 q10 q11 q12 mm masd msav misS mpst mchg merr mfai mthr minp minM mUp mcar mcam mahd magn mltr mbeg mcmd mcmM mpl msz mwr mlin mliM _ fu _ hzo1) (cwV 0 hts (gdV mU_1329 mU_1331 mU_29 mU_75 mU_1332) rfl rfl rfl (by decide +kernel) ⟨Nat.le_of_ble_eq_true rfl, Nat.le_of_ble_eq_true rfl⟩) ⟨z_blind _ _ _ _, va_recv hK hP (ci := 7) (q0 := 0) rfl rfl, fun U hU hW => z_preE hP hD hK hB hS hA hU hW⟩ rfl rfl hl.1 rfl (lv_room (Nat.le_of_ble_eq_true rfl)) dX11_remove_1 ⟨Nat.le_of_ble_eq_true rfl, Nat.le_of_ble_eq_true rfl⟩) hD hS hA (fun _ => rfl) (fun u H locs hw hP hD hS => ?_)
  subst hw
  have hP : va_P (gD g) zCl (wModel g q0 q1 q2 q3 q4 q5 q6 q7 q8 q9 q10 q11 q12 mm zo1.1 msav misS mpst mchg merr mfai zo1.2 minp minM mUp mcar mcam mahd magn mltr mbeg mcmd mcmM mpl msz mwr mlin mliM) H := hP
  have hD : va_D A (wModel g q0 q1 q2 q3 q4 q5 q6 q7 q8 q9 q10 q11 q12 mm zo1.1 msav misS mpst mchg merr mfai zo1.2 minp minM mUp mcar mcam mahd magn mltr mbeg mcmd mcmM mpl msz mwr mlin mliM) := hD
  refine lv_aload_n hx hb dX11_remove_4 rfl (lv_at hl 0 rfl) ?_
  refine lv_iload_n hx hb dX11_remove_5 rfl (lv_at hl 1 rfl) ?_
  obtain ⟨zo2, hzo2, hF⟩ := z_bind hF
  refine z_calllE (fun (u : (Nat → Int64) × Int32) => (wModel g q0 q1 q2 q3 q4 q5 q6 q7 q8 q9 q10 q11 q12 u.1 zo1.1 msav misS mpst mchg merr mfai u.2 minp minM mUp mcar mcam mahd magn mltr mbeg mcmd mcmM mpl msz mwr mlin mliM)) (va_runV (As := [.int p1]) (rest := []) ⟨hx, hb, hml, hown, hts⟩ (c_X11_freeIt l g q0 q1 q2 q3 q4 q5 q6 q7 q8 q9 q10 q11 q12 mm zo1.1 msav misS mpst mchg merr mfai zo1.2 minp minM mUp mcar mcam mahd magn mltr mbeg mcmd mcmM mpl msz mwr mlin mliM _ p1 fu _ hzo2) (cwV 1 hts (gdV mU_1396 mU_1398 mU_36 mU_75 mU_1399) rfl rfl rfl (by decide +kernel) ⟨Nat.le_of_ble_eq_true rfl, Nat.le_of_ble_eq_true rfl⟩) ⟨z_blind _ _ _ _, va_recv hK hP (ci := 7) (q0 := 0) rfl rfl, fun U hU hW => z_preE hP hD hK hB hS hA hU hW⟩ rfl rfl hl.1 rfl (lv_room (Nat.le_of_ble_eq_true rfl)) dX11_remove_6 ⟨Nat.le_of_ble_eq_true rfl, Nat.le_of_ble_eq_true rfl⟩) hD hS hA (fun _ => rfl) (fun r u H locs hw hP hD hS => ?_)
  obtain ⟨rfl, rfl⟩ := hw
  have hP : va_P (gD g) zCl (wModel g q0 q1 q2 q3 q4 q5 q6 q7 q8 q9 q10 q11 q12 zo2.2.1 zo1.1 msav misS mpst mchg merr mfai zo2.2.2 minp minM mUp mcar mcam mahd magn mltr mbeg mcmd mcmM mpl msz mwr mlin mliM) H := hP
  have hD : va_D A (wModel g q0 q1 q2 q3 q4 q5 q6 q7 q8 q9 q10 q11 q12 zo2.2.1 zo1.1 msav misS mpst mchg merr mfai zo2.2.2 minp minM mUp mcar mcam mahd magn mltr mbeg mcmd mcmM mpl msz mwr mlin mliM) := hD
  refine lv_lstore_n (lv' := [(2, .long zo2.1), (0, .ref q0), (1, .int p1)]) hx hb dX11_remove_9 rfl hl (by decide) rfl (fun ls hl => ?_)
  refine lv_aload_n hx hb dX11_remove_10 rfl (lv_at hl 1 rfl) ?_
  obtain ⟨zo3, hzo3, hF⟩ := z_bind hF
  refine z_callvE (fun (u : (Nat → Int64) × Int32) => (wModel g q0 q1 q2 q3 q4 q5 q6 q7 q8 q9 q10 q11 q12 zo2.2.1 zo1.1 msav misS u.1 u.2 merr mfai zo2.2.2 minp minM mUp mcar mcam mahd magn mltr mbeg mcmd mcmM mpl msz mwr mlin mliM)) (va_runV (As := []) (rest := []) ⟨hx, hb, hml, hown, hts⟩ (c_X11_ends l g q0 q1 q2 q3 q4 q5 q6 q7 q8 q9 q10 q11 q12 zo2.2.1 zo1.1 msav misS mpst mchg merr mfai zo2.2.2 minp minM mUp mcar mcam mahd magn mltr mbeg mcmd mcmM mpl msz mwr mlin mliM _ fu _ hzo3) (cwV 0 hts (gdV mU_1375 mU_1377 mU_34 mU_75 mU_1378) rfl rfl rfl (by decide +kernel) ⟨Nat.le_of_ble_eq_true rfl, Nat.le_of_ble_eq_true rfl⟩) ⟨z_blind _ _ _ _, va_recv hK hP (ci := 7) (q0 := 0) rfl rfl, fun U hU hW => z_preE hP hD hK hB hS hA hU hW⟩ rfl rfl hl.1 rfl (lv_room (Nat.le_of_ble_eq_true rfl)) dX11_remove_11 ⟨Nat.le_of_ble_eq_true rfl, Nat.le_of_ble_eq_true rfl⟩) hD hS hA (fun _ => rfl) (fun u H locs hw hP hD hS => ?_)
  subst hw
  have hP : va_P (gD g) zCl (wModel g q0 q1 q2 q3 q4 q5 q6 q7 q8 q9 q10 q11 q12 zo2.2.1 zo1.1 msav misS zo3.1 zo3.2 merr mfai zo2.2.2 minp minM mUp mcar mcam mahd magn mltr mbeg mcmd mcmM mpl msz mwr mlin mliM) H := hP
  have hD : va_D A (wModel g q0 q1 q2 q3 q4 q5 q6 q7 q8 q9 q10 q11 q12 zo2.2.1 zo1.1 msav misS zo3.1 zo3.2 merr mfai zo2.2.2 minp minM mUp mcar mcam mahd magn mltr mbeg mcmd mcmM mpl msz mwr mlin mliM) := hD
  refine lv_lload_n hx hb dX11_remove_14 rfl (lv_at hl 0 rfl) ?_
  have ho := (Option.some.inj hF).symm
  exact W.lret (v := zo2.1) hx hb hr (fun t ht hW => ⟨⟨zo2.1, (zo2.2.1, zo1.1, zo3.1, zo3.2, zo2.2.2), rfl, ⟨by rw [ho], by rw [ho]⟩, z_end ht hP⟩, hS.F ht⟩) hS.2.2 dX11_remove_15
abbrev w_X11_feedIt : List Cond := .code yX11_feedIt cX11_feedIt 5 (some .long) :: wU
abbrev r_X11_feedIt : Room := { frames := 3, cells := 0, slots := 0, locals := 77 }
abbrev q_X11_feedIt (g : GG) (q0 q1 q2 q3 q4 q5 q6 q7 q8 q9 q10 q11 q12 : Nat) (mm : Nat → Int64) (masd : Nat → Int64) (msav : Nat → Int64) (misS : Int32) (mpst : Nat → Int64) (mchg : Int32) (merr : Int32) (mfai : Int32) (mthr : Int32) (minp : Nat → Int32) (minM : Int32) (mUp : Nat → Int32) (mcar : Nat → Int32) (mcam : Nat → Int32) (mahd : Int32) (magn : Int32) (mltr : Nat → Int32) (mbeg : Nat → Int32) (mcmd : Nat → Int32) (mcmM : Int32) (mpl : Int32) (msz : Int32) (mwr : Int32) (mlin : Nat → Int32) (mliM : Int32) (o : Int64 × (Nat → Int64) × Int32) (A : Nat → Prop) := va_Ql (fun (r : Int64) (u : (Nat → Int64) × Int32) => o.1 = r ∧ o.2 = u) (fun u t => va_P (gD g) zCl (wModel g q0 q1 q2 q3 q4 q5 q6 q7 q8 q9 q10 q11 q12 u.1 masd msav misS mpst mchg merr mfai u.2 minp minM mUp mcar mcam mahd magn mltr mbeg mcmd mcmM mpl msz mwr mlin mliM) t.heap) A
set_option maxHeartbeats 4000000 in
set_option maxRecDepth 100000 in
theorem c_X11_feedIt (l : Launch) (g : GG) (q0 q1 q2 q3 q4 q5 q6 q7 q8 q9 q10 q11 q12 : Nat) (mm : Nat → Int64) (masd : Nat → Int64) (msav : Nat → Int64) (misS : Int32) (mpst : Nat → Int64) (mchg : Int32) (merr : Int32) (mfai : Int32) (mthr : Int32) (minp : Nat → Int32) (minM : Int32) (mUp : Nat → Int32) (mcar : Nat → Int32) (mcam : Nat → Int32) (mahd : Int32) (magn : Int32) (mltr : Nat → Int32) (mbeg : Nat → Int32) (mcmd : Nat → Int32) (mcmM : Int32) (mpl : Int32) (msz : Int32) (mwr : Int32) (mlin : Nat → Int32) (mliM : Int32) (sz : Nat) (p1 : Int32) (p2 : Int32) (p3 : Int32) (fu : Nat) (o : Int64 × (Nat → Int64) × Int32) (hF : F_X11_feedIt fu mm mthr p1 p2 p3 = some o) : Met l yX11_feedIt w_X11_feedIt r_X11_feedIt (va_Pc [.ref q0, .int p1, .int p2, .int p3] (zP g (wModel g q0 q1 q2 q3 q4 q5 q6 q7 q8 q9 q10 q11 q12 mm masd msav misS mpst mchg merr mfai mthr minp minM mUp mcar mcam mahd magn mltr mbeg mcmd mcmM mpl msz mwr mlin mliM) sz)) (q_X11_feedIt g q0 q1 q2 q3 q4 q5 q6 q7 q8 q9 q10 q11 q12 mm masd msav misS mpst mchg merr mfai mthr minp minM mUp mcar mcam mahd magn mltr mbeg mcmd mcmM mpl msz mwr mlin mliM o (va_A (wModel g q0 q1 q2 q3 q4 q5 q6 q7 q8 q9 q10 q11 q12 mm masd msav misS mpst mchg merr mfai mthr minp minM mUp mcar mcam mahd magn mltr mbeg mcmd mcmM mpl msz mwr mlin mliM) sz)) 0 0 (va_A (wModel g q0 q1 q2 q3 q4 q5 q6 q7 q8 q9 q10 q11 q12 mm masd msav misS mpst mchg merr mfai mthr minp minM mUp mcar mcam mahd magn mltr mbeg mcmd mcmM mpl msz mwr mlin mliM) sz) := by
  refine Met.ofW (cc := cX11_feedIt) (maxL := 5) (ret := (some .long)) (by decide) rfl ?_
  intro p e s m args below meth c s₁ B hml hv
  obtain ⟨rfl, rfl, hP, hK, hD0, hB⟩ := hv
  have hx := B.exec
  have hb := B.bytes
  have hr := B.returns
  have hts : ∀ w ∈ wU, w.before _ s = true := fun w h => atoms_spec (ws := w_X11_feedIt) B.pre w (List.mem_cons_of_mem _ h)
  have hown : s.vm.findClass RX11 = some m.cls := findClass_of_methodNamed B.named
  have hlocks := B.notSynchronized
  have hD := hD0.self (sz := s.heap.size)
  generalize hAe : va_A (wModel g q0 q1 q2 q3 q4 q5 q6 q7 q8 q9 q10 q11 q12 mm masd msav misS mpst mchg merr mfai mthr minp minM mUp mcar mcam mahd magn mltr mbeg mcmd mcmM mpl msz mwr mlin mliM) s.heap.size = A at hD hB ⊢
  have hA : ∀ q : Nat, s.heap.size ≤ q → A q := fun q h => by rw [← hAe]; exact Or.inr h
  have hS : va_S A s.heap s.heap [] := va_S.rf
  have hl := lv_entry ([.ref q0, .int p1, .int p2, .int p3]) (n := 5) (Nat.le_of_ble_eq_true rfl)
  rw [lg_entry_eq]
  generalize (lg_sl ([.ref q0, .int p1, .int p2, .int p3]) ++ List.replicate (5 - (lg_sl ([.ref q0, .int p1, .int p2, .int p3])).length) Slot.unset).toArray = ls at hl ⊢
  have hl : lv_has ls 5 [(0, .ref q0), (1, .int p1), (2, .int p2), (3, .int p3)] := hl
  unfold F_X11_feedIt at hF
  refine lv_aload_n hx hb dX11_feedIt_0 rfl (lv_at hl 0 rfl) ?_
  refine lv_iload_n hx hb dX11_feedIt_1 rfl (lv_at hl 1 rfl) ?_
  obtain ⟨zo1, hzo1, hF⟩ := z_bind hF
  refine z_calliE (fun (_ : Unit) => (wModel g q0 q1 q2 q3 q4 q5 q6 q7 q8 q9 q10 q11 q12 mm masd msav misS mpst mchg merr mfai mthr minp minM mUp mcar mcam mahd magn mltr mbeg mcmd mcmM mpl msz mwr mlin mliM)) (va_runV (As := [.int p1]) (rest := []) ⟨hx, hb, hml, hown, hts⟩ (c_X11_find l g q0 q1 q2 q3 q4 q5 q6 q7 q8 q9 q10 q11 q12 mm masd msav misS mpst mchg merr mfai mthr minp minM mUp mcar mcam mahd magn mltr mbeg mcmd mcmM mpl msz mwr mlin mliM _ p1 fu _ hzo1) (cwV 1 hts (gdV mU_1400 mU_1402 mU_37 mU_75 mU_1403) rfl rfl rfl (by decide +kernel) ⟨Nat.le_of_ble_eq_true rfl, Nat.le_of_ble_eq_true rfl⟩) ⟨z_blind _ _ _ _, va_recv hK hP (ci := 7) (q0 := 0) rfl rfl, fun U hU hW => z_preE hP hD hK hB hS hA hU hW⟩ rfl rfl hl.1 rfl (lv_room (Nat.le_of_ble_eq_true rfl)) dX11_feedIt_2 ⟨Nat.le_of_ble_eq_true rfl, Nat.le_of_ble_eq_true rfl⟩) hD hS hA (fun _ => rfl) (fun r u H locs hw hP hD hS => ?_)
  subst hw
  have hP : va_P (gD g) zCl (wModel g q0 q1 q2 q3 q4 q5 q6 q7 q8 q9 q10 q11 q12 mm masd msav misS mpst mchg merr mfai mthr minp minM mUp mcar mcam mahd magn mltr mbeg mcmd mcmM mpl msz mwr mlin mliM) H := hP
  have hD : va_D A (wModel g q0 q1 q2 q3 q4 q5 q6 q7 q8 q9 q10 q11 q12 mm masd msav misS mpst mchg merr mfai mthr minp minM mUp mcar mcam mahd magn mltr mbeg mcmd mcmM mpl msz mwr mlin mliM) := hD
  refine lv_istore (lv' := [(4, .int zo1), (0, .ref q0), (1, .int p1), (2, .int p2), (3, .int p3)]) hx hb dX11_feedIt_5 hl (by decide) rfl (fun ls hl => ?_)
  refine lv_iload hx hb dX11_feedIt_7 (lv_at hl 0 rfl) ?_
  refine lv_iconst (v := (-1)) hx hb dX11_feedIt_9 (by decide) ?_
  refine lv_icmp_ne (tgt := 20) hx hb dX11_feedIt_10 (by decide) (fun zc2 => ?_) (fun zc2 => ?_)
  · have hF := z_neg hF zc2
    refine lv_iload_n hx hb dX11_feedIt_20 rfl (lv_at hl 3 rfl) ?_
    refine lv_iload_n hx hb dX11_feedIt_21 rfl (lv_at hl 4 rfl) ?_
    obtain ⟨zo3, hzo3, hF⟩ := z_bind hF
    refine z_calli (fun (_ : Unit) => []) [] (va_runS (As := [.int p2, .int p3]) (rest := []) ⟨hx, hb, hml, hown, hts⟩ (c_X11_isAmount l g _ p2 p3 _ hzo3) (va_cwS 2 hts (gdS mU_1337 mU_1338 mU_75 mU_1339) rfl rfl rfl (by decide +kernel) ⟨Nat.le_of_ble_eq_true rfl, Nat.le_of_ble_eq_true rfl⟩) ⟨z_blind _ _ _ _, fun U hU hW => z_pre [] hP hD hK hB hS hA rfl rfl hU hW⟩ rfl rfl hl.1 rfl (lv_room (Nat.le_of_ble_eq_true rfl)) dX11_feedIt_22 ⟨Nat.le_of_ble_eq_true rfl, Nat.le_of_ble_eq_true rfl⟩) hP hD hS hA rfl (fun _ => rfl) (fun r u H locs hw hP hD hS => ?_)
    subst hw
    have hP : va_P (gD g) zCl (wModel g q0 q1 q2 q3 q4 q5 q6 q7 q8 q9 q10 q11 q12 mm masd msav misS mpst mchg merr mfai mthr minp minM mUp mcar mcam mahd magn mltr mbeg mcmd mcmM mpl msz mwr mlin mliM) H := hP
    have hD : va_D A (wModel g q0 q1 q2 q3 q4 q5 q6 q7 q8 q9 q10 q11 q12 mm masd msav misS mpst mchg merr mfai mthr minp minM mUp mcar mcam mahd magn mltr mbeg mcmd mcmM mpl msz mwr mlin mliM) := hD
    refine lv_if_ne (tgt := 35) hx hb dX11_feedIt_25 (by decide) (fun zc4 => ?_) (fun zc4 => ?_)
    · have hF := z_neg hF zc4
      refine lv_aload_n hx hb dX11_feedIt_35 rfl (lv_at hl 1 rfl) ?_
      refine lv_iload hx hb dX11_feedIt_36 (lv_at hl 0 rfl) ?_
      refine lv_aload_n hx hb dX11_feedIt_38 rfl (lv_at hl 1 rfl) ?_
      refine va_get (D := gD g) (ci := 7) (v := .ref q1) (C := RX11) (T := TX11) (N := 25) hx hb hts inX11 hown hK hP 0 rfl rfl 0 (by decide) (hts _ mU_1244) (fun _ h9 => h9) rfl dX11_feedIt_39 ?_
      refine lv_iload hx hb dX11_feedIt_42 (lv_at hl 0 rfl) ?_
      obtain ⟨zo5, hzo5, hF⟩ := z_bind hF
      refine z_calli (fun (_ : Unit) => []) [] (va_runS (As := [.int zo1]) (rest := [.ref q1, .int zo1, .ref q0]) ⟨hx, hb, hml, hown, hts⟩ (c_X11_at l g _ zo1 _ hzo5) (va_cwS 1 hts (gdS mU_1372 mU_1373 mU_75 mU_1374) rfl rfl rfl (by decide +kernel) ⟨Nat.le_of_ble_eq_true rfl, Nat.le_of_ble_eq_true rfl⟩) ⟨z_blind _ _ _ _, fun U hU hW => z_pre [] hP hD hK hB hS hA rfl rfl hU hW⟩ rfl rfl hl.1 rfl (lv_room (Nat.le_of_ble_eq_true rfl)) dX11_feedIt_44 ⟨Nat.le_of_ble_eq_true rfl, Nat.le_of_ble_eq_true rfl⟩) hP hD hS hA rfl (fun _ => rfl) (fun r u H locs hw hP hD hS => ?_)
      subst hw
      have hP : va_P (gD g) zCl (wModel g q0 q1 q2 q3 q4 q5 q6 q7 q8 q9 q10 q11 q12 mm masd msav misS mpst mchg merr mfai mthr minp minM mUp mcar mcam mahd magn mltr mbeg mcmd mcmM mpl msz mwr mlin mliM) H := hP
      have hD : va_D A (wModel g q0 q1 q2 q3 q4 q5 q6 q7 q8 q9 q10 q11 q12 mm masd msav misS mpst mchg merr mfai mthr minp minM mUp mcar mcam mahd magn mltr mbeg mcmd mcmM mpl msz mwr mlin mliM) := hD
      refine lv_iconst (v := 1) hx hb dX11_feedIt_47 (by decide) ?_
      refine lv_iadd hx hb dX11_feedIt_48 ?_
      obtain ⟨zg6, hF⟩ := z_grd hF
      refine va_lald hx hb hK hP 1 2 rfl rfl zg6 dX11_feedIt_49 ?_
      refine lv_iload_n hx hb dX11_feedIt_50 rfl (lv_at hl 3 rfl) ?_
      refine lv_iload_n hx hb dX11_feedIt_51 rfl (lv_at hl 4 rfl) ?_
      obtain ⟨zo7, hzo7, hF⟩ := z_bind hF
      refine z_calll (fun (_ : Unit) => []) [] (va_runS (As := [.int p2, .int p3]) (rest := [.long (mm (Int32.toNatClampNeg (zo5 + 1))), .int zo1, .ref q0]) ⟨hx, hb, hml, hown, hts⟩ (c_X11_units l g _ p2 p3 _ hzo7) (va_cwS 2 hts (gdS mU_1360 mU_1361 mU_75 mU_1362) rfl rfl rfl (by decide +kernel) ⟨Nat.le_of_ble_eq_true rfl, Nat.le_of_ble_eq_true rfl⟩) ⟨z_blind _ _ _ _, fun U hU hW => z_pre [] hP hD hK hB hS hA rfl rfl hU hW⟩ rfl rfl hl.1 rfl (lv_room (Nat.le_of_ble_eq_true rfl)) dX11_feedIt_52 ⟨Nat.le_of_ble_eq_true rfl, Nat.le_of_ble_eq_true rfl⟩) hP hD hS hA rfl (fun _ => rfl) (fun r u H locs hw hP hD hS => ?_)
      subst hw
      have hP : va_P (gD g) zCl (wModel g q0 q1 q2 q3 q4 q5 q6 q7 q8 q9 q10 q11 q12 mm masd msav misS mpst mchg merr mfai mthr minp minM mUp mcar mcam mahd magn mltr mbeg mcmd mcmM mpl msz mwr mlin mliM) H := hP
      have hD : va_D A (wModel g q0 q1 q2 q3 q4 q5 q6 q7 q8 q9 q10 q11 q12 mm masd msav misS mpst mchg merr mfai mthr minp minM mUp mcar mcam mahd magn mltr mbeg mcmd mcmM mpl msz mwr mlin mliM) := hD
      refine lv_ladd hx hb dX11_feedIt_55 ?_
      obtain ⟨zo8, hzo8, hF⟩ := z_bind hF
      refine z_callvE (fun (u : (Nat → Int64)) => (wModel g q0 q1 q2 q3 q4 q5 q6 q7 q8 q9 q10 q11 q12 u masd msav misS mpst mchg merr mfai mthr minp minM mUp mcar mcam mahd magn mltr mbeg mcmd mcmM mpl msz mwr mlin mliM)) (va_runV (As := [.int zo1, .long ((mm (Int32.toNatClampNeg (zo5 + 1))) + zo7)]) (rest := []) ⟨hx, hb, hml, hown, hts⟩ (c_X11_becomes l g q0 q1 q2 q3 q4 q5 q6 q7 q8 q9 q10 q11 q12 mm masd msav misS mpst mchg merr mfai mthr minp minM mUp mcar mcam mahd magn mltr mbeg mcmd mcmM mpl msz mwr mlin mliM _ zo1 ((mm (Int32.toNatClampNeg (zo5 + 1))) + zo7) fu _ hzo8) (cwV 2 hts (gdV mU_1412 mU_1414 mU_39 mU_75 mU_1415) rfl rfl rfl (by decide +kernel) ⟨Nat.le_of_ble_eq_true rfl, Nat.le_of_ble_eq_true rfl⟩) ⟨z_blind _ _ _ _, va_recv hK hP (ci := 7) (q0 := 0) rfl rfl, fun U hU hW => z_preE hP hD hK hB hS hA hU hW⟩ rfl rfl hl.1 rfl (lv_room (Nat.le_of_ble_eq_true rfl)) dX11_feedIt_56 ⟨Nat.le_of_ble_eq_true rfl, Nat.le_of_ble_eq_true rfl⟩) hD hS hA (fun _ => rfl) (fun u H locs hw hP hD hS => ?_)
      subst hw
      have hP : va_P (gD g) zCl (wModel g q0 q1 q2 q3 q4 q5 q6 q7 q8 q9 q10 q11 q12 zo8 masd msav misS mpst mchg merr mfai mthr minp minM mUp mcar mcam mahd magn mltr mbeg mcmd mcmM mpl msz mwr mlin mliM) H := hP
      have hD : va_D A (wModel g q0 q1 q2 q3 q4 q5 q6 q7 q8 q9 q10 q11 q12 zo8 masd msav misS mpst mchg merr mfai mthr minp minM mUp mcar mcam mahd magn mltr mbeg mcmd mcmM mpl msz mwr mlin mliM) := hD
      refine lv_aload_n hx hb dX11_feedIt_59 rfl (lv_at hl 1 rfl) ?_
      refine va_get (D := gD g) (ci := 7) (v := .ref q1) (C := RX11) (T := TX11) (N := 25) hx hb hts inX11 hown hK hP 0 rfl rfl 0 (by decide) (hts _ mU_1244) (fun _ h9 => h9) rfl dX11_feedIt_60 ?_
      refine lv_iload hx hb dX11_feedIt_63 (lv_at hl 0 rfl) ?_
      obtain ⟨zo9, hzo9, hF⟩ := z_bind hF
      refine z_calli (fun (_ : Unit) => []) [] (va_runS (As := [.int zo1]) (rest := [.ref q1]) ⟨hx, hb, hml, hown, hts⟩ (c_X11_at l g _ zo1 _ hzo9) (va_cwS 1 hts (gdS mU_1372 mU_1373 mU_75 mU_1374) rfl rfl rfl (by decide +kernel) ⟨Nat.le_of_ble_eq_true rfl, Nat.le_of_ble_eq_true rfl⟩) ⟨z_blind _ _ _ _, fun U hU hW => z_pre [] hP hD hK hB hS hA rfl rfl hU hW⟩ rfl rfl hl.1 rfl (lv_room (Nat.le_of_ble_eq_true rfl)) dX11_feedIt_65 ⟨Nat.le_of_ble_eq_true rfl, Nat.le_of_ble_eq_true rfl⟩) hP hD hS hA rfl (fun _ => rfl) (fun r u H locs hw hP hD hS => ?_)
      subst hw
      have hP : va_P (gD g) zCl (wModel g q0 q1 q2 q3 q4 q5 q6 q7 q8 q9 q10 q11 q12 zo8 masd msav misS mpst mchg merr mfai mthr minp minM mUp mcar mcam mahd magn mltr mbeg mcmd mcmM mpl msz mwr mlin mliM) H := hP
      have hD : va_D A (wModel g q0 q1 q2 q3 q4 q5 q6 q7 q8 q9 q10 q11 q12 zo8 masd msav misS mpst mchg merr mfai mthr minp minM mUp mcar mcam mahd magn mltr mbeg mcmd mcmM mpl msz mwr mlin mliM) := hD
      refine lv_iconst (v := 1) hx hb dX11_feedIt_68 (by decide) ?_
      refine lv_iadd hx hb dX11_feedIt_69 ?_
      obtain ⟨zg10, hF⟩ := z_grd hF
      refine va_lald hx hb hK hP 1 2 rfl rfl zg10 dX11_feedIt_70 ?_
      have ho := (Option.some.inj hF).symm
      exact W.lret (v := (zo8 (Int32.toNatClampNeg (zo9 + 1)))) hx hb hr (fun t ht hW => ⟨⟨(zo8 (Int32.toNatClampNeg (zo9 + 1))), (zo8, mthr), rfl, ⟨by rw [ho], by rw [ho]⟩, z_end ht hP⟩, hS.F ht⟩) hS.2.2 dX11_feedIt_71
    · have hF := z_pos hF zc4
      refine lv_aload_n hx hb dX11_feedIt_28 rfl (lv_at hl 1 rfl) ?_
      refine lv_iconst (v := 2) hx hb dX11_feedIt_29 (by decide) ?_
      obtain ⟨zo11, hzo11, hF⟩ := z_bind hF
      refine z_calliE (fun (u : Int32) => (wModel g q0 q1 q2 q3 q4 q5 q6 q7 q8 q9 q10 q11 q12 mm masd msav misS mpst mchg merr mfai u minp minM mUp mcar mcam mahd magn mltr mbeg mcmd mcmM mpl msz mwr mlin mliM)) (va_runV (As := [.int 2]) (rest := []) ⟨hx, hb, hml, hown, hts⟩ (c_X11_throwing l g q0 q1 q2 q3 q4 q5 q6 q7 q8 q9 q10 q11 q12 mm masd msav misS mpst mchg merr mfai mthr minp minM mUp mcar mcam mahd magn mltr mbeg mcmd mcmM mpl msz mwr mlin mliM _ 2 _ hzo11) (cwV 1 hts (gdV mU_1352 mU_1354 mU_31 mU_75 mU_1355) rfl rfl rfl (by decide +kernel) ⟨Nat.le_of_ble_eq_true rfl, Nat.le_of_ble_eq_true rfl⟩) ⟨z_blind _ _ _ _, va_recv hK hP (ci := 7) (q0 := 0) rfl rfl, fun U hU hW => z_preE hP hD hK hB hS hA hU hW⟩ rfl rfl hl.1 rfl (lv_room (Nat.le_of_ble_eq_true rfl)) dX11_feedIt_30 ⟨Nat.le_of_ble_eq_true rfl, Nat.le_of_ble_eq_true rfl⟩) hD hS hA (fun _ => rfl) (fun r u H locs hw hP hD hS => ?_)
      obtain ⟨rfl, rfl⟩ := hw
      have hP : va_P (gD g) zCl (wModel g q0 q1 q2 q3 q4 q5 q6 q7 q8 q9 q10 q11 q12 mm masd msav misS mpst mchg merr mfai zo11.2 minp minM mUp mcar mcam mahd magn mltr mbeg mcmd mcmM mpl msz mwr mlin mliM) H := hP
      have hD : va_D A (wModel g q0 q1 q2 q3 q4 q5 q6 q7 q8 q9 q10 q11 q12 mm masd msav misS mpst mchg merr mfai zo11.2 minp minM mUp mcar mcam mahd magn mltr mbeg mcmd mcmM mpl msz mwr mlin mliM) := hD
      refine lv_i2l (v := (Int32.toInt64 zo11.1)) hx hb dX11_feedIt_33 rfl ?_
      have ho := (Option.some.inj hF).symm
      exact W.lret (v := (Int32.toInt64 zo11.1)) hx hb hr (fun t ht hW => ⟨⟨(Int32.toInt64 zo11.1), (mm, zo11.2), rfl, ⟨by rw [ho], by rw [ho]⟩, z_end ht hP⟩, hS.F ht⟩) hS.2.2 dX11_feedIt_34
  · have hF := z_pos hF zc2
    refine lv_aload_n hx hb dX11_feedIt_13 rfl (lv_at hl 1 rfl) ?_
    refine lv_iconst (v := 1) hx hb dX11_feedIt_14 (by decide) ?_
    obtain ⟨zo12, hzo12, hF⟩ := z_bind hF
    refine z_calliE (fun (u : Int32) => (wModel g q0 q1 q2 q3 q4 q5 q6 q7 q8 q9 q10 q11 q12 mm masd msav misS mpst mchg merr mfai u minp minM mUp mcar mcam mahd magn mltr mbeg mcmd mcmM mpl msz mwr mlin mliM)) (va_runV (As := [.int 1]) (rest := []) ⟨hx, hb, hml, hown, hts⟩ (c_X11_throwing l g q0 q1 q2 q3 q4 q5 q6 q7 q8 q9 q10 q11 q12 mm masd msav misS mpst mchg merr mfai mthr minp minM mUp mcar mcam mahd magn mltr mbeg mcmd mcmM mpl msz mwr mlin mliM _ 1 _ hzo12) (cwV 1 hts (gdV mU_1352 mU_1354 mU_31 mU_75 mU_1355) rfl rfl rfl (by decide +kernel) ⟨Nat.le_of_ble_eq_true rfl, Nat.le_of_ble_eq_true rfl⟩) ⟨z_blind _ _ _ _, va_recv hK hP (ci := 7) (q0 := 0) rfl rfl, fun U hU hW => z_preE hP hD hK hB hS hA hU hW⟩ rfl rfl hl.1 rfl (lv_room (Nat.le_of_ble_eq_true rfl)) dX11_feedIt_15 ⟨Nat.le_of_ble_eq_true rfl, Nat.le_of_ble_eq_true rfl⟩) hD hS hA (fun _ => rfl) (fun r u H locs hw hP hD hS => ?_)
    obtain ⟨rfl, rfl⟩ := hw
    have hP : va_P (gD g) zCl (wModel g q0 q1 q2 q3 q4 q5 q6 q7 q8 q9 q10 q11 q12 mm masd msav misS mpst mchg merr mfai zo12.2 minp minM mUp mcar mcam mahd magn mltr mbeg mcmd mcmM mpl msz mwr mlin mliM) H := hP
    have hD : va_D A (wModel g q0 q1 q2 q3 q4 q5 q6 q7 q8 q9 q10 q11 q12 mm masd msav misS mpst mchg merr mfai zo12.2 minp minM mUp mcar mcam mahd magn mltr mbeg mcmd mcmM mpl msz mwr mlin mliM) := hD
    refine lv_i2l (v := (Int32.toInt64 zo12.1)) hx hb dX11_feedIt_18 rfl ?_
    have ho := (Option.some.inj hF).symm
    exact W.lret (v := (Int32.toInt64 zo12.1)) hx hb hr (fun t ht hW => ⟨⟨(Int32.toInt64 zo12.1), (mm, zo12.2), rfl, ⟨by rw [ho], by rw [ho]⟩, z_end ht hP⟩, hS.F ht⟩) hS.2.2 dX11_feedIt_19
abbrev w_X11_feed : List Cond := .code yX11_feed cX11_feed 6 (some .long) :: wU
abbrev r_X11_feed : Room := { frames := 4, cells := 0, slots := 0, locals := 101 }
abbrev q_X11_feed (g : GG) (q0 q1 q2 q3 q4 q5 q6 q7 q8 q9 q10 q11 q12 : Nat) (mm : Nat → Int64) (masd : Nat → Int64) (msav : Nat → Int64) (misS : Int32) (mpst : Nat → Int64) (mchg : Int32) (merr : Int32) (mfai : Int32) (mthr : Int32) (minp : Nat → Int32) (minM : Int32) (mUp : Nat → Int32) (mcar : Nat → Int32) (mcam : Nat → Int32) (mahd : Int32) (magn : Int32) (mltr : Nat → Int32) (mbeg : Nat → Int32) (mcmd : Nat → Int32) (mcmM : Int32) (mpl : Int32) (msz : Int32) (mwr : Int32) (mlin : Nat → Int32) (mliM : Int32) (o : Int64 × (Nat → Int64) × (Nat → Int64) × (Nat → Int64) × Int32 × Int32) (A : Nat → Prop) := va_Ql (fun (r : Int64) (u : (Nat → Int64) × (Nat → Int64) × (Nat → Int64) × Int32 × Int32) => o.1 = r ∧ o.2 = u) (fun u t => va_P (gD g) zCl (wModel g q0 q1 q2 q3 q4 q5 q6 q7 q8 q9 q10 q11 q12 u.1 u.2.1 msav misS u.2.2.1 u.2.2.2.1 merr mfai u.2.2.2.2 minp minM mUp mcar mcam mahd magn mltr mbeg mcmd mcmM mpl msz mwr mlin mliM) t.heap) A
set_option maxHeartbeats 4000000 in
set_option maxRecDepth 100000 in
theorem c_X11_feed (l : Launch) (g : GG) (q0 q1 q2 q3 q4 q5 q6 q7 q8 q9 q10 q11 q12 : Nat) (mm : Nat → Int64) (masd : Nat → Int64) (msav : Nat → Int64) (misS : Int32) (mpst : Nat → Int64) (mchg : Int32) (merr : Int32) (mfai : Int32) (mthr : Int32) (minp : Nat → Int32) (minM : Int32) (mUp : Nat → Int32) (mcar : Nat → Int32) (mcam : Nat → Int32) (mahd : Int32) (magn : Int32) (mltr : Nat → Int32) (mbeg : Nat → Int32) (mcmd : Nat → Int32) (mcmM : Int32) (mpl : Int32) (msz : Int32) (mwr : Int32) (mlin : Nat → Int32) (mliM : Int32) (sz : Nat) (p1 : Int32) (p2 : Int32) (p3 : Int32) (fu : Nat) (o : Int64 × (Nat → Int64) × (Nat → Int64) × (Nat → Int64) × Int32 × Int32) (hF : F_X11_feed fu mm masd mpst mchg mthr p1 p2 p3 = some o) : Met l yX11_feed w_X11_feed r_X11_feed (va_Pc [.ref q0, .int p1, .int p2, .int p3] (zP g (wModel g q0 q1 q2 q3 q4 q5 q6 q7 q8 q9 q10 q11 q12 mm masd msav misS mpst mchg merr mfai mthr minp minM mUp mcar mcam mahd magn mltr mbeg mcmd mcmM mpl msz mwr mlin mliM) sz)) (q_X11_feed g q0 q1 q2 q3 q4 q5 q6 q7 q8 q9 q10 q11 q12 mm masd msav misS mpst mchg merr mfai mthr minp minM mUp mcar mcam mahd magn mltr mbeg mcmd mcmM mpl msz mwr mlin mliM o (va_A (wModel g q0 q1 q2 q3 q4 q5 q6 q7 q8 q9 q10 q11 q12 mm masd msav misS mpst mchg merr mfai mthr minp minM mUp mcar mcam mahd magn mltr mbeg mcmd mcmM mpl msz mwr mlin mliM) sz)) 0 0 (va_A (wModel g q0 q1 q2 q3 q4 q5 q6 q7 q8 q9 q10 q11 q12 mm masd msav misS mpst mchg merr mfai mthr minp minM mUp mcar mcam mahd magn mltr mbeg mcmd mcmM mpl msz mwr mlin mliM) sz) := by
  refine Met.ofW (cc := cX11_feed) (maxL := 6) (ret := (some .long)) (by decide) rfl ?_
  intro p e s m args below meth c s₁ B hml hv
  obtain ⟨rfl, rfl, hP, hK, hD0, hB⟩ := hv
  have hx := B.exec
  have hb := B.bytes
  have hr := B.returns
  have hts : ∀ w ∈ wU, w.before _ s = true := fun w h => atoms_spec (ws := w_X11_feed) B.pre w (List.mem_cons_of_mem _ h)
  have hown : s.vm.findClass RX11 = some m.cls := findClass_of_methodNamed B.named
  have hlocks := B.notSynchronized
  have hD := hD0.self (sz := s.heap.size)
  generalize hAe : va_A (wModel g q0 q1 q2 q3 q4 q5 q6 q7 q8 q9 q10 q11 q12 mm masd msav misS mpst mchg merr mfai mthr minp minM mUp mcar mcam mahd magn mltr mbeg mcmd mcmM mpl msz mwr mlin mliM) s.heap.size = A at hD hB ⊢
  have hA : ∀ q : Nat, s.heap.size ≤ q → A q := fun q h => by rw [← hAe]; exact Or.inr h
  have hS : va_S A s.heap s.heap [] := va_S.rf
  have hl := lv_entry ([.ref q0, .int p1, .int p2, .int p3]) (n := 6) (Nat.le_of_ble_eq_true rfl)
  rw [lg_entry_eq]
  generalize (lg_sl ([.ref q0, .int p1, .int p2, .int p3]) ++ List.replicate (6 - (lg_sl ([.ref q0, .int p1, .int p2, .int p3])).length) Slot.unset).toArray = ls at hl ⊢
  have hl : lv_has ls 6 [(0, .ref q0), (1, .int p1), (2, .int p2), (3, .int p3)] := hl
  unfold F_X11_feed at hF
  refine lv_aload_n hx hb dX11_feed_0 rfl (lv_at hl 0 rfl) ?_
  obtain ⟨zo1, hzo1, hF⟩ := z_bind hF
  refine z_callvE (fun (u : (Nat → Int64) × Int32) => (wModel g q0 q1 q2 q3 q4 q5 q6 q7 q8 q9 q10 q11 q12 mm u.1 msav misS mpst mchg merr mfai u.2 minp minM mUp mcar mcam mahd magn mltr mbeg mcmd mcmM mpl msz mwr mlin mliM)) (va_runV (As := []) (rest := []) ⟨hx, hb, hml, hown, hts⟩ (c_X11_starts l g q0 q1 q2 q3 q4 q5 q6 q7 q8 q9 q10 q11 q12 mm masd msav misS mpst mchg merr mfai mthr minp minM mUp mcar mcam mahd magn mltr mbeg mcmd mcmM mpl msz mwr mlin mliM _ fu _ hzo1) (cwV 0 hts (gdV mU_1329 mU_1331 mU_29 mU_75 mU_1332) rfl rfl rfl (by decide +kernel) ⟨Nat.le_of_ble_eq_true rfl, Nat.le_of_ble_eq_true rfl⟩) ⟨z_blind _ _ _ _, va_recv hK hP (ci := 7) (q0 := 0) rfl rfl, fun U hU hW => z_preE hP hD hK hB hS hA hU hW⟩ rfl rfl hl.1 rfl (lv_room (Nat.le_of_ble_eq_true rfl)) dX11_feed_1 ⟨Nat.le_of_ble_eq_true rfl, Nat.le_of_ble_eq_true rfl⟩) hD hS hA (fun _ => rfl) (fun u H locs hw hP hD hS => ?_)
  subst hw
  have hP : va_P (gD g) zCl (wModel g q0 q1 q2 q3 q4 q5 q6 q7 q8 q9 q10 q11 q12 mm zo1.1 msav misS mpst mchg merr mfai zo1.2 minp minM mUp mcar mcam mahd magn mltr mbeg mcmd mcmM mpl msz mwr mlin mliM) H := hP
  have hD : va_D A (wModel g q0 q1 q2 q3 q4 q5 q6 q7 q8 q9 q10 q11 q12 mm zo1.1 msav misS mpst mchg merr mfai zo1.2 minp minM mUp mcar mcam mahd magn mltr mbeg mcmd mcmM mpl msz mwr mlin mliM) := hD
  refine lv_aload_n hx hb dX11_feed_4 rfl (lv_at hl 0 rfl) ?_
  refine lv_iload_n hx hb dX11_feed_5 rfl (lv_at hl 1 rfl) ?_
  refine lv_iload_n hx hb dX11_feed_6 rfl (lv_at hl 2 rfl) ?_
  refine lv_iload_n hx hb dX11_feed_7 rfl (lv_at hl 3 rfl) ?_
  obtain ⟨zo2, hzo2, hF⟩ := z_bind hF
  refine z_calllE (fun (u : (Nat → Int64) × Int32) => (wModel g q0 q1 q2 q3 q4 q5 q6 q7 q8 q9 q10 q11 q12 u.1 zo1.1 msav misS mpst mchg merr mfai u.2 minp minM mUp mcar mcam mahd magn mltr mbeg mcmd mcmM mpl msz mwr mlin mliM)) (va_runV (As := [.int p1, .int p2, .int p3]) (rest := []) ⟨hx, hb, hml, hown, hts⟩ (c_X11_feedIt l g q0 q1 q2 q3 q4 q5 q6 q7 q8 q9 q10 q11 q12 mm zo1.1 msav misS mpst mchg merr mfai zo1.2 minp minM mUp mcar mcam mahd magn mltr mbeg mcmd mcmM mpl msz mwr mlin mliM _ p1 p2 p3 fu _ hzo2) (cwV 3 hts (gdV mU_1408 mU_1410 mU_38 mU_75 mU_1411) rfl rfl rfl (by decide +kernel) ⟨Nat.le_of_ble_eq_true rfl, Nat.le_of_ble_eq_true rfl⟩) ⟨z_blind _ _ _ _, va_recv hK hP (ci := 7) (q0 := 0) rfl rfl, fun U hU hW => z_preE hP hD hK hB hS hA hU hW⟩ rfl rfl hl.1 rfl (lv_room (Nat.le_of_ble_eq_true rfl)) dX11_feed_8 ⟨Nat.le_of_ble_eq_true rfl, Nat.le_of_ble_eq_true rfl⟩) hD hS hA (fun _ => rfl) (fun r u H locs hw hP hD hS => ?_)
  obtain ⟨rfl, rfl⟩ := hw
  have hP : va_P (gD g) zCl (wModel g q0 q1 q2 q3 q4 q5 q6 q7 q8 q9 q10 q11 q12 zo2.2.1 zo1.1 msav misS mpst mchg merr mfai zo2.2.2 minp minM mUp mcar mcam mahd magn mltr mbeg mcmd mcmM mpl msz mwr mlin mliM) H := hP
  have hD : va_D A (wModel g q0 q1 q2 q3 q4 q5 q6 q7 q8 q9 q10 q11 q12 zo2.2.1 zo1.1 msav misS mpst mchg merr mfai zo2.2.2 minp minM mUp mcar mcam mahd magn mltr mbeg mcmd mcmM mpl msz mwr mlin mliM) := hD
  refine lv_lstore (lv' := [(4, .long zo2.1), (0, .ref q0), (1, .int p1), (2, .int p2), (3, .int p3)]) hx hb dX11_feed_11 hl (by decide) rfl (fun ls hl => ?_)
  refine lv_aload_n hx hb dX11_feed_13 rfl (lv_at hl 1 rfl) ?_
  obtain ⟨zo3, hzo3, hF⟩ := z_bind hF
  refine z_callvE (fun (u : (Nat → Int64) × Int32) => (wModel g q0 q1 q2 q3 q4 q5 q6 q7 q8 q9 q10 q11 q12 zo2.2.1 zo1.1 msav misS u.1 u.2 merr mfai zo2.2.2 minp minM mUp mcar mcam mahd magn mltr mbeg mcmd mcmM mpl msz mwr mlin mliM)) (va_runV (As := []) (rest := []) ⟨hx, hb, hml, hown, hts⟩ (c_X11_ends l g q0 q1 q2 q3 q4 q5 q6 q7 q8 q9 q10 q11 q12 zo2.2.1 zo1.1 msav misS mpst mchg merr mfai zo2.2.2 minp minM mUp mcar mcam mahd magn mltr mbeg mcmd mcmM mpl msz mwr mlin mliM _ fu _ hzo3) (cwV 0 hts (gdV mU_1375 mU_1377 mU_34 mU_75 mU_1378) rfl rfl rfl (by decide +kernel) ⟨Nat.le_of_ble_eq_true rfl, Nat.le_of_ble_eq_true rfl⟩) ⟨z_blind _ _ _ _, va_recv hK hP (ci := 7) (q0 := 0) rfl rfl, fun U hU hW => z_preE hP hD hK hB hS hA hU hW⟩ rfl rfl hl.1 rfl (lv_room (Nat.le_of_ble_eq_true rfl)) dX11_feed_14 ⟨Nat.le_of_ble_eq_true rfl, Nat.le_of_ble_eq_true rfl⟩) hD hS hA (fun _ => rfl) (fun u H locs hw hP hD hS => ?_)
  subst hw
  have hP : va_P (gD g) zCl (wModel g q0 q1 q2 q3 q4 q5 q6 q7 q8 q9 q10 q11 q12 zo2.2.1 zo1.1 msav misS zo3.1 zo3.2 merr mfai zo2.2.2 minp minM mUp mcar mcam mahd magn mltr mbeg mcmd mcmM mpl msz mwr mlin mliM) H := hP
  have hD : va_D A (wModel g q0 q1 q2 q3 q4 q5 q6 q7 q8 q9 q10 q11 q12 zo2.2.1 zo1.1 msav misS zo3.1 zo3.2 merr mfai zo2.2.2 minp minM mUp mcar mcam mahd magn mltr mbeg mcmd mcmM mpl msz mwr mlin mliM) := hD
  refine lv_lload hx hb dX11_feed_17 (lv_at hl 0 rfl) ?_
  have ho := (Option.some.inj hF).symm
  exact W.lret (v := zo2.1) hx hb hr (fun t ht hW => ⟨⟨zo2.1, (zo2.2.1, zo1.1, zo3.1, zo3.2, zo2.2.2), rfl, ⟨by rw [ho], by rw [ho]⟩, z_end ht hP⟩, hS.F ht⟩) hS.2.2 dX11_feed_19
abbrev w_X11_tradeIt : List Cond := .code yX11_tradeIt cX11_tradeIt 9 (some .long) :: wU
abbrev r_X11_tradeIt : Room := { frames := 3, cells := 0, slots := 0, locals := 77 }
abbrev q_X11_tradeIt (g : GG) (q0 q1 q2 q3 q4 q5 q6 q7 q8 q9 q10 q11 q12 : Nat) (mm : Nat → Int64) (masd : Nat → Int64) (msav : Nat → Int64) (misS : Int32) (mpst : Nat → Int64) (mchg : Int32) (merr : Int32) (mfai : Int32) (mthr : Int32) (minp : Nat → Int32) (minM : Int32) (mUp : Nat → Int32) (mcar : Nat → Int32) (mcam : Nat → Int32) (mahd : Int32) (magn : Int32) (mltr : Nat → Int32) (mbeg : Nat → Int32) (mcmd : Nat → Int32) (mcmM : Int32) (mpl : Int32) (msz : Int32) (mwr : Int32) (mlin : Nat → Int32) (mliM : Int32) (o : Int64 × (Nat → Int64) × Int32) (A : Nat → Prop) := va_Ql (fun (r : Int64) (u : (Nat → Int64) × Int32) => o.1 = r ∧ o.2 = u) (fun u t => va_P (gD g) zCl (wModel g q0 q1 q2 q3 q4 q5 q6 q7 q8 q9 q10 q11 q12 u.1 masd msav misS mpst mchg merr mfai u.2 minp minM mUp mcar mcam mahd magn mltr mbeg mcmd mcmM mpl msz mwr mlin mliM) t.heap) A
set_option maxHeartbeats 4000000 in
set_option maxRecDepth 100000 in
theorem c_X11_tradeIt (l : Launch) (g : GG) (q0 q1 q2 q3 q4 q5 q6 q7 q8 q9 q10 q11 q12 : Nat) (mm : Nat → Int64) (masd : Nat → Int64) (msav : Nat → Int64) (misS : Int32) (mpst : Nat → Int64) (mchg : Int32) (merr : Int32) (mfai : Int32) (mthr : Int32) (minp : Nat → Int32) (minM : Int32) (mUp : Nat → Int32) (mcar : Nat → Int32) (mcam : Nat → Int32) (mahd : Int32) (magn : Int32) (mltr : Nat → Int32) (mbeg : Nat → Int32) (mcmd : Nat → Int32) (mcmM : Int32) (mpl : Int32) (msz : Int32) (mwr : Int32) (mlin : Nat → Int32) (mliM : Int32) (sz : Nat) (p1 : Int32) (p2 : Int32) (p3 : Int32) (p4 : Int32) (fu : Nat) (o : Int64 × (Nat → Int64) × Int32) (hF : F_X11_tradeIt fu mm mthr p1 p2 p3 p4 = some o) : Met l yX11_tradeIt w_X11_tradeIt r_X11_tradeIt (va_Pc [.ref q0, .int p1, .int p2, .int p3, .int p4] (zP g (wModel g q0 q1 q2 q3 q4 q5 q6 q7 q8 q9 q10 q11 q12 mm masd msav misS mpst mchg merr mfai mthr minp minM mUp mcar mcam mahd magn mltr mbeg mcmd mcmM mpl msz mwr mlin mliM) sz)) (q_X11_tradeIt g q0 q1 q2 q3 q4 q5 q6 q7 q8 q9 q10 q11 q12 mm masd msav misS mpst mchg merr mfai mthr minp minM mUp mcar mcam mahd magn mltr mbeg mcmd mcmM mpl msz mwr mlin mliM o (va_A (wModel g q0 q1 q2 q3 q4 q5 q6 q7 q8 q9 q10 q11 q12 mm masd msav misS mpst mchg merr mfai mthr minp minM mUp mcar mcam mahd magn mltr mbeg mcmd mcmM mpl msz mwr mlin mliM) sz)) 0 0 (va_A (wModel g q0 q1 q2 q3 q4 q5 q6 q7 q8 q9 q10 q11 q12 mm masd msav misS mpst mchg merr mfai mthr minp minM mUp mcar mcam mahd magn mltr mbeg mcmd mcmM mpl msz mwr mlin mliM) sz) := by
  refine Met.ofW (cc := cX11_tradeIt) (maxL := 9) (ret := (some .long)) (by decide) rfl ?_
  intro p e s m args below meth c s₁ B hml hv
  obtain ⟨rfl, rfl, hP, hK, hD0, hB⟩ := hv
  have hx := B.exec
  have hb := B.bytes
  have hr := B.returns
  have hts : ∀ w ∈ wU, w.before _ s = true := fun w h => atoms_spec (ws := w_X11_tradeIt) B.pre w (List.mem_cons_of_mem _ h)
  have hown : s.vm.findClass RX11 = some m.cls := findClass_of_methodNamed B.named
  have hlocks := B.notSynchronized
  have hD := hD0.self (sz := s.heap.size)
  generalize hAe : va_A (wModel g q0 q1 q2 q3 q4 q5 q6 q7 q8 q9 q10 q11 q12 mm masd msav misS mpst mchg merr mfai mthr minp minM mUp mcar mcam mahd magn mltr mbeg mcmd mcmM mpl msz mwr mlin mliM) s.heap.size = A at hD hB ⊢
  have hA : ∀ q : Nat, s.heap.size ≤ q → A q := fun q h => by rw [← hAe]; exact Or.inr h
  have hS : va_S A s.heap s.heap [] := va_S.rf
  have hl := lv_entry ([.ref q0, .int p1, .int p2, .int p3, .int p4]) (n := 9) (Nat.le_of_ble_eq_true rfl)
  rw [lg_entry_eq]
  generalize (lg_sl ([.ref q0, .int p1, .int p2, .int p3, .int p4]) ++ List.replicate (9 - (lg_sl ([.ref q0, .int p1, .int p2, .int p3, .int p4])).length) Slot.unset).toArray = ls at hl ⊢
  have hl : lv_has ls 9 [(0, .ref q0), (1, .int p1), (2, .int p2), (3, .int p3), (4, .int p4)] := hl
  unfold F_X11_tradeIt at hF
  refine lv_aload_n hx hb dX11_tradeIt_0 rfl (lv_at hl 0 rfl) ?_
  refine lv_iload_n hx hb dX11_tradeIt_1 rfl (lv_at hl 1 rfl) ?_
  obtain ⟨zo1, hzo1, hF⟩ := z_bind hF
  refine z_calliE (fun (_ : Unit) => (wModel g q0 q1 q2 q3 q4 q5 q6 q7 q8 q9 q10 q11 q12 mm masd msav misS mpst mchg merr mfai mthr minp minM mUp mcar mcam mahd magn mltr mbeg mcmd mcmM mpl msz mwr mlin mliM)) (va_runV (As := [.int p1]) (rest := []) ⟨hx, hb, hml, hown, hts⟩ (c_X11_find l g q0 q1 q2 q3 q4 q5 q6 q7 q8 q9 q10 q11 q12 mm masd msav misS mpst mchg merr mfai mthr minp minM mUp mcar mcam mahd magn mltr mbeg mcmd mcmM mpl msz mwr mlin mliM _ p1 fu _ hzo1) (cwV 1 hts (gdV mU_1400 mU_1402 mU_37 mU_75 mU_1403) rfl rfl rfl (by decide +kernel) ⟨Nat.le_of_ble_eq_true rfl, Nat.le_of_ble_eq_true rfl⟩) ⟨z_blind _ _ _ _, va_recv hK hP (ci := 7) (q0 := 0) rfl rfl, fun U hU hW => z_preE hP hD hK hB hS hA hU hW⟩ rfl rfl hl.1 rfl (lv_room (Nat.le_of_ble_eq_true rfl)) dX11_tradeIt_2 ⟨Nat.le_of_ble_eq_true rfl, Nat.le_of_ble_eq_true rfl⟩) hD hS hA (fun _ => rfl) (fun r u H locs hw hP hD hS => ?_)
  subst hw
  have hP : va_P (gD g) zCl (wModel g q0 q1 q2 q3 q4 q5 q6 q7 q8 q9 q10 q11 q12 mm masd msav misS mpst mchg merr mfai mthr minp minM mUp mcar mcam mahd magn mltr mbeg mcmd mcmM mpl msz mwr mlin mliM) H := hP
  have hD : va_D A (wModel g q0 q1 q2 q3 q4 q5 q6 q7 q8 q9 q10 q11 q12 mm masd msav misS mpst mchg merr mfai mthr minp minM mUp mcar mcam mahd magn mltr mbeg mcmd mcmM mpl msz mwr mlin mliM) := hD
  refine lv_istore (lv' := [(5, .int zo1), (0, .ref q0), (1, .int p1), (2, .int p2), (3, .int p3), (4, .int p4)]) hx hb dX11_tradeIt_5 hl (by decide) rfl (fun ls hl => ?_)
  refine lv_aload_n hx hb dX11_tradeIt_7 rfl (lv_at hl 1 rfl) ?_
  refine lv_iload_n hx hb dX11_tradeIt_8 rfl (lv_at hl 3 rfl) ?_
  obtain ⟨zo2, hzo2, hF⟩ := z_bind hF
  refine z_calliE (fun (_ : Unit) => (wModel g q0 q1 q2 q3 q4 q5 q6 q7 q8 q9 q10 q11 q12 mm masd msav misS mpst mchg merr mfai mthr minp minM mUp mcar mcam mahd magn mltr mbeg mcmd mcmM mpl msz mwr mlin mliM)) (va_runV (As := [.int p2]) (rest := []) ⟨hx, hb, hml, hown, hts⟩ (c_X11_find l g q0 q1 q2 q3 q4 q5 q6 q7 q8 q9 q10 q11 q12 mm masd msav misS mpst mchg merr mfai mthr minp minM mUp mcar mcam mahd magn mltr mbeg mcmd mcmM mpl msz mwr mlin mliM _ p2 fu _ hzo2) (cwV 1 hts (gdV mU_1400 mU_1402 mU_37 mU_75 mU_1403) rfl rfl rfl (by decide +kernel) ⟨Nat.le_of_ble_eq_true rfl, Nat.le_of_ble_eq_true rfl⟩) ⟨z_blind _ _ _ _, va_recv hK hP (ci := 7) (q0 := 0) rfl rfl, fun U hU hW => z_preE hP hD hK hB hS hA hU hW⟩ rfl rfl hl.1 rfl (lv_room (Nat.le_of_ble_eq_true rfl)) dX11_tradeIt_9 ⟨Nat.le_of_ble_eq_true rfl, Nat.le_of_ble_eq_true rfl⟩) hD hS hA (fun _ => rfl) (fun r u H locs hw hP hD hS => ?_)
  subst hw
  have hP : va_P (gD g) zCl (wModel g q0 q1 q2 q3 q4 q5 q6 q7 q8 q9 q10 q11 q12 mm masd msav misS mpst mchg merr mfai mthr minp minM mUp mcar mcam mahd magn mltr mbeg mcmd mcmM mpl msz mwr mlin mliM) H := hP
  have hD : va_D A (wModel g q0 q1 q2 q3 q4 q5 q6 q7 q8 q9 q10 q11 q12 mm masd msav misS mpst mchg merr mfai mthr minp minM mUp mcar mcam mahd magn mltr mbeg mcmd mcmM mpl msz mwr mlin mliM) := hD
  refine lv_istore (lv' := [(6, .int zo2), (5, .int zo1), (0, .ref q0), (1, .int p1), (2, .int p2), (3, .int p3), (4, .int p4)]) hx hb dX11_tradeIt_12 hl (by decide) rfl (fun ls hl => ?_)
  refine lv_iload hx hb dX11_tradeIt_14 (lv_at hl 1 rfl) ?_
  refine lv_iconst (v := (-1)) hx hb dX11_tradeIt_16 (by decide) ?_
  refine lv_icmp_eq (tgt := 26) hx hb dX11_tradeIt_17 (by decide) (fun zc3 => ?_) (fun zc3 => ?_)
  · have hF := z_pos hF zc3
    refine lv_aload_n hx hb dX11_tradeIt_26 rfl (lv_at hl 2 rfl) ?_
    refine lv_iconst (v := 1) hx hb dX11_tradeIt_27 (by decide) ?_
    obtain ⟨zo4, hzo4, hF⟩ := z_bind hF
    refine z_calliE (fun (u : Int32) => (wModel g q0 q1 q2 q3 q4 q5 q6 q7 q8 q9 q10 q11 q12 mm masd msav misS mpst mchg merr mfai u minp minM mUp mcar mcam mahd magn mltr mbeg mcmd mcmM mpl msz mwr mlin mliM)) (va_runV (As := [.int 1]) (rest := []) ⟨hx, hb, hml, hown, hts⟩ (c_X11_throwing l g q0 q1 q2 q3 q4 q5 q6 q7 q8 q9 q10 q11 q12 mm masd msav misS mpst mchg merr mfai mthr minp minM mUp mcar mcam mahd magn mltr mbeg mcmd mcmM mpl msz mwr mlin mliM _ 1 _ hzo4) (cwV 1 hts (gdV mU_1352 mU_1354 mU_31 mU_75 mU_1355) rfl rfl rfl (by decide +kernel) ⟨Nat.le_of_ble_eq_true rfl, Nat.le_of_ble_eq_true rfl⟩) ⟨z_blind _ _ _ _, va_recv hK hP (ci := 7) (q0 := 0) rfl rfl, fun U hU hW => z_preE hP hD hK hB hS hA hU hW⟩ rfl rfl hl.1 rfl (lv_room (Nat.le_of_ble_eq_true rfl)) dX11_tradeIt_28 ⟨Nat.le_of_ble_eq_true rfl, Nat.le_of_ble_eq_true rfl⟩) hD hS hA (fun _ => rfl) (fun r u H locs hw hP hD hS => ?_)
    obtain ⟨rfl, rfl⟩ := hw
    have hP : va_P (gD g) zCl (wModel g q0 q1 q2 q3 q4 q5 q6 q7 q8 q9 q10 q11 q12 mm masd msav misS mpst mchg merr mfai zo4.2 minp minM mUp mcar mcam mahd magn mltr mbeg mcmd mcmM mpl msz mwr mlin mliM) H := hP
    have hD : va_D A (wModel g q0 q1 q2 q3 q4 q5 q6 q7 q8 q9 q10 q11 q12 mm masd msav misS mpst mchg merr mfai zo4.2 minp minM mUp mcar mcam mahd magn mltr mbeg mcmd mcmM mpl msz mwr mlin mliM) := hD
    refine lv_i2l (v := (Int32.toInt64 zo4.1)) hx hb dX11_tradeIt_31 rfl ?_
    have ho := (Option.some.inj hF).symm
    exact W.lret (v := (Int32.toInt64 zo4.1)) hx hb hr (fun t ht hW => ⟨⟨(Int32.toInt64 zo4.1), (mm, zo4.2), rfl, ⟨by rw [ho], by rw [ho]⟩, z_end ht hP⟩, hS.F ht⟩) hS.2.2 dX11_tradeIt_32
  · have hF := z_neg hF zc3
    refine lv_iload hx hb dX11_tradeIt_20 (lv_at hl 0 rfl) ?_
    refine lv_iconst (v := (-1)) hx hb dX11_tradeIt_22 (by decide) ?_
    refine lv_icmp_ne (tgt := 33) hx hb dX11_tradeIt_23 (by decide) (fun zc5 => ?_) (fun zc5 => ?_)
    · have hF := z_neg hF zc5
      refine lv_iload hx hb dX11_tradeIt_33 (lv_at hl 1 rfl) ?_
      refine lv_iload hx hb dX11_tradeIt_35 (lv_at hl 0 rfl) ?_
      refine lv_icmp_eq (tgt := 49) hx hb dX11_tradeIt_37 (by decide) (fun zc6 => ?_) (fun zc6 => ?_)
      · have hF := z_pos hF zc6
        refine lv_aload_n hx hb dX11_tradeIt_49 rfl (lv_at hl 2 rfl) ?_
        refine lv_iconst (v := 2) hx hb dX11_tradeIt_50 (by decide) ?_
        obtain ⟨zo7, hzo7, hF⟩ := z_bind hF
        refine z_calliE (fun (u : Int32) => (wModel g q0 q1 q2 q3 q4 q5 q6 q7 q8 q9 q10 q11 q12 mm masd msav misS mpst mchg merr mfai u minp minM mUp mcar mcam mahd magn mltr mbeg mcmd mcmM mpl msz mwr mlin mliM)) (va_runV (As := [.int 2]) (rest := []) ⟨hx, hb, hml, hown, hts⟩ (c_X11_throwing l g q0 q1 q2 q3 q4 q5 q6 q7 q8 q9 q10 q11 q12 mm masd msav misS mpst mchg merr mfai mthr minp minM mUp mcar mcam mahd magn mltr mbeg mcmd mcmM mpl msz mwr mlin mliM _ 2 _ hzo7) (cwV 1 hts (gdV mU_1352 mU_1354 mU_31 mU_75 mU_1355) rfl rfl rfl (by decide +kernel) ⟨Nat.le_of_ble_eq_true rfl, Nat.le_of_ble_eq_true rfl⟩) ⟨z_blind _ _ _ _, va_recv hK hP (ci := 7) (q0 := 0) rfl rfl, fun U hU hW => z_preE hP hD hK hB hS hA hU hW⟩ rfl rfl hl.1 rfl (lv_room (Nat.le_of_ble_eq_true rfl)) dX11_tradeIt_51 ⟨Nat.le_of_ble_eq_true rfl, Nat.le_of_ble_eq_true rfl⟩) hD hS hA (fun _ => rfl) (fun r u H locs hw hP hD hS => ?_)
        obtain ⟨rfl, rfl⟩ := hw
        have hP : va_P (gD g) zCl (wModel g q0 q1 q2 q3 q4 q5 q6 q7 q8 q9 q10 q11 q12 mm masd msav misS mpst mchg merr mfai zo7.2 minp minM mUp mcar mcam mahd magn mltr mbeg mcmd mcmM mpl msz mwr mlin mliM) H := hP
        have hD : va_D A (wModel g q0 q1 q2 q3 q4 q5 q6 q7 q8 q9 q10 q11 q12 mm masd msav misS mpst mchg merr mfai zo7.2 minp minM mUp mcar mcam mahd magn mltr mbeg mcmd mcmM mpl msz mwr mlin mliM) := hD
        refine lv_i2l (v := (Int32.toInt64 zo7.1)) hx hb dX11_tradeIt_54 rfl ?_
        have ho := (Option.some.inj hF).symm
        exact W.lret (v := (Int32.toInt64 zo7.1)) hx hb hr (fun t ht hW => ⟨⟨(Int32.toInt64 zo7.1), (mm, zo7.2), rfl, ⟨by rw [ho], by rw [ho]⟩, z_end ht hP⟩, hS.F ht⟩) hS.2.2 dX11_tradeIt_55
      · have hF := z_neg hF zc6
        refine lv_iload_n hx hb dX11_tradeIt_40 rfl (lv_at hl 5 rfl) ?_
        refine lv_iload hx hb dX11_tradeIt_41 (lv_at hl 6 rfl) ?_
        obtain ⟨zo8, hzo8, hF⟩ := z_bind hF
        refine z_calli (fun (_ : Unit) => []) [] (va_runS (As := [.int p3, .int p4]) (rest := []) ⟨hx, hb, hml, hown, hts⟩ (c_X11_isAmount l g _ p3 p4 _ hzo8) (va_cwS 2 hts (gdS mU_1337 mU_1338 mU_75 mU_1339) rfl rfl rfl (by decide +kernel) ⟨Nat.le_of_ble_eq_true rfl, Nat.le_of_ble_eq_true rfl⟩) ⟨z_blind _ _ _ _, fun U hU hW => z_pre [] hP hD hK hB hS hA rfl rfl hU hW⟩ rfl rfl hl.1 rfl (lv_room (Nat.le_of_ble_eq_true rfl)) dX11_tradeIt_43 ⟨Nat.le_of_ble_eq_true rfl, Nat.le_of_ble_eq_true rfl⟩) hP hD hS hA rfl (fun _ => rfl) (fun r u H locs hw hP hD hS => ?_)
        subst hw
        have hP : va_P (gD g) zCl (wModel g q0 q1 q2 q3 q4 q5 q6 q7 q8 q9 q10 q11 q12 mm masd msav misS mpst mchg merr mfai mthr minp minM mUp mcar mcam mahd magn mltr mbeg mcmd mcmM mpl msz mwr mlin mliM) H := hP
        have hD : va_D A (wModel g q0 q1 q2 q3 q4 q5 q6 q7 q8 q9 q10 q11 q12 mm masd msav misS mpst mchg merr mfai mthr minp minM mUp mcar mcam mahd magn mltr mbeg mcmd mcmM mpl msz mwr mlin mliM) := hD
        refine lv_if_ne (tgt := 56) hx hb dX11_tradeIt_46 (by decide) (fun zc9 => ?_) (fun zc9 => ?_)
        · have hF := z_neg hF zc9
          refine lv_iload_n hx hb dX11_tradeIt_56 rfl (lv_at hl 5 rfl) ?_
          refine lv_iload hx hb dX11_tradeIt_57 (lv_at hl 6 rfl) ?_
          obtain ⟨zo10, hzo10, hF⟩ := z_bind hF
          refine z_calll (fun (_ : Unit) => []) [] (va_runS (As := [.int p3, .int p4]) (rest := []) ⟨hx, hb, hml, hown, hts⟩ (c_X11_units l g _ p3 p4 _ hzo10) (va_cwS 2 hts (gdS mU_1360 mU_1361 mU_75 mU_1362) rfl rfl rfl (by decide +kernel) ⟨Nat.le_of_ble_eq_true rfl, Nat.le_of_ble_eq_true rfl⟩) ⟨z_blind _ _ _ _, fun U hU hW => z_pre [] hP hD hK hB hS hA rfl rfl hU hW⟩ rfl rfl hl.1 rfl (lv_room (Nat.le_of_ble_eq_true rfl)) dX11_tradeIt_59 ⟨Nat.le_of_ble_eq_true rfl, Nat.le_of_ble_eq_true rfl⟩) hP hD hS hA rfl (fun _ => rfl) (fun r u H locs hw hP hD hS => ?_)
          subst hw
          have hP : va_P (gD g) zCl (wModel g q0 q1 q2 q3 q4 q5 q6 q7 q8 q9 q10 q11 q12 mm masd msav misS mpst mchg merr mfai mthr minp minM mUp mcar mcam mahd magn mltr mbeg mcmd mcmM mpl msz mwr mlin mliM) H := hP
          have hD : va_D A (wModel g q0 q1 q2 q3 q4 q5 q6 q7 q8 q9 q10 q11 q12 mm masd msav misS mpst mchg merr mfai mthr minp minM mUp mcar mcam mahd magn mltr mbeg mcmd mcmM mpl msz mwr mlin mliM) := hD
          refine lv_lstore (lv' := [(7, .long zo10), (6, .int zo2), (5, .int zo1), (0, .ref q0), (1, .int p1), (2, .int p2), (3, .int p3), (4, .int p4)]) hx hb dX11_tradeIt_62 hl (by decide) rfl (fun ls hl => ?_)
          refine lv_aload_n hx hb dX11_tradeIt_64 rfl (lv_at hl 3 rfl) ?_
          refine va_get (D := gD g) (ci := 7) (v := .ref q1) (C := RX11) (T := TX11) (N := 25) hx hb hts inX11 hown hK hP 0 rfl rfl 0 (by decide) (hts _ mU_1244) (fun _ h9 => h9) rfl dX11_tradeIt_65 ?_
          refine lv_iload hx hb dX11_tradeIt_68 (lv_at hl 2 rfl) ?_
          obtain ⟨zo11, hzo11, hF⟩ := z_bind hF
          refine z_calli (fun (_ : Unit) => []) [] (va_runS (As := [.int zo1]) (rest := [.ref q1]) ⟨hx, hb, hml, hown, hts⟩ (c_X11_at l g _ zo1 _ hzo11) (va_cwS 1 hts (gdS mU_1372 mU_1373 mU_75 mU_1374) rfl rfl rfl (by decide +kernel) ⟨Nat.le_of_ble_eq_true rfl, Nat.le_of_ble_eq_true rfl⟩) ⟨z_blind _ _ _ _, fun U hU hW => z_pre [] hP hD hK hB hS hA rfl rfl hU hW⟩ rfl rfl hl.1 rfl (lv_room (Nat.le_of_ble_eq_true rfl)) dX11_tradeIt_70 ⟨Nat.le_of_ble_eq_true rfl, Nat.le_of_ble_eq_true rfl⟩) hP hD hS hA rfl (fun _ => rfl) (fun r u H locs hw hP hD hS => ?_)
          subst hw
          have hP : va_P (gD g) zCl (wModel g q0 q1 q2 q3 q4 q5 q6 q7 q8 q9 q10 q11 q12 mm masd msav misS mpst mchg merr mfai mthr minp minM mUp mcar mcam mahd magn mltr mbeg mcmd mcmM mpl msz mwr mlin mliM) H := hP
          have hD : va_D A (wModel g q0 q1 q2 q3 q4 q5 q6 q7 q8 q9 q10 q11 q12 mm masd msav misS mpst mchg merr mfai mthr minp minM mUp mcar mcam mahd magn mltr mbeg mcmd mcmM mpl msz mwr mlin mliM) := hD
          refine lv_iconst (v := 1) hx hb dX11_tradeIt_73 (by decide) ?_
          refine lv_iadd hx hb dX11_tradeIt_74 ?_
          obtain ⟨zg12, hF⟩ := z_grd hF
          refine va_lald hx hb hK hP 1 2 rfl rfl zg12 dX11_tradeIt_75 ?_
          refine lv_lload hx hb dX11_tradeIt_76 (lv_at hl 0 rfl) ?_
          refine z_lcmp_ge (tgt := 89) hx hb dX11_tradeIt_78 dX11_tradeIt_79 (by decide) (fun zc13 => ?_) (fun zc13 => ?_)
          · have hF := z_neg hF zc13
            refine lv_lload hx hb dX11_tradeIt_89 (lv_at hl 0 rfl) ?_
            refine lv_aload_n hx hb dX11_tradeIt_91 rfl (lv_at hl 3 rfl) ?_
            refine va_get (D := gD g) (ci := 7) (v := .ref q1) (C := RX11) (T := TX11) (N := 25) hx hb hts inX11 hown hK hP 0 rfl rfl 0 (by decide) (hts _ mU_1244) (fun _ h9 => h9) rfl dX11_tradeIt_92 ?_
            refine lv_iload hx hb dX11_tradeIt_95 (lv_at hl 2 rfl) ?_
            obtain ⟨zo14, hzo14, hF⟩ := z_bind hF
            refine z_calli (fun (_ : Unit) => []) [] (va_runS (As := [.int zo1]) (rest := [.ref q1, .long zo10]) ⟨hx, hb, hml, hown, hts⟩ (c_X11_at l g _ zo1 _ hzo14) (va_cwS 1 hts (gdS mU_1372 mU_1373 mU_75 mU_1374) rfl rfl rfl (by decide +kernel) ⟨Nat.le_of_ble_eq_true rfl, Nat.le_of_ble_eq_true rfl⟩) ⟨z_blind _ _ _ _, fun U hU hW => z_pre [] hP hD hK hB hS hA rfl rfl hU hW⟩ rfl rfl hl.1 rfl (lv_room (Nat.le_of_ble_eq_true rfl)) dX11_tradeIt_97 ⟨Nat.le_of_ble_eq_true rfl, Nat.le_of_ble_eq_true rfl⟩) hP hD hS hA rfl (fun _ => rfl) (fun r u H locs hw hP hD hS => ?_)
            subst hw
            have hP : va_P (gD g) zCl (wModel g q0 q1 q2 q3 q4 q5 q6 q7 q8 q9 q10 q11 q12 mm masd msav misS mpst mchg merr mfai mthr minp minM mUp mcar mcam mahd magn mltr mbeg mcmd mcmM mpl msz mwr mlin mliM) H := hP
            have hD : va_D A (wModel g q0 q1 q2 q3 q4 q5 q6 q7 q8 q9 q10 q11 q12 mm masd msav misS mpst mchg merr mfai mthr minp minM mUp mcar mcam mahd magn mltr mbeg mcmd mcmM mpl msz mwr mlin mliM) := hD
            refine lv_iconst (v := 2) hx hb dX11_tradeIt_100 (by decide) ?_
            refine lv_iadd hx hb dX11_tradeIt_101 ?_
            obtain ⟨zg15, hF⟩ := z_grd hF
            refine va_lald hx hb hK hP 1 2 rfl rfl zg15 dX11_tradeIt_102 ?_
            refine lv_l2i (v := (Int64.toInt32 (mm (Int32.toNatClampNeg (zo14 + 2))))) hx hb dX11_tradeIt_103 rfl ?_
            obtain ⟨zo16, hzo16, hF⟩ := z_bind hF
            refine z_calll (fun (_ : Unit) => []) [] (va_runS (As := [.int (Int64.toInt32 (mm (Int32.toNatClampNeg (zo14 + 2))))]) (rest := [.long zo10]) ⟨hx, hb, hml, hown, hts⟩ (c_X11_step l g _ (Int64.toInt32 (mm (Int32.toNatClampNeg (zo14 + 2)))) fu _ hzo16) (va_cwS 1 hts (gdS mU_1364 mU_1365 mU_75 mU_1366) rfl rfl rfl (by decide +kernel) ⟨Nat.le_of_ble_eq_true rfl, Nat.le_of_ble_eq_true rfl⟩) ⟨z_blind _ _ _ _, fun U hU hW => z_pre [] hP hD hK hB hS hA rfl rfl hU hW⟩ rfl rfl hl.1 rfl (lv_room (Nat.le_of_ble_eq_true rfl)) dX11_tradeIt_104 ⟨Nat.le_of_ble_eq_true rfl, Nat.le_of_ble_eq_true rfl⟩) hP hD hS hA rfl (fun _ => rfl) (fun r u H locs hw hP hD hS => ?_)
            subst hw
            have hP : va_P (gD g) zCl (wModel g q0 q1 q2 q3 q4 q5 q6 q7 q8 q9 q10 q11 q12 mm masd msav misS mpst mchg merr mfai mthr minp minM mUp mcar mcam mahd magn mltr mbeg mcmd mcmM mpl msz mwr mlin mliM) H := hP
            have hD : va_D A (wModel g q0 q1 q2 q3 q4 q5 q6 q7 q8 q9 q10 q11 q12 mm masd msav misS mpst mchg merr mfai mthr minp minM mUp mcar mcam mahd magn mltr mbeg mcmd mcmM mpl msz mwr mlin mliM) := hD
            obtain ⟨zg17, hF⟩ := z_grd hF
            refine lv_lrem hx hb dX11_tradeIt_107 zg17 ?_
            refine lv_lconst (v := 0) hx hb dX11_tradeIt_108 (by decide) ?_
            refine z_lcmp_le (tgt := 120) hx hb dX11_tradeIt_109 dX11_tradeIt_110 (by decide) (fun zc18 => ?_) (fun zc18 => ?_)
            · have hF := z_neg hF zc18
              refine lv_aload_n hx hb dX11_tradeIt_120 rfl (lv_at hl 3 rfl) ?_
              refine va_get (D := gD g) (ci := 7) (v := .ref q1) (C := RX11) (T := TX11) (N := 25) hx hb hts inX11 hown hK hP 0 rfl rfl 0 (by decide) (hts _ mU_1244) (fun _ h9 => h9) rfl dX11_tradeIt_121 ?_
              refine lv_iload hx hb dX11_tradeIt_124 (lv_at hl 2 rfl) ?_
              obtain ⟨zo19, hzo19, hF⟩ := z_bind hF
              refine z_calli (fun (_ : Unit) => []) [] (va_runS (As := [.int zo1]) (rest := [.ref q1]) ⟨hx, hb, hml, hown, hts⟩ (c_X11_at l g _ zo1 _ hzo19) (va_cwS 1 hts (gdS mU_1372 mU_1373 mU_75 mU_1374) rfl rfl rfl (by decide +kernel) ⟨Nat.le_of_ble_eq_true rfl, Nat.le_of_ble_eq_true rfl⟩) ⟨z_blind _ _ _ _, fun U hU hW => z_pre [] hP hD hK hB hS hA rfl rfl hU hW⟩ rfl rfl hl.1 rfl (lv_room (Nat.le_of_ble_eq_true rfl)) dX11_tradeIt_126 ⟨Nat.le_of_ble_eq_true rfl, Nat.le_of_ble_eq_true rfl⟩) hP hD hS hA rfl (fun _ => rfl) (fun r u H locs hw hP hD hS => ?_)
              subst hw
              have hP : va_P (gD g) zCl (wModel g q0 q1 q2 q3 q4 q5 q6 q7 q8 q9 q10 q11 q12 mm masd msav misS mpst mchg merr mfai mthr minp minM mUp mcar mcam mahd magn mltr mbeg mcmd mcmM mpl msz mwr mlin mliM) H := hP
              have hD : va_D A (wModel g q0 q1 q2 q3 q4 q5 q6 q7 q8 q9 q10 q11 q12 mm masd msav misS mpst mchg merr mfai mthr minp minM mUp mcar mcam mahd magn mltr mbeg mcmd mcmM mpl msz mwr mlin mliM) := hD
              refine lv_iconst (v := 1) hx hb dX11_tradeIt_129 (by decide) ?_
              refine lv_iadd hx hb dX11_tradeIt_130 ?_
              refine lv_dup2_11 hx hb dX11_tradeIt_131 rfl rfl ?_
              obtain ⟨zg20, hF⟩ := z_grd hF
              refine va_lald hx hb hK hP 1 2 rfl rfl zg20 dX11_tradeIt_132 ?_
              refine lv_lload hx hb dX11_tradeIt_133 (lv_at hl 0 rfl) ?_
              refine lv_lsub hx hb dX11_tradeIt_135 ?_
              obtain ⟨zg21, hF⟩ := z_grd hF
              refine va_last hx hb hK hP hD hS 1 2 rfl rfl zg21 dX11_tradeIt_136 (fun H locs hP hD hS => ?_)
              have hP : va_P (gD g) zCl (wModel g q0 q1 q2 q3 q4 q5 q6 q7 q8 q9 q10 q11 q12 (vp_updL mm (Int32.toNatClampNeg (zo19 + 1)) ((mm (Int32.toNatClampNeg (zo19 + 1))) - zo10)) masd msav misS mpst mchg merr mfai mthr minp minM mUp mcar mcam mahd magn mltr mbeg mcmd mcmM mpl msz mwr mlin mliM) H := hP
              have hD : va_D A (wModel g q0 q1 q2 q3 q4 q5 q6 q7 q8 q9 q10 q11 q12 (vp_updL mm (Int32.toNatClampNeg (zo19 + 1)) ((mm (Int32.toNatClampNeg (zo19 + 1))) - zo10)) masd msav misS mpst mchg merr mfai mthr minp minM mUp mcar mcam mahd magn mltr mbeg mcmd mcmM mpl msz mwr mlin mliM) := hD
              refine lv_aload_n hx hb dX11_tradeIt_137 rfl (lv_at hl 3 rfl) ?_
              refine lv_iload hx hb dX11_tradeIt_138 (lv_at hl 1 rfl) ?_
              refine lv_aload_n hx hb dX11_tradeIt_140 rfl (lv_at hl 3 rfl) ?_
              refine va_get (D := gD g) (ci := 7) (v := .ref q1) (C := RX11) (T := TX11) (N := 25) hx hb hts inX11 hown hK hP 0 rfl rfl 0 (by decide) (hts _ mU_1244) (fun _ h9 => h9) rfl dX11_tradeIt_141 ?_
              refine lv_iload hx hb dX11_tradeIt_144 (lv_at hl 1 rfl) ?_
              obtain ⟨zo22, hzo22, hF⟩ := z_bind hF
              refine z_calli (fun (_ : Unit) => []) [] (va_runS (As := [.int zo2]) (rest := [.ref q1, .int zo2, .ref q0]) ⟨hx, hb, hml, hown, hts⟩ (c_X11_at l g _ zo2 _ hzo22) (va_cwS 1 hts (gdS mU_1372 mU_1373 mU_75 mU_1374) rfl rfl rfl (by decide +kernel) ⟨Nat.le_of_ble_eq_true rfl, Nat.le_of_ble_eq_true rfl⟩) ⟨z_blind _ _ _ _, fun U hU hW => z_pre [] hP hD hK hB hS hA rfl rfl hU hW⟩ rfl rfl hl.1 rfl (lv_room (Nat.le_of_ble_eq_true rfl)) dX11_tradeIt_146 ⟨Nat.le_of_ble_eq_true rfl, Nat.le_of_ble_eq_true rfl⟩) hP hD hS hA rfl (fun _ => rfl) (fun r u H locs hw hP hD hS => ?_)
              subst hw
              have hP : va_P (gD g) zCl (wModel g q0 q1 q2 q3 q4 q5 q6 q7 q8 q9 q10 q11 q12 (vp_updL mm (Int32.toNatClampNeg (zo19 + 1)) ((mm (Int32.toNatClampNeg (zo19 + 1))) - zo10)) masd msav misS mpst mchg merr mfai mthr minp minM mUp mcar mcam mahd magn mltr mbeg mcmd mcmM mpl msz mwr mlin mliM) H := hP
              have hD : va_D A (wModel g q0 q1 q2 q3 q4 q5 q6 q7 q8 q9 q10 q11 q12 (vp_updL mm (Int32.toNatClampNeg (zo19 + 1)) ((mm (Int32.toNatClampNeg (zo19 + 1))) - zo10)) masd msav misS mpst mchg merr mfai mthr minp minM mUp mcar mcam mahd magn mltr mbeg mcmd mcmM mpl msz mwr mlin mliM) := hD
              refine lv_iconst (v := 1) hx hb dX11_tradeIt_149 (by decide) ?_
              refine lv_iadd hx hb dX11_tradeIt_150 ?_
              obtain ⟨zg23, hF⟩ := z_grd hF
              refine va_lald hx hb hK hP 1 2 rfl rfl zg23 dX11_tradeIt_151 ?_
              refine lv_lload hx hb dX11_tradeIt_152 (lv_at hl 0 rfl) ?_
              refine lv_ladd hx hb dX11_tradeIt_154 ?_
              obtain ⟨zo24, hzo24, hF⟩ := z_bind hF
              refine z_callvE (fun (u : (Nat → Int64)) => (wModel g q0 q1 q2 q3 q4 q5 q6 q7 q8 q9 q10 q11 q12 u masd msav misS mpst mchg merr mfai mthr minp minM mUp mcar mcam mahd magn mltr mbeg mcmd mcmM mpl msz mwr mlin mliM)) (va_runV (As := [.int zo2, .long (((vp_updL mm (Int32.toNatClampNeg (zo19 + 1)) ((mm (Int32.toNatClampNeg (zo19 + 1))) - zo10)) (Int32.toNatClampNeg (zo22 + 1))) + zo10)]) (rest := []) ⟨hx, hb, hml, hown, hts⟩ (c_X11_becomes l g q0 q1 q2 q3 q4 q5 q6 q7 q8 q9 q10 q11 q12 (vp_updL mm (Int32.toNatClampNeg (zo19 + 1)) ((mm (Int32.toNatClampNeg (zo19 + 1))) - zo10)) masd msav misS mpst mchg merr mfai mthr minp minM mUp mcar mcam mahd magn mltr mbeg mcmd mcmM mpl msz mwr mlin mliM _ zo2 (((vp_updL mm (Int32.toNatClampNeg (zo19 + 1)) ((mm (Int32.toNatClampNeg (zo19 + 1))) - zo10)) (Int32.toNatClampNeg (zo22 + 1))) + zo10) fu _ hzo24) (cwV 2 hts (gdV mU_1412 mU_1414 mU_39 mU_75 mU_1415) rfl rfl rfl (by decide +kernel) ⟨Nat.le_of_ble_eq_true rfl, Nat.le_of_ble_eq_true rfl⟩) ⟨z_blind _ _ _ _, va_recv hK hP (ci := 7) (q0 := 0) rfl rfl, fun U hU hW => z_preE hP hD hK hB hS hA hU hW⟩ rfl rfl hl.1 rfl (lv_room (Nat.le_of_ble_eq_true rfl)) dX11_tradeIt_155 ⟨Nat.le_of_ble_eq_true rfl, Nat.le_of_ble_eq_true rfl⟩) hD hS hA (fun _ => rfl) (fun u H locs hw hP hD hS => ?_)
              subst hw
              have hP : va_P (gD g) zCl (wModel g q0 q1 q2 q3 q4 q5 q6 q7 q8 q9 q10 q11 q12 zo24 masd msav misS mpst mchg merr mfai mthr minp minM mUp mcar mcam mahd magn mltr mbeg mcmd mcmM mpl msz mwr mlin mliM) H := hP
              have hD : va_D A (wModel g q0 q1 q2 q3 q4 q5 q6 q7 q8 q9 q10 q11 q12 zo24 masd msav misS mpst mchg merr mfai mthr minp minM mUp mcar mcam mahd magn mltr mbeg mcmd mcmM mpl msz mwr mlin mliM) := hD
              refine lv_aload_n hx hb dX11_tradeIt_158 rfl (lv_at hl 3 rfl) ?_
              refine va_get (D := gD g) (ci := 7) (v := .ref q1) (C := RX11) (T := TX11) (N := 25) hx hb hts inX11 hown hK hP 0 rfl rfl 0 (by decide) (hts _ mU_1244) (fun _ h9 => h9) rfl dX11_tradeIt_159 ?_
              refine lv_iload hx hb dX11_tradeIt_162 (lv_at hl 1 rfl) ?_
              obtain ⟨zo25, hzo25, hF⟩ := z_bind hF
              refine z_calli (fun (_ : Unit) => []) [] (va_runS (As := [.int zo2]) (rest := [.ref q1]) ⟨hx, hb, hml, hown, hts⟩ (c_X11_at l g _ zo2 _ hzo25) (va_cwS 1 hts (gdS mU_1372 mU_1373 mU_75 mU_1374) rfl rfl rfl (by decide +kernel) ⟨Nat.le_of_ble_eq_true rfl, Nat.le_of_ble_eq_true rfl⟩) ⟨z_blind _ _ _ _, fun U hU hW => z_pre [] hP hD hK hB hS hA rfl rfl hU hW⟩ rfl rfl hl.1 rfl (lv_room (Nat.le_of_ble_eq_true rfl)) dX11_tradeIt_164 ⟨Nat.le_of_ble_eq_true rfl, Nat.le_of_ble_eq_true rfl⟩) hP hD hS hA rfl (fun _ => rfl) (fun r u H locs hw hP hD hS => ?_)
              subst hw
              have hP : va_P (gD g) zCl (wModel g q0 q1 q2 q3 q4 q5 q6 q7 q8 q9 q10 q11 q12 zo24 masd msav misS mpst mchg merr mfai mthr minp minM mUp mcar mcam mahd magn mltr mbeg mcmd mcmM mpl msz mwr mlin mliM) H := hP
              have hD : va_D A (wModel g q0 q1 q2 q3 q4 q5 q6 q7 q8 q9 q10 q11 q12 zo24 masd msav misS mpst mchg merr mfai mthr minp minM mUp mcar mcam mahd magn mltr mbeg mcmd mcmM mpl msz mwr mlin mliM) := hD
              refine lv_iconst (v := 1) hx hb dX11_tradeIt_167 (by decide) ?_
              refine lv_iadd hx hb dX11_tradeIt_168 ?_
              obtain ⟨zg26, hF⟩ := z_grd hF
              refine va_lald hx hb hK hP 1 2 rfl rfl zg26 dX11_tradeIt_169 ?_
              have ho := (Option.some.inj hF).symm
              exact W.lret (v := (zo24 (Int32.toNatClampNeg (zo25 + 1)))) hx hb hr (fun t ht hW => ⟨⟨(zo24 (Int32.toNatClampNeg (zo25 + 1))), (zo24, mthr), rfl, ⟨by rw [ho], by rw [ho]⟩, z_end ht hP⟩, hS.F ht⟩) hS.2.2 dX11_tradeIt_170
            · have hF := z_pos hF zc18
              refine lv_aload_n hx hb dX11_tradeIt_113 rfl (lv_at hl 3 rfl) ?_
              refine lv_iconst (v := 4) hx hb dX11_tradeIt_114 (by decide) ?_
              obtain ⟨zo27, hzo27, hF⟩ := z_bind hF
              refine z_calliE (fun (u : Int32) => (wModel g q0 q1 q2 q3 q4 q5 q6 q7 q8 q9 q10 q11 q12 mm masd msav misS mpst mchg merr mfai u minp minM mUp mcar mcam mahd magn mltr mbeg mcmd mcmM mpl msz mwr mlin mliM)) (va_runV (As := [.int 4]) (rest := []) ⟨hx, hb, hml, hown, hts⟩ (c_X11_throwing l g q0 q1 q2 q3 q4 q5 q6 q7 q8 q9 q10 q11 q12 mm masd msav misS mpst mchg merr mfai mthr minp minM mUp mcar mcam mahd magn mltr mbeg mcmd mcmM mpl msz mwr mlin mliM _ 4 _ hzo27) (cwV 1 hts (gdV mU_1352 mU_1354 mU_31 mU_75 mU_1355) rfl rfl rfl (by decide +kernel) ⟨Nat.le_of_ble_eq_true rfl, Nat.le_of_ble_eq_true rfl⟩) ⟨z_blind _ _ _ _, va_recv hK hP (ci := 7) (q0 := 0) rfl rfl, fun U hU hW => z_preE hP hD hK hB hS hA hU hW⟩ rfl rfl hl.1 rfl (lv_room (Nat.le_of_ble_eq_true rfl)) dX11_tradeIt_115 ⟨Nat.le_of_ble_eq_true rfl, Nat.le_of_ble_eq_true rfl⟩) hD hS hA (fun _ => rfl) (fun r u H locs hw hP hD hS => ?_)
              obtain ⟨rfl, rfl⟩ := hw
              have hP : va_P (gD g) zCl (wModel g q0 q1 q2 q3 q4 q5 q6 q7 q8 q9 q10 q11 q12 mm masd msav misS mpst mchg merr mfai zo27.2 minp minM mUp mcar mcam mahd magn mltr mbeg mcmd mcmM mpl msz mwr mlin mliM) H := hP
              have hD : va_D A (wModel g q0 q1 q2 q3 q4 q5 q6 q7 q8 q9 q10 q11 q12 mm masd msav misS mpst mchg merr mfai zo27.2 minp minM mUp mcar mcam mahd magn mltr mbeg mcmd mcmM mpl msz mwr mlin mliM) := hD
              refine lv_i2l (v := (Int32.toInt64 zo27.1)) hx hb dX11_tradeIt_118 rfl ?_
              have ho := (Option.some.inj hF).symm
              exact W.lret (v := (Int32.toInt64 zo27.1)) hx hb hr (fun t ht hW => ⟨⟨(Int32.toInt64 zo27.1), (mm, zo27.2), rfl, ⟨by rw [ho], by rw [ho]⟩, z_end ht hP⟩, hS.F ht⟩) hS.2.2 dX11_tradeIt_119
          · have hF := z_pos hF zc13
            refine lv_aload_n hx hb dX11_tradeIt_82 rfl (lv_at hl 3 rfl) ?_
            refine lv_iconst (v := 3) hx hb dX11_tradeIt_83 (by decide) ?_
            obtain ⟨zo28, hzo28, hF⟩ := z_bind hF
            refine z_calliE (fun (u : Int32) => (wModel g q0 q1 q2 q3 q4 q5 q6 q7 q8 q9 q10 q11 q12 mm masd msav misS mpst mchg merr mfai u minp minM mUp mcar mcam mahd magn mltr mbeg mcmd mcmM mpl msz mwr mlin mliM)) (va_runV (As := [.int 3]) (rest := []) ⟨hx, hb, hml, hown, hts⟩ (c_X11_throwing l g q0 q1 q2 q3 q4 q5 q6 q7 q8 q9 q10 q11 q12 mm masd msav misS mpst mchg merr mfai mthr minp minM mUp mcar mcam mahd magn mltr mbeg mcmd mcmM mpl msz mwr mlin mliM _ 3 _ hzo28) (cwV 1 hts (gdV mU_1352 mU_1354 mU_31 mU_75 mU_1355) rfl rfl rfl (by decide +kernel) ⟨Nat.le_of_ble_eq_true rfl, Nat.le_of_ble_eq_true rfl⟩) ⟨z_blind _ _ _ _, va_recv hK hP (ci := 7) (q0 := 0) rfl rfl, fun U hU hW => z_preE hP hD hK hB hS hA hU hW⟩ rfl rfl hl.1 rfl (lv_room (Nat.le_of_ble_eq_true rfl)) dX11_tradeIt_84 ⟨Nat.le_of_ble_eq_true rfl, Nat.le_of_ble_eq_true rfl⟩) hD hS hA (fun _ => rfl) (fun r u H locs hw hP hD hS => ?_)
            obtain ⟨rfl, rfl⟩ := hw
            have hP : va_P (gD g) zCl (wModel g q0 q1 q2 q3 q4 q5 q6 q7 q8 q9 q10 q11 q12 mm masd msav misS mpst mchg merr mfai zo28.2 minp minM mUp mcar mcam mahd magn mltr mbeg mcmd mcmM mpl msz mwr mlin mliM) H := hP
            have hD : va_D A (wModel g q0 q1 q2 q3 q4 q5 q6 q7 q8 q9 q10 q11 q12 mm masd msav misS mpst mchg merr mfai zo28.2 minp minM mUp mcar mcam mahd magn mltr mbeg mcmd mcmM mpl msz mwr mlin mliM) := hD
            refine lv_i2l (v := (Int32.toInt64 zo28.1)) hx hb dX11_tradeIt_87 rfl ?_
            have ho := (Option.some.inj hF).symm
            exact W.lret (v := (Int32.toInt64 zo28.1)) hx hb hr (fun t ht hW => ⟨⟨(Int32.toInt64 zo28.1), (mm, zo28.2), rfl, ⟨by rw [ho], by rw [ho]⟩, z_end ht hP⟩, hS.F ht⟩) hS.2.2 dX11_tradeIt_88
        · have hF := z_pos hF zc9
          refine lv_aload_n hx hb dX11_tradeIt_49 rfl (lv_at hl 2 rfl) ?_
          refine lv_iconst (v := 2) hx hb dX11_tradeIt_50 (by decide) ?_
          obtain ⟨zo29, hzo29, hF⟩ := z_bind hF
          refine z_calliE (fun (u : Int32) => (wModel g q0 q1 q2 q3 q4 q5 q6 q7 q8 q9 q10 q11 q12 mm masd msav misS mpst mchg merr mfai u minp minM mUp mcar mcam mahd magn mltr mbeg mcmd mcmM mpl msz mwr mlin mliM)) (va_runV (As := [.int 2]) (rest := []) ⟨hx, hb, hml, hown, hts⟩ (c_X11_throwing l g q0 q1 q2 q3 q4 q5 q6 q7 q8 q9 q10 q11 q12 mm masd msav misS mpst mchg merr mfai mthr minp minM mUp mcar mcam mahd magn mltr mbeg mcmd mcmM mpl msz mwr mlin mliM _ 2 _ hzo29) (cwV 1 hts (gdV mU_1352 mU_1354 mU_31 mU_75 mU_1355) rfl rfl rfl (by decide +kernel) ⟨Nat.le_of_ble_eq_true rfl, Nat.le_of_ble_eq_true rfl⟩) ⟨z_blind _ _ _ _, va_recv hK hP (ci := 7) (q0 := 0) rfl rfl, fun U hU hW => z_preE hP hD hK hB hS hA hU hW⟩ rfl rfl hl.1 rfl (lv_room (Nat.le_of_ble_eq_true rfl)) dX11_tradeIt_51 ⟨Nat.le_of_ble_eq_true rfl, Nat.le_of_ble_eq_true rfl⟩) hD hS hA (fun _ => rfl) (fun r u H locs hw hP hD hS => ?_)
          obtain ⟨rfl, rfl⟩ := hw
          have hP : va_P (gD g) zCl (wModel g q0 q1 q2 q3 q4 q5 q6 q7 q8 q9 q10 q11 q12 mm masd msav misS mpst mchg merr mfai zo29.2 minp minM mUp mcar mcam mahd magn mltr mbeg mcmd mcmM mpl msz mwr mlin mliM) H := hP
          have hD : va_D A (wModel g q0 q1 q2 q3 q4 q5 q6 q7 q8 q9 q10 q11 q12 mm masd msav misS mpst mchg merr mfai zo29.2 minp minM mUp mcar mcam mahd magn mltr mbeg mcmd mcmM mpl msz mwr mlin mliM) := hD
          refine lv_i2l (v := (Int32.toInt64 zo29.1)) hx hb dX11_tradeIt_54 rfl ?_
          have ho := (Option.some.inj hF).symm
          exact W.lret (v := (Int32.toInt64 zo29.1)) hx hb hr (fun t ht hW => ⟨⟨(Int32.toInt64 zo29.1), (mm, zo29.2), rfl, ⟨by rw [ho], by rw [ho]⟩, z_end ht hP⟩, hS.F ht⟩) hS.2.2 dX11_tradeIt_55
    · have hF := z_pos hF zc5
      refine lv_aload_n hx hb dX11_tradeIt_26 rfl (lv_at hl 2 rfl) ?_
      refine lv_iconst (v := 1) hx hb dX11_tradeIt_27 (by decide) ?_
      obtain ⟨zo30, hzo30, hF⟩ := z_bind hF
      refine z_calliE (fun (u : Int32) => (wModel g q0 q1 q2 q3 q4 q5 q6 q7 q8 q9 q10 q11 q12 mm masd msav misS mpst mchg merr mfai u minp minM mUp mcar mcam mahd magn mltr mbeg mcmd mcmM mpl msz mwr mlin mliM)) (va_runV (As := [.int 1]) (rest := []) ⟨hx, hb, hml, hown, hts⟩ (c_X11_throwing l g q0 q1 q2 q3 q4 q5 q6 q7 q8 q9 q10 q11 q12 mm masd msav misS mpst mchg merr mfai mthr minp minM mUp mcar mcam mahd magn mltr mbeg mcmd mcmM mpl msz mwr mlin mliM _ 1 _ hzo30) (cwV 1 hts (gdV mU_1352 mU_1354 mU_31 mU_75 mU_1355) rfl rfl rfl (by decide +kernel) ⟨Nat.le_of_ble_eq_true rfl, Nat.le_of_ble_eq_true rfl⟩) ⟨z_blind _ _ _ _, va_recv hK hP (ci := 7) (q0 := 0) rfl rfl, fun U hU hW => z_preE hP hD hK hB hS hA hU hW⟩ rfl rfl hl.1 rfl (lv_room (Nat.le_of_ble_eq_true rfl)) dX11_tradeIt_28 ⟨Nat.le_of_ble_eq_true rfl, Nat.le_of_ble_eq_true rfl⟩) hD hS hA (fun _ => rfl) (fun r u H locs hw hP hD hS => ?_)
      obtain ⟨rfl, rfl⟩ := hw
      have hP : va_P (gD g) zCl (wModel g q0 q1 q2 q3 q4 q5 q6 q7 q8 q9 q10 q11 q12 mm masd msav misS mpst mchg merr mfai zo30.2 minp minM mUp mcar mcam mahd magn mltr mbeg mcmd mcmM mpl msz mwr mlin mliM) H := hP
      have hD : va_D A (wModel g q0 q1 q2 q3 q4 q5 q6 q7 q8 q9 q10 q11 q12 mm masd msav misS mpst mchg merr mfai zo30.2 minp minM mUp mcar mcam mahd magn mltr mbeg mcmd mcmM mpl msz mwr mlin mliM) := hD
      refine lv_i2l (v := (Int32.toInt64 zo30.1)) hx hb dX11_tradeIt_31 rfl ?_
      have ho := (Option.some.inj hF).symm
      exact W.lret (v := (Int32.toInt64 zo30.1)) hx hb hr (fun t ht hW => ⟨⟨(Int32.toInt64 zo30.1), (mm, zo30.2), rfl, ⟨by rw [ho], by rw [ho]⟩, z_end ht hP⟩, hS.F ht⟩) hS.2.2 dX11_tradeIt_32
abbrev w_X11_trade : List Cond := .code yX11_trade cX11_trade 7 (some .long) :: wU
abbrev r_X11_trade : Room := { frames := 4, cells := 0, slots := 0, locals := 105 }
abbrev q_X11_trade (g : GG) (q0 q1 q2 q3 q4 q5 q6 q7 q8 q9 q10 q11 q12 : Nat) (mm : Nat → Int64) (masd : Nat → Int64) (msav : Nat → Int64) (misS : Int32) (mpst : Nat → Int64) (mchg : Int32) (merr : Int32) (mfai : Int32) (mthr : Int32) (minp : Nat → Int32) (minM : Int32) (mUp : Nat → Int32) (mcar : Nat → Int32) (mcam : Nat → Int32) (mahd : Int32) (magn : Int32) (mltr : Nat → Int32) (mbeg : Nat → Int32) (mcmd : Nat → Int32) (mcmM : Int32) (mpl : Int32) (msz : Int32) (mwr : Int32) (mlin : Nat → Int32) (mliM : Int32) (o : Int64 × (Nat → Int64) × (Nat → Int64) × (Nat → Int64) × Int32 × Int32) (A : Nat → Prop) := va_Ql (fun (r : Int64) (u : (Nat → Int64) × (Nat → Int64) × (Nat → Int64) × Int32 × Int32) => o.1 = r ∧ o.2 = u) (fun u t => va_P (gD g) zCl (wModel g q0 q1 q2 q3 q4 q5 q6 q7 q8 q9 q10 q11 q12 u.1 u.2.1 msav misS u.2.2.1 u.2.2.2.1 merr mfai u.2.2.2.2 minp minM mUp mcar mcam mahd magn mltr mbeg mcmd mcmM mpl msz mwr mlin mliM) t.heap) A
set_option maxHeartbeats 4000000 in
set_option maxRecDepth 100000 in
theorem c_X11_trade (l : Launch) (g : GG) (q0 q1 q2 q3 q4 q5 q6 q7 q8 q9 q10 q11 q12 : Nat) (mm : Nat → Int64) (masd : Nat → Int64) (msav : Nat → Int64) (misS : Int32) (mpst : Nat → Int64) (mchg : Int32) (merr : Int32) (mfai : Int32) (mthr : Int32) (minp : Nat → Int32) (minM : Int32) (mUp : Nat → Int32) (mcar : Nat → Int32) (mcam : Nat → Int32) (mahd : Int32) (magn : Int32) (mltr : Nat → Int32) (mbeg : Nat → Int32) (mcmd : Nat → Int32) (mcmM : Int32) (mpl : Int32) (msz : Int32) (mwr : Int32) (mlin : Nat → Int32) (mliM : Int32) (sz : Nat) (p1 : Int32) (p2 : Int32) (p3 : Int32) (p4 : Int32) (fu : Nat) (o : Int64 × (Nat → Int64) × (Nat → Int64) × (Nat → Int64) × Int32 × Int32) (hF : F_X11_trade fu mm masd mpst mchg mthr p1 p2 p3 p4 = some o) : Met l yX11_trade w_X11_trade r_X11_trade (va_Pc [.ref q0, .int p1, .int p2, .int p3, .int p4] (zP g (wModel g q0 q1 q2 q3 q4 q5 q6 q7 q8 q9 q10 q11 q12 mm masd msav misS mpst mchg merr mfai mthr minp minM mUp mcar mcam mahd magn mltr mbeg mcmd mcmM mpl msz mwr mlin mliM) sz)) (q_X11_trade g q0 q1 q2 q3 q4 q5 q6 q7 q8 q9 q10 q11 q12 mm masd msav misS mpst mchg merr mfai mthr minp minM mUp mcar mcam mahd magn mltr mbeg mcmd mcmM mpl msz mwr mlin mliM o (va_A (wModel g q0 q1 q2 q3 q4 q5 q6 q7 q8 q9 q10 q11 q12 mm masd msav misS mpst mchg merr mfai mthr minp minM mUp mcar mcam mahd magn mltr mbeg mcmd mcmM mpl msz mwr mlin mliM) sz)) 0 0 (va_A (wModel g q0 q1 q2 q3 q4 q5 q6 q7 q8 q9 q10 q11 q12 mm masd msav misS mpst mchg merr mfai mthr minp minM mUp mcar mcam mahd magn mltr mbeg mcmd mcmM mpl msz mwr mlin mliM) sz) := by
  refine Met.ofW (cc := cX11_trade) (maxL := 7) (ret := (some .long)) (by decide) rfl ?_
  intro p e s m args below meth c s₁ B hml hv
  obtain ⟨rfl, rfl, hP, hK, hD0, hB⟩ := hv
  have hx := B.exec
  have hb := B.bytes
  have hr := B.returns
  have hts : ∀ w ∈ wU, w.before _ s = true := fun w h => atoms_spec (ws := w_X11_trade) B.pre w (List.mem_cons_of_mem _ h)
  have hown : s.vm.findClass RX11 = some m.cls := findClass_of_methodNamed B.named
  have hlocks := B.notSynchronized
  have hD := hD0.self (sz := s.heap.size)
  generalize hAe : va_A (wModel g q0 q1 q2 q3 q4 q5 q6 q7 q8 q9 q10 q11 q12 mm masd msav misS mpst mchg merr mfai mthr minp minM mUp mcar mcam mahd magn mltr mbeg mcmd mcmM mpl msz mwr mlin mliM) s.heap.size = A at hD hB ⊢
  have hA : ∀ q : Nat, s.heap.size ≤ q → A q := fun q h => by rw [← hAe]; exact Or.inr h
  have hS : va_S A s.heap s.heap [] := va_S.rf
  have hl := lv_entry ([.ref q0, .int p1, .int p2, .int p3, .int p4]) (n := 7) (Nat.le_of_ble_eq_true rfl)
  rw [lg_entry_eq]
  generalize (lg_sl ([.ref q0, .int p1, .int p2, .int p3, .int p4]) ++ List.replicate (7 - (lg_sl ([.ref q0, .int p1, .int p2, .int p3, .int p4])).length) Slot.unset).toArray = ls at hl ⊢
  have hl : lv_has ls 7 [(0, .ref q0), (1, .int p1), (2, .int p2), (3, .int p3), (4, .int p4)] := hl
  unfold F_X11_trade at hF
  refine lv_aload_n hx hb dX11_trade_0 rfl (lv_at hl 0 rfl) ?_
  obtain ⟨zo1, hzo1, hF⟩ := z_bind hF
  refine z_callvE (fun (u : (Nat → Int64) × Int32) => (wModel g q0 q1 q2 q3 q4 q5 q6 q7 q8 q9 q10 q11 q12 mm u.1 msav misS mpst mchg merr mfai u.2 minp minM mUp mcar mcam mahd magn mltr mbeg mcmd mcmM mpl msz mwr mlin mliM)) (va_runV (As := []) (rest := []) ⟨hx, hb, hml, hown, hts⟩ (c_X11_starts l g q0 q1 q2 q3 q4 q5 q6 q7 q8 q9 q10 q11 q12 mm masd msav misS mpst mchg merr mfai mthr minp minM mUp mcar mcam mahd magn mltr mbeg mcmd mcmM mpl msz mwr mlin mliM _ fu _ hzo1) (cwV 0 hts (gdV mU_1329 mU_1331 mU_29 mU_75 mU_1332) rfl rfl rfl (by decide +kernel) ⟨Nat.le_of_ble_eq_true rfl, Nat.le_of_ble_eq_true rfl⟩) ⟨z_blind _ _ _ _, va_recv hK hP (ci := 7) (q0 := 0) rfl rfl, fun U hU hW => z_preE hP hD hK hB hS hA hU hW⟩ rfl rfl hl.1 rfl (lv_room (Nat.le_of_ble_eq_true rfl)) dX11_trade_1 ⟨Nat.le_of_ble_eq_true rfl, Nat.le_of_ble_eq_true rfl⟩) hD hS hA (fun _ => rfl) (fun u H locs hw hP hD hS => ?_)
  subst hw
  have hP : va_P (gD g) zCl (wModel g q0 q1 q2 q3 q4 q5 q6 q7 q8 q9 q10 q11 q12 mm zo1.1 msav misS mpst mchg merr mfai zo1.2 minp minM mUp mcar mcam mahd magn mltr mbeg mcmd mcmM mpl msz mwr mlin mliM) H := hP
  have hD : va_D A (wModel g q0 q1 q2 q3 q4 q5 q6 q7 q8 q9 q10 q11 q12 mm zo1.1 msav misS mpst mchg merr mfai zo1.2 minp minM mUp mcar mcam mahd magn mltr mbeg mcmd mcmM mpl msz mwr mlin mliM) := hD
  refine lv_aload_n hx hb dX11_trade_4 rfl (lv_at hl 0 rfl) ?_
  refine lv_iload_n hx hb dX11_trade_5 rfl (lv_at hl 1 rfl) ?_
  refine lv_iload_n hx hb dX11_trade_6 rfl (lv_at hl 2 rfl) ?_
  refine lv_iload_n hx hb dX11_trade_7 rfl (lv_at hl 3 rfl) ?_
  refine lv_iload hx hb dX11_trade_8 (lv_at hl 4 rfl) ?_
  obtain ⟨zo2, hzo2, hF⟩ := z_bind hF
  refine z_calllE (fun (u : (Nat → Int64) × Int32) => (wModel g q0 q1 q2 q3 q4 q5 q6 q7 q8 q9 q10 q11 q12 u.1 zo1.1 msav misS mpst mchg merr mfai u.2 minp minM mUp mcar mcam mahd magn mltr mbeg mcmd mcmM mpl msz mwr mlin mliM)) (va_runV (As := [.int p1, .int p2, .int p3, .int p4]) (rest := []) ⟨hx, hb, hml, hown, hts⟩ (c_X11_tradeIt l g q0 q1 q2 q3 q4 q5 q6 q7 q8 q9 q10 q11 q12 mm zo1.1 msav misS mpst mchg merr mfai zo1.2 minp minM mUp mcar mcam mahd magn mltr mbeg mcmd mcmM mpl msz mwr mlin mliM _ p1 p2 p3 p4 fu _ hzo2) (cwV 4 hts (gdV mU_1424 mU_1426 mU_40 mU_75 mU_1427) rfl rfl rfl (by decide +kernel) ⟨Nat.le_of_ble_eq_true rfl, Nat.le_of_ble_eq_true rfl⟩) ⟨z_blind _ _ _ _, va_recv hK hP (ci := 7) (q0 := 0) rfl rfl, fun U hU hW => z_preE hP hD hK hB hS hA hU hW⟩ rfl rfl hl.1 rfl (lv_room (Nat.le_of_ble_eq_true rfl)) dX11_trade_10 ⟨Nat.le_of_ble_eq_true rfl, Nat.le_of_ble_eq_true rfl⟩) hD hS hA (fun _ => rfl) (fun r u H locs hw hP hD hS => ?_)
  obtain ⟨rfl, rfl⟩ := hw
  have hP : va_P (gD g) zCl (wModel g q0 q1 q2 q3 q4 q5 q6 q7 q8 q9 q10 q11 q12 zo2.2.1 zo1.1 msav misS mpst mchg merr mfai zo2.2.2 minp minM mUp mcar mcam mahd magn mltr mbeg mcmd mcmM mpl msz mwr mlin mliM) H := hP
  have hD : va_D A (wModel g q0 q1 q2 q3 q4 q5 q6 q7 q8 q9 q10 q11 q12 zo2.2.1 zo1.1 msav misS mpst mchg merr mfai zo2.2.2 minp minM mUp mcar mcam mahd magn mltr mbeg mcmd mcmM mpl msz mwr mlin mliM) := hD
  refine lv_lstore (lv' := [(5, .long zo2.1), (0, .ref q0), (1, .int p1), (2, .int p2), (3, .int p3), (4, .int p4)]) hx hb dX11_trade_13 hl (by decide) rfl (fun ls hl => ?_)
  refine lv_aload_n hx hb dX11_trade_15 rfl (lv_at hl 1 rfl) ?_
  obtain ⟨zo3, hzo3, hF⟩ := z_bind hF
  refine z_callvE (fun (u : (Nat → Int64) × Int32) => (wModel g q0 q1 q2 q3 q4 q5 q6 q7 q8 q9 q10 q11 q12 zo2.2.1 zo1.1 msav misS u.1 u.2 merr mfai zo2.2.2 minp minM mUp mcar mcam mahd magn mltr mbeg mcmd mcmM mpl msz mwr mlin mliM)) (va_runV (As := []) (rest := []) ⟨hx, hb, hml, hown, hts⟩ (c_X11_ends l g q0 q1 q2 q3 q4 q5 q6 q7 q8 q9 q10 q11 q12 zo2.2.1 zo1.1 msav misS mpst mchg merr mfai zo2.2.2 minp minM mUp mcar mcam mahd magn mltr mbeg mcmd mcmM mpl msz mwr mlin mliM _ fu _ hzo3) (cwV 0 hts (gdV mU_1375 mU_1377 mU_34 mU_75 mU_1378) rfl rfl rfl (by decide +kernel) ⟨Nat.le_of_ble_eq_true rfl, Nat.le_of_ble_eq_true rfl⟩) ⟨z_blind _ _ _ _, va_recv hK hP (ci := 7) (q0 := 0) rfl rfl, fun U hU hW => z_preE hP hD hK hB hS hA hU hW⟩ rfl rfl hl.1 rfl (lv_room (Nat.le_of_ble_eq_true rfl)) dX11_trade_16 ⟨Nat.le_of_ble_eq_true rfl, Nat.le_of_ble_eq_true rfl⟩) hD hS hA (fun _ => rfl) (fun u H locs hw hP hD hS => ?_)
  subst hw
  have hP : va_P (gD g) zCl (wModel g q0 q1 q2 q3 q4 q5 q6 q7 q8 q9 q10 q11 q12 zo2.2.1 zo1.1 msav misS zo3.1 zo3.2 merr mfai zo2.2.2 minp minM mUp mcar mcam mahd magn mltr mbeg mcmd mcmM mpl msz mwr mlin mliM) H := hP
  have hD : va_D A (wModel g q0 q1 q2 q3 q4 q5 q6 q7 q8 q9 q10 q11 q12 zo2.2.1 zo1.1 msav misS zo3.1 zo3.2 merr mfai zo2.2.2 minp minM mUp mcar mcam mahd magn mltr mbeg mcmd mcmM mpl msz mwr mlin mliM) := hD
  refine lv_lload hx hb dX11_trade_19 (lv_at hl 0 rfl) ?_
  have ho := (Option.some.inj hF).symm
  exact W.lret (v := zo2.1) hx hb hr (fun t ht hW => ⟨⟨zo2.1, (zo2.2.1, zo1.1, zo3.1, zo3.2, zo2.2.2), rfl, ⟨by rw [ho], by rw [ho]⟩, z_end ht hP⟩, hS.F ht⟩) hS.2.2 dX11_trade_21
abbrev w_X11_scaleIt : List Cond := .code yX11_scaleIt cX11_scaleIt 5 (some .int) :: wU
abbrev r_X11_scaleIt : Room := { frames := 3, cells := 0, slots := 0, locals := 77 }
abbrev q_X11_scaleIt (g : GG) (q0 q1 q2 q3 q4 q5 q6 q7 q8 q9 q10 q11 q12 : Nat) (mm : Nat → Int64) (masd : Nat → Int64) (msav : Nat → Int64) (misS : Int32) (mpst : Nat → Int64) (mchg : Int32) (merr : Int32) (mfai : Int32) (mthr : Int32) (minp : Nat → Int32) (minM : Int32) (mUp : Nat → Int32) (mcar : Nat → Int32) (mcam : Nat → Int32) (mahd : Int32) (magn : Int32) (mltr : Nat → Int32) (mbeg : Nat → Int32) (mcmd : Nat → Int32) (mcmM : Int32) (mpl : Int32) (msz : Int32) (mwr : Int32) (mlin : Nat → Int32) (mliM : Int32) (o : Int32 × (Nat → Int64) × Int32) (A : Nat → Prop) := va_Qi (fun (r : Int32) (u : (Nat → Int64) × Int32) => o.1 = r ∧ o.2 = u) (fun u t => va_P (gD g) zCl (wModel g q0 q1 q2 q3 q4 q5 q6 q7 q8 q9 q10 q11 q12 u.1 masd msav misS mpst mchg merr mfai u.2 minp minM mUp mcar mcam mahd magn mltr mbeg mcmd mcmM mpl msz mwr mlin mliM) t.heap) A
set_option maxHeartbeats 4000000 in
set_option maxRecDepth 100000 in
theorem c_X11_scaleIt (l : Launch) (g : GG) (q0 q1 q2 q3 q4 q5 q6 q7 q8 q9 q10 q11 q12 : Nat) (mm : Nat → Int64) (masd : Nat → Int64) (msav : Nat → Int64) (misS : Int32) (mpst : Nat → Int64) (mchg : Int32) (merr : Int32) (mfai : Int32) (mthr : Int32) (minp : Nat → Int32) (minM : Int32) (mUp : Nat → Int32) (mcar : Nat → Int32) (mcam : Nat → Int32) (mahd : Int32) (magn : Int32) (mltr : Nat → Int32) (mbeg : Nat → Int32) (mcmd : Nat → Int32) (mcmM : Int32) (mpl : Int32) (msz : Int32) (mwr : Int32) (mlin : Nat → Int32) (mliM : Int32) (sz : Nat) (p1 : Int32) (p2 : Int32) (fu : Nat) (o : Int32 × (Nat → Int64) × Int32) (hF : F_X11_scaleIt fu mm mthr p1 p2 = some o) : Met l yX11_scaleIt w_X11_scaleIt r_X11_scaleIt (va_Pc [.ref q0, .int p1, .int p2] (zP g (wModel g q0 q1 q2 q3 q4 q5 q6 q7 q8 q9 q10 q11 q12 mm masd msav misS mpst mchg merr mfai mthr minp minM mUp mcar mcam mahd magn mltr mbeg mcmd mcmM mpl msz mwr mlin mliM) sz)) (q_X11_scaleIt g q0 q1 q2 q3 q4 q5 q6 q7 q8 q9 q10 q11 q12 mm masd msav misS mpst mchg merr mfai mthr minp minM mUp mcar mcam mahd magn mltr mbeg mcmd mcmM mpl msz mwr mlin mliM o (va_A (wModel g q0 q1 q2 q3 q4 q5 q6 q7 q8 q9 q10 q11 q12 mm masd msav misS mpst mchg merr mfai mthr minp minM mUp mcar mcam mahd magn mltr mbeg mcmd mcmM mpl msz mwr mlin mliM) sz)) 0 0 (va_A (wModel g q0 q1 q2 q3 q4 q5 q6 q7 q8 q9 q10 q11 q12 mm masd msav misS mpst mchg merr mfai mthr minp minM mUp mcar mcam mahd magn mltr mbeg mcmd mcmM mpl msz mwr mlin mliM) sz) := by
  refine Met.ofW (cc := cX11_scaleIt) (maxL := 5) (ret := (some .int)) (by decide) rfl ?_
  intro p e s m args below meth c s₁ B hml hv
  obtain ⟨rfl, rfl, hP, hK, hD0, hB⟩ := hv
  have hx := B.exec
  have hb := B.bytes
  have hr := B.returns
  have hts : ∀ w ∈ wU, w.before _ s = true := fun w h => atoms_spec (ws := w_X11_scaleIt) B.pre w (List.mem_cons_of_mem _ h)
  have hown : s.vm.findClass RX11 = some m.cls := findClass_of_methodNamed B.named
  have hlocks := B.notSynchronized
  have hD := hD0.self (sz := s.heap.size)
  generalize hAe : va_A (wModel g q0 q1 q2 q3 q4 q5 q6 q7 q8 q9 q10 q11 q12 mm masd msav misS mpst mchg merr mfai mthr minp minM mUp mcar mcam mahd magn mltr mbeg mcmd mcmM mpl msz mwr mlin mliM) s.heap.size = A at hD hB ⊢
  have hA : ∀ q : Nat, s.heap.size ≤ q → A q := fun q h => by rw [← hAe]; exact Or.inr h
  have hS : va_S A s.heap s.heap [] := va_S.rf
  have hl := lv_entry ([.ref q0, .int p1, .int p2]) (n := 5) (Nat.le_of_ble_eq_true rfl)
  rw [lg_entry_eq]
  generalize (lg_sl ([.ref q0, .int p1, .int p2]) ++ List.replicate (5 - (lg_sl ([.ref q0, .int p1, .int p2])).length) Slot.unset).toArray = ls at hl ⊢
  have hl : lv_has ls 5 [(0, .ref q0), (1, .int p1), (2, .int p2)] := hl
  unfold F_X11_scaleIt at hF
  refine lv_aload_n hx hb dX11_scaleIt_0 rfl (lv_at hl 0 rfl) ?_
  refine lv_iload_n hx hb dX11_scaleIt_1 rfl (lv_at hl 1 rfl) ?_
  obtain ⟨zo1, hzo1, hF⟩ := z_bind hF
  refine z_calliE (fun (_ : Unit) => (wModel g q0 q1 q2 q3 q4 q5 q6 q7 q8 q9 q10 q11 q12 mm masd msav misS mpst mchg merr mfai mthr minp minM mUp mcar mcam mahd magn mltr mbeg mcmd mcmM mpl msz mwr mlin mliM)) (va_runV (As := [.int p1]) (rest := []) ⟨hx, hb, hml, hown, hts⟩ (c_X11_find l g q0 q1 q2 q3 q4 q5 q6 q7 q8 q9 q10 q11 q12 mm masd msav misS mpst mchg merr mfai mthr minp minM mUp mcar mcam mahd magn mltr mbeg mcmd mcmM mpl msz mwr mlin mliM _ p1 fu _ hzo1) (cwV 1 hts (gdV mU_1400 mU_1402 mU_37 mU_75 mU_1403) rfl rfl rfl (by decide +kernel) ⟨Nat.le_of_ble_eq_true rfl, Nat.le_of_ble_eq_true rfl⟩) ⟨z_blind _ _ _ _, va_recv hK hP (ci := 7) (q0 := 0) rfl rfl, fun U hU hW => z_preE hP hD hK hB hS hA hU hW⟩ rfl rfl hl.1 rfl (lv_room (Nat.le_of_ble_eq_true rfl)) dX11_scaleIt_2 ⟨Nat.le_of_ble_eq_true rfl, Nat.le_of_ble_eq_true rfl⟩) hD hS hA (fun _ => rfl) (fun r u H locs hw hP hD hS => ?_)
  subst hw
  have hP : va_P (gD g) zCl (wModel g q0 q1 q2 q3 q4 q5 q6 q7 q8 q9 q10 q11 q12 mm masd msav misS mpst mchg merr mfai mthr minp minM mUp mcar mcam mahd magn mltr mbeg mcmd mcmM mpl msz mwr mlin mliM) H := hP
  have hD : va_D A (wModel g q0 q1 q2 q3 q4 q5 q6 q7 q8 q9 q10 q11 q12 mm masd msav misS mpst mchg merr mfai mthr minp minM mUp mcar mcam mahd magn mltr mbeg mcmd mcmM mpl msz mwr mlin mliM) := hD
  refine lv_istore_n (lv' := [(3, .int zo1), (0, .ref q0), (1, .int p1), (2, .int p2)]) hx hb dX11_scaleIt_5 rfl hl (by decide) rfl (fun ls hl => ?_)
  refine lv_iload_n hx hb dX11_scaleIt_6 rfl (lv_at hl 0 rfl) ?_
  refine lv_iconst (v := (-1)) hx hb dX11_scaleIt_7 (by decide) ?_
  refine lv_icmp_ne (tgt := 17) hx hb dX11_scaleIt_8 (by decide) (fun zc2 => ?_) (fun zc2 => ?_)
  · have hF := z_neg hF zc2
    refine lv_iload_n hx hb dX11_scaleIt_17 rfl (lv_at hl 3 rfl) ?_
    obtain ⟨zo3, hzo3, hF⟩ := z_bind hF
    refine z_calli (fun (_ : Unit) => []) [] (va_runS (As := [.int p2]) (rest := []) ⟨hx, hb, hml, hown, hts⟩ (c_X11_isScale l g _ p2 _ hzo3) (va_cwS 1 hts (gdS mU_1345 mU_1346 mU_75 mU_1347) rfl rfl rfl (by decide +kernel) ⟨Nat.le_of_ble_eq_true rfl, Nat.le_of_ble_eq_true rfl⟩) ⟨z_blind _ _ _ _, fun U hU hW => z_pre [] hP hD hK hB hS hA rfl rfl hU hW⟩ rfl rfl hl.1 rfl (lv_room (Nat.le_of_ble_eq_true rfl)) dX11_scaleIt_18 ⟨Nat.le_of_ble_eq_true rfl, Nat.le_of_ble_eq_true rfl⟩) hP hD hS hA rfl (fun _ => rfl) (fun r u H locs hw hP hD hS => ?_)
    subst hw
    have hP : va_P (gD g) zCl (wModel g q0 q1 q2 q3 q4 q5 q6 q7 q8 q9 q10 q11 q12 mm masd msav misS mpst mchg merr mfai mthr minp minM mUp mcar mcam mahd magn mltr mbeg mcmd mcmM mpl msz mwr mlin mliM) H := hP
    have hD : va_D A (wModel g q0 q1 q2 q3 q4 q5 q6 q7 q8 q9 q10 q11 q12 mm masd msav misS mpst mchg merr mfai mthr minp minM mUp mcar mcam mahd magn mltr mbeg mcmd mcmM mpl msz mwr mlin mliM) := hD
    refine lv_if_ne (tgt := 30) hx hb dX11_scaleIt_21 (by decide) (fun zc4 => ?_) (fun zc4 => ?_)
    · have hF := z_neg hF zc4
      refine lv_aload_n hx hb dX11_scaleIt_30 rfl (lv_at hl 1 rfl) ?_
      refine va_get (D := gD g) (ci := 7) (v := .ref q1) (C := RX11) (T := TX11) (N := 25) hx hb hts inX11 hown hK hP 0 rfl rfl 0 (by decide) (hts _ mU_1244) (fun _ h9 => h9) rfl dX11_scaleIt_31 ?_
      refine lv_iload_n hx hb dX11_scaleIt_34 rfl (lv_at hl 0 rfl) ?_
      obtain ⟨zo5, hzo5, hF⟩ := z_bind hF
      refine z_calli (fun (_ : Unit) => []) [] (va_runS (As := [.int zo1]) (rest := [.ref q1]) ⟨hx, hb, hml, hown, hts⟩ (c_X11_at l g _ zo1 _ hzo5) (va_cwS 1 hts (gdS mU_1372 mU_1373 mU_75 mU_1374) rfl rfl rfl (by decide +kernel) ⟨Nat.le_of_ble_eq_true rfl, Nat.le_of_ble_eq_true rfl⟩) ⟨z_blind _ _ _ _, fun U hU hW => z_pre [] hP hD hK hB hS hA rfl rfl hU hW⟩ rfl rfl hl.1 rfl (lv_room (Nat.le_of_ble_eq_true rfl)) dX11_scaleIt_35 ⟨Nat.le_of_ble_eq_true rfl, Nat.le_of_ble_eq_true rfl⟩) hP hD hS hA rfl (fun _ => rfl) (fun r u H locs hw hP hD hS => ?_)
      subst hw
      have hP : va_P (gD g) zCl (wModel g q0 q1 q2 q3 q4 q5 q6 q7 q8 q9 q10 q11 q12 mm masd msav misS mpst mchg merr mfai mthr minp minM mUp mcar mcam mahd magn mltr mbeg mcmd mcmM mpl msz mwr mlin mliM) H := hP
      have hD : va_D A (wModel g q0 q1 q2 q3 q4 q5 q6 q7 q8 q9 q10 q11 q12 mm masd msav misS mpst mchg merr mfai mthr minp minM mUp mcar mcam mahd magn mltr mbeg mcmd mcmM mpl msz mwr mlin mliM) := hD
      refine lv_iconst (v := 2) hx hb dX11_scaleIt_38 (by decide) ?_
      refine lv_iadd hx hb dX11_scaleIt_39 ?_
      obtain ⟨zg6, hF⟩ := z_grd hF
      refine va_lald hx hb hK hP 1 2 rfl rfl zg6 dX11_scaleIt_40 ?_
      refine lv_l2i (v := (Int64.toInt32 (mm (Int32.toNatClampNeg (zo5 + 2))))) hx hb dX11_scaleIt_41 rfl ?_
      obtain ⟨zv7, ezv7, hF⟩ := z_let hF
      refine z_topi ezv7 ?_
      refine lv_istore (lv' := [(4, .int zv7), (3, .int zo1), (0, .ref q0), (1, .int p1), (2, .int p2)]) hx hb dX11_scaleIt_42 hl (by decide) rfl (fun ls hl => ?_)
      refine lv_aload_n hx hb dX11_scaleIt_44 rfl (lv_at hl 2 rfl) ?_
      refine va_get (D := gD g) (ci := 7) (v := .ref q1) (C := RX11) (T := TX11) (N := 25) hx hb hts inX11 hown hK hP 0 rfl rfl 0 (by decide) (hts _ mU_1244) (fun _ h9 => h9) rfl dX11_scaleIt_45 ?_
      refine lv_iload_n hx hb dX11_scaleIt_48 rfl (lv_at hl 1 rfl) ?_
      obtain ⟨zo8, hzo8, hF⟩ := z_bind hF
      refine z_calli (fun (_ : Unit) => []) [] (va_runS (As := [.int zo1]) (rest := [.ref q1]) ⟨hx, hb, hml, hown, hts⟩ (c_X11_at l g _ zo1 _ hzo8) (va_cwS 1 hts (gdS mU_1372 mU_1373 mU_75 mU_1374) rfl rfl rfl (by decide +kernel) ⟨Nat.le_of_ble_eq_true rfl, Nat.le_of_ble_eq_true rfl⟩) ⟨z_blind _ _ _ _, fun U hU hW => z_pre [] hP hD hK hB hS hA rfl rfl hU hW⟩ rfl rfl hl.1 rfl (lv_room (Nat.le_of_ble_eq_true rfl)) dX11_scaleIt_49 ⟨Nat.le_of_ble_eq_true rfl, Nat.le_of_ble_eq_true rfl⟩) hP hD hS hA rfl (fun _ => rfl) (fun r u H locs hw hP hD hS => ?_)
      subst hw
      have hP : va_P (gD g) zCl (wModel g q0 q1 q2 q3 q4 q5 q6 q7 q8 q9 q10 q11 q12 mm masd msav misS mpst mchg merr mfai mthr minp minM mUp mcar mcam mahd magn mltr mbeg mcmd mcmM mpl msz mwr mlin mliM) H := hP
      have hD : va_D A (wModel g q0 q1 q2 q3 q4 q5 q6 q7 q8 q9 q10 q11 q12 mm masd msav misS mpst mchg merr mfai mthr minp minM mUp mcar mcam mahd magn mltr mbeg mcmd mcmM mpl msz mwr mlin mliM) := hD
      refine lv_iconst (v := 2) hx hb dX11_scaleIt_52 (by decide) ?_
      refine lv_iadd hx hb dX11_scaleIt_53 ?_
      refine lv_iload_n hx hb dX11_scaleIt_54 rfl (lv_at hl 4 rfl) ?_
      refine lv_i2l (v := (Int32.toInt64 p2)) hx hb dX11_scaleIt_55 rfl ?_
      obtain ⟨zg9, hF⟩ := z_grd hF
      refine va_last hx hb hK hP hD hS 1 2 rfl rfl zg9 dX11_scaleIt_56 (fun H locs hP hD hS => ?_)
      have hP : va_P (gD g) zCl (wModel g q0 q1 q2 q3 q4 q5 q6 q7 q8 q9 q10 q11 q12 (vp_updL mm (Int32.toNatClampNeg (zo8 + 2)) (Int32.toInt64 p2)) masd msav misS mpst mchg merr mfai mthr minp minM mUp mcar mcam mahd magn mltr mbeg mcmd mcmM mpl msz mwr mlin mliM) H := hP
      have hD : va_D A (wModel g q0 q1 q2 q3 q4 q5 q6 q7 q8 q9 q10 q11 q12 (vp_updL mm (Int32.toNatClampNeg (zo8 + 2)) (Int32.toInt64 p2)) masd msav misS mpst mchg merr mfai mthr minp minM mUp mcar mcam mahd magn mltr mbeg mcmd mcmM mpl msz mwr mlin mliM) := hD
      refine lv_aload_n hx hb dX11_scaleIt_57 rfl (lv_at hl 2 rfl) ?_
      refine lv_iload_n hx hb dX11_scaleIt_58 rfl (lv_at hl 1 rfl) ?_
      refine lv_aload_n hx hb dX11_scaleIt_59 rfl (lv_at hl 2 rfl) ?_
      refine va_get (D := gD g) (ci := 7) (v := .ref q1) (C := RX11) (T := TX11) (N := 25) hx hb hts inX11 hown hK hP 0 rfl rfl 0 (by decide) (hts _ mU_1244) (fun _ h9 => h9) rfl dX11_scaleIt_60 ?_
      refine lv_iload_n hx hb dX11_scaleIt_63 rfl (lv_at hl 1 rfl) ?_
      obtain ⟨zo10, hzo10, hF⟩ := z_bind hF
      refine z_calli (fun (_ : Unit) => []) [] (va_runS (As := [.int zo1]) (rest := [.ref q1, .int zo1, .ref q0]) ⟨hx, hb, hml, hown, hts⟩ (c_X11_at l g _ zo1 _ hzo10) (va_cwS 1 hts (gdS mU_1372 mU_1373 mU_75 mU_1374) rfl rfl rfl (by decide +kernel) ⟨Nat.le_of_ble_eq_true rfl, Nat.le_of_ble_eq_true rfl⟩) ⟨z_blind _ _ _ _, fun U hU hW => z_pre [] hP hD hK hB hS hA rfl rfl hU hW⟩ rfl rfl hl.1 rfl (lv_room (Nat.le_of_ble_eq_true rfl)) dX11_scaleIt_64 ⟨Nat.le_of_ble_eq_true rfl, Nat.le_of_ble_eq_true rfl⟩) hP hD hS hA rfl (fun _ => rfl) (fun r u H locs hw hP hD hS => ?_)
      subst hw
      have hP : va_P (gD g) zCl (wModel g q0 q1 q2 q3 q4 q5 q6 q7 q8 q9 q10 q11 q12 (vp_updL mm (Int32.toNatClampNeg (zo8 + 2)) (Int32.toInt64 p2)) masd msav misS mpst mchg merr mfai mthr minp minM mUp mcar mcam mahd magn mltr mbeg mcmd mcmM mpl msz mwr mlin mliM) H := hP
      have hD : va_D A (wModel g q0 q1 q2 q3 q4 q5 q6 q7 q8 q9 q10 q11 q12 (vp_updL mm (Int32.toNatClampNeg (zo8 + 2)) (Int32.toInt64 p2)) masd msav misS mpst mchg merr mfai mthr minp minM mUp mcar mcam mahd magn mltr mbeg mcmd mcmM mpl msz mwr mlin mliM) := hD
      refine lv_iconst (v := 1) hx hb dX11_scaleIt_67 (by decide) ?_
      refine lv_iadd hx hb dX11_scaleIt_68 ?_
      obtain ⟨zg11, hF⟩ := z_grd hF
      refine va_lald hx hb hK hP 1 2 rfl rfl zg11 dX11_scaleIt_69 ?_
      obtain ⟨zo12, hzo12, hF⟩ := z_bind hF
      refine z_callvE (fun (u : (Nat → Int64)) => (wModel g q0 q1 q2 q3 q4 q5 q6 q7 q8 q9 q10 q11 q12 u masd msav misS mpst mchg merr mfai mthr minp minM mUp mcar mcam mahd magn mltr mbeg mcmd mcmM mpl msz mwr mlin mliM)) (va_runV (As := [.int zo1, .long ((vp_updL mm (Int32.toNatClampNeg (zo8 + 2)) (Int32.toInt64 p2)) (Int32.toNatClampNeg (zo10 + 1)))]) (rest := []) ⟨hx, hb, hml, hown, hts⟩ (c_X11_becomes l g q0 q1 q2 q3 q4 q5 q6 q7 q8 q9 q10 q11 q12 (vp_updL mm (Int32.toNatClampNeg (zo8 + 2)) (Int32.toInt64 p2)) masd msav misS mpst mchg merr mfai mthr minp minM mUp mcar mcam mahd magn mltr mbeg mcmd mcmM mpl msz mwr mlin mliM _ zo1 ((vp_updL mm (Int32.toNatClampNeg (zo8 + 2)) (Int32.toInt64 p2)) (Int32.toNatClampNeg (zo10 + 1))) fu _ hzo12) (cwV 2 hts (gdV mU_1412 mU_1414 mU_39 mU_75 mU_1415) rfl rfl rfl (by decide +kernel) ⟨Nat.le_of_ble_eq_true rfl, Nat.le_of_ble_eq_true rfl⟩) ⟨z_blind _ _ _ _, va_recv hK hP (ci := 7) (q0 := 0) rfl rfl, fun U hU hW => z_preE hP hD hK hB hS hA hU hW⟩ rfl rfl hl.1 rfl (lv_room (Nat.le_of_ble_eq_true rfl)) dX11_scaleIt_70 ⟨Nat.le_of_ble_eq_true rfl, Nat.le_of_ble_eq_true rfl⟩) hD hS hA (fun _ => rfl) (fun u H locs hw hP hD hS => ?_)
      subst hw
      have hP : va_P (gD g) zCl (wModel g q0 q1 q2 q3 q4 q5 q6 q7 q8 q9 q10 q11 q12 zo12 masd msav misS mpst mchg merr mfai mthr minp minM mUp mcar mcam mahd magn mltr mbeg mcmd mcmM mpl msz mwr mlin mliM) H := hP
      have hD : va_D A (wModel g q0 q1 q2 q3 q4 q5 q6 q7 q8 q9 q10 q11 q12 zo12 masd msav misS mpst mchg merr mfai mthr minp minM mUp mcar mcam mahd magn mltr mbeg mcmd mcmM mpl msz mwr mlin mliM) := hD
      refine lv_iload hx hb dX11_scaleIt_73 (lv_at hl 0 rfl) ?_
      have ho := (Option.some.inj hF).symm
      exact W.iret (v := zv7) hx hb hr (fun t ht hW => ⟨⟨zv7, (zo12, mthr), rfl, ⟨by rw [ho], by rw [ho]⟩, z_end ht hP⟩, hS.F ht⟩) hS.2.2 dX11_scaleIt_75
    · have hF := z_pos hF zc4
      refine lv_aload_n hx hb dX11_scaleIt_24 rfl (lv_at hl 1 rfl) ?_
      refine lv_iconst (v := 2) hx hb dX11_scaleIt_25 (by decide) ?_
      obtain ⟨zo13, hzo13, hF⟩ := z_bind hF
      refine z_calliE (fun (u : Int32) => (wModel g q0 q1 q2 q3 q4 q5 q6 q7 q8 q9 q10 q11 q12 mm masd msav misS mpst mchg merr mfai u minp minM mUp mcar mcam mahd magn mltr mbeg mcmd mcmM mpl msz mwr mlin mliM)) (va_runV (As := [.int 2]) (rest := []) ⟨hx, hb, hml, hown, hts⟩ (c_X11_throwing l g q0 q1 q2 q3 q4 q5 q6 q7 q8 q9 q10 q11 q12 mm masd msav misS mpst mchg merr mfai mthr minp minM mUp mcar mcam mahd magn mltr mbeg mcmd mcmM mpl msz mwr mlin mliM _ 2 _ hzo13) (cwV 1 hts (gdV mU_1352 mU_1354 mU_31 mU_75 mU_1355) rfl rfl rfl (by decide +kernel) ⟨Nat.le_of_ble_eq_true rfl, Nat.le_of_ble_eq_true rfl⟩) ⟨z_blind _ _ _ _, va_recv hK hP (ci := 7) (q0 := 0) rfl rfl, fun U hU hW => z_preE hP hD hK hB hS hA hU hW⟩ rfl rfl hl.1 rfl (lv_room (Nat.le_of_ble_eq_true rfl)) dX11_scaleIt_26 ⟨Nat.le_of_ble_eq_true rfl, Nat.le_of_ble_eq_true rfl⟩) hD hS hA (fun _ => rfl) (fun r u H locs hw hP hD hS => ?_)
      obtain ⟨rfl, rfl⟩ := hw
      have hP : va_P (gD g) zCl (wModel g q0 q1 q2 q3 q4 q5 q6 q7 q8 q9 q10 q11 q12 mm masd msav misS mpst mchg merr mfai zo13.2 minp minM mUp mcar mcam mahd magn mltr mbeg mcmd mcmM mpl msz mwr mlin mliM) H := hP
      have hD : va_D A (wModel g q0 q1 q2 q3 q4 q5 q6 q7 q8 q9 q10 q11 q12 mm masd msav misS mpst mchg merr mfai zo13.2 minp minM mUp mcar mcam mahd magn mltr mbeg mcmd mcmM mpl msz mwr mlin mliM) := hD
      have ho := (Option.some.inj hF).symm
      exact W.iret (v := zo13.1) hx hb hr (fun t ht hW => ⟨⟨zo13.1, (mm, zo13.2), rfl, ⟨by rw [ho], by rw [ho]⟩, z_end ht hP⟩, hS.F ht⟩) hS.2.2 dX11_scaleIt_29
  · have hF := z_pos hF zc2
    refine lv_aload_n hx hb dX11_scaleIt_11 rfl (lv_at hl 1 rfl) ?_
    refine lv_iconst (v := 1) hx hb dX11_scaleIt_12 (by decide) ?_
    obtain ⟨zo14, hzo14, hF⟩ := z_bind hF
    refine z_calliE (fun (u : Int32) => (wModel g q0 q1 q2 q3 q4 q5 q6 q7 q8 q9 q10 q11 q12 mm masd msav misS mpst mchg merr mfai u minp minM mUp mcar mcam mahd magn mltr mbeg mcmd mcmM mpl msz mwr mlin mliM)) (va_runV (As := [.int 1]) (rest := []) ⟨hx, hb, hml, hown, hts⟩ (c_X11_throwing l g q0 q1 q2 q3 q4 q5 q6 q7 q8 q9 q10 q11 q12 mm masd msav misS mpst mchg merr mfai mthr minp minM mUp mcar mcam mahd magn mltr mbeg mcmd mcmM mpl msz mwr mlin mliM _ 1 _ hzo14) (cwV 1 hts (gdV mU_1352 mU_1354 mU_31 mU_75 mU_1355) rfl rfl rfl (by decide +kernel) ⟨Nat.le_of_ble_eq_true rfl, Nat.le_of_ble_eq_true rfl⟩) ⟨z_blind _ _ _ _, va_recv hK hP (ci := 7) (q0 := 0) rfl rfl, fun U hU hW => z_preE hP hD hK hB hS hA hU hW⟩ rfl rfl hl.1 rfl (lv_room (Nat.le_of_ble_eq_true rfl)) dX11_scaleIt_13 ⟨Nat.le_of_ble_eq_true rfl, Nat.le_of_ble_eq_true rfl⟩) hD hS hA (fun _ => rfl) (fun r u H locs hw hP hD hS => ?_)
    obtain ⟨rfl, rfl⟩ := hw
    have hP : va_P (gD g) zCl (wModel g q0 q1 q2 q3 q4 q5 q6 q7 q8 q9 q10 q11 q12 mm masd msav misS mpst mchg merr mfai zo14.2 minp minM mUp mcar mcam mahd magn mltr mbeg mcmd mcmM mpl msz mwr mlin mliM) H := hP
    have hD : va_D A (wModel g q0 q1 q2 q3 q4 q5 q6 q7 q8 q9 q10 q11 q12 mm masd msav misS mpst mchg merr mfai zo14.2 minp minM mUp mcar mcam mahd magn mltr mbeg mcmd mcmM mpl msz mwr mlin mliM) := hD
    have ho := (Option.some.inj hF).symm
    exact W.iret (v := zo14.1) hx hb hr (fun t ht hW => ⟨⟨zo14.1, (mm, zo14.2), rfl, ⟨by rw [ho], by rw [ho]⟩, z_end ht hP⟩, hS.F ht⟩) hS.2.2 dX11_scaleIt_16
abbrev w_X11_setScale : List Cond := .code yX11_setScale cX11_setScale 4 (some .int) :: wU
abbrev r_X11_setScale : Room := { frames := 4, cells := 0, slots := 0, locals := 101 }
abbrev q_X11_setScale (g : GG) (q0 q1 q2 q3 q4 q5 q6 q7 q8 q9 q10 q11 q12 : Nat) (mm : Nat → Int64) (masd : Nat → Int64) (msav : Nat → Int64) (misS : Int32) (mpst : Nat → Int64) (mchg : Int32) (merr : Int32) (mfai : Int32) (mthr : Int32) (minp : Nat → Int32) (minM : Int32) (mUp : Nat → Int32) (mcar : Nat → Int32) (mcam : Nat → Int32) (mahd : Int32) (magn : Int32) (mltr : Nat → Int32) (mbeg : Nat → Int32) (mcmd : Nat → Int32) (mcmM : Int32) (mpl : Int32) (msz : Int32) (mwr : Int32) (mlin : Nat → Int32) (mliM : Int32) (o : Int32 × (Nat → Int64) × (Nat → Int64) × (Nat → Int64) × Int32 × Int32) (A : Nat → Prop) := va_Qi (fun (r : Int32) (u : (Nat → Int64) × (Nat → Int64) × (Nat → Int64) × Int32 × Int32) => o.1 = r ∧ o.2 = u) (fun u t => va_P (gD g) zCl (wModel g q0 q1 q2 q3 q4 q5 q6 q7 q8 q9 q10 q11 q12 u.1 u.2.1 msav misS u.2.2.1 u.2.2.2.1 merr mfai u.2.2.2.2 minp minM mUp mcar mcam mahd magn mltr mbeg mcmd mcmM mpl msz mwr mlin mliM) t.heap) A
set_option maxHeartbeats 4000000 in
set_option maxRecDepth 100000 in
theorem c_X11_setScale (l : Launch) (g : GG) (q0 q1 q2 q3 q4 q5 q6 q7 q8 q9 q10 q11 q12 : Nat) (mm : Nat → Int64) (masd : Nat → Int64) (msav : Nat → Int64) (misS : Int32) (mpst : Nat → Int64) (mchg : Int32) (merr : Int32) (mfai : Int32) (mthr : Int32) (minp : Nat → Int32) (minM : Int32) (mUp : Nat → Int32) (mcar : Nat → Int32) (mcam : Nat → Int32) (mahd : Int32) (magn : Int32) (mltr : Nat → Int32) (mbeg : Nat → Int32) (mcmd : Nat → Int32) (mcmM : Int32) (mpl : Int32) (msz : Int32) (mwr : Int32) (mlin : Nat → Int32) (mliM : Int32) (sz : Nat) (p1 : Int32) (p2 : Int32) (fu : Nat) (o : Int32 × (Nat → Int64) × (Nat → Int64) × (Nat → Int64) × Int32 × Int32) (hF : F_X11_setScale fu mm masd mpst mchg mthr p1 p2 = some o) : Met l yX11_setScale w_X11_setScale r_X11_setScale (va_Pc [.ref q0, .int p1, .int p2] (zP g (wModel g q0 q1 q2 q3 q4 q5 q6 q7 q8 q9 q10 q11 q12 mm masd msav misS mpst mchg merr mfai mthr minp minM mUp mcar mcam mahd magn mltr mbeg mcmd mcmM mpl msz mwr mlin mliM) sz)) (q_X11_setScale g q0 q1 q2 q3 q4 q5 q6 q7 q8 q9 q10 q11 q12 mm masd msav misS mpst mchg merr mfai mthr minp minM mUp mcar mcam mahd magn mltr mbeg mcmd mcmM mpl msz mwr mlin mliM o (va_A (wModel g q0 q1 q2 q3 q4 q5 q6 q7 q8 q9 q10 q11 q12 mm masd msav misS mpst mchg merr mfai mthr minp minM mUp mcar mcam mahd magn mltr mbeg mcmd mcmM mpl msz mwr mlin mliM) sz)) 0 0 (va_A (wModel g q0 q1 q2 q3 q4 q5 q6 q7 q8 q9 q10 q11 q12 mm masd msav misS mpst mchg merr mfai mthr minp minM mUp mcar mcam mahd magn mltr mbeg mcmd mcmM mpl msz mwr mlin mliM) sz) := by
  refine Met.ofW (cc := cX11_setScale) (maxL := 4) (ret := (some .int)) (by decide) rfl ?_
  intro p e s m args below meth c s₁ B hml hv
  obtain ⟨rfl, rfl, hP, hK, hD0, hB⟩ := hv
  have hx := B.exec
  have hb := B.bytes
  have hr := B.returns
  have hts : ∀ w ∈ wU, w.before _ s = true := fun w h => atoms_spec (ws := w_X11_setScale) B.pre w (List.mem_cons_of_mem _ h)
  have hown : s.vm.findClass RX11 = some m.cls := findClass_of_methodNamed B.named
  have hlocks := B.notSynchronized
  have hD := hD0.self (sz := s.heap.size)
  generalize hAe : va_A (wModel g q0 q1 q2 q3 q4 q5 q6 q7 q8 q9 q10 q11 q12 mm masd msav misS mpst mchg merr mfai mthr minp minM mUp mcar mcam mahd magn mltr mbeg mcmd mcmM mpl msz mwr mlin mliM) s.heap.size = A at hD hB ⊢
  have hA : ∀ q : Nat, s.heap.size ≤ q → A q := fun q h => by rw [← hAe]; exact Or.inr h
  have hS : va_S A s.heap s.heap [] := va_S.rf
  have hl := lv_entry ([.ref q0, .int p1, .int p2]) (n := 4) (Nat.le_of_ble_eq_true rfl)
  rw [lg_entry_eq]
  generalize (lg_sl ([.ref q0, .int p1, .int p2]) ++ List.replicate (4 - (lg_sl ([.ref q0, .int p1, .int p2])).length) Slot.unset).toArray = ls at hl ⊢
  have hl : lv_has ls 4 [(0, .ref q0), (1, .int p1), (2, .int p2)] := hl
  unfold F_X11_setScale at hF
  refine lv_aload_n hx hb dX11_setScale_0 rfl (lv_at hl 0 rfl) ?_
  obtain ⟨zo1, hzo1, hF⟩ := z_bind hF
  refine z_callvE (fun (u : (Nat → Int64) × Int32) => (wModel g q0 q1 q2 q3 q4 q5 q6 q7 q8 q9 q10 q11 q12 mm u.1 msav misS mpst mchg merr mfai u.2 minp minM mUp mcar mcam mahd magn mltr mbeg mcmd mcmM mpl msz mwr mlin mliM)) (va_runV (As := []) (rest := []) ⟨hx, hb, hml, hown, hts⟩ (c_X11_starts l g q0 q1 q2 q3 q4 q5 q6 q7 q8 q9 q10 q11 q12 mm masd msav misS mpst mchg merr mfai mthr minp minM mUp mcar mcam mahd magn mltr mbeg mcmd mcmM mpl msz mwr mlin mliM _ fu _ hzo1) (cwV 0 hts (gdV mU_1329 mU_1331 mU_29 mU_75 mU_1332) rfl rfl rfl (by decide +kernel) ⟨Nat.le_of_ble_eq_true rfl, Nat.le_of_ble_eq_true rfl⟩) ⟨z_blind _ _ _ _, va_recv hK hP (ci := 7) (q0 := 0) rfl rfl, fun U hU hW => z_preE hP hD hK hB hS hA hU hW⟩ rfl rfl hl.1 rfl (lv_room (Nat.le_of_ble_eq_true rfl)) dX11_setScale_1 ⟨Nat.le_of_ble_eq_true rfl, Nat.le_of_ble_eq_true rfl⟩) hD hS hA (fun _ => rfl) (fun u H locs hw hP hD hS => ?_)
  subst hw
  have hP : va_P (gD g) zCl (wModel g q0 q1 q2 q3 q4 q5 q6 q7 q8 q9 q10 q11 q12 mm zo1.1 msav misS mpst mchg merr mfai zo1.2 minp minM mUp mcar mcam mahd magn mltr mbeg mcmd mcmM mpl msz mwr mlin mliM) H := hP
  have hD : va_D A (wModel g q0 q1 q2 q3 q4 q5 q6 q7 q8 q9 q10 q11 q12 mm zo1.1 msav misS mpst mchg merr mfai zo1.2 minp minM mUp mcar mcam mahd magn mltr mbeg mcmd mcmM mpl msz mwr mlin mliM) := hD
  refine lv_aload_n hx hb dX11_setScale_4 rfl (lv_at hl 0 rfl) ?_
  refine lv_iload_n hx hb dX11_setScale_5 rfl (lv_at hl 1 rfl) ?_
  refine lv_iload_n hx hb dX11_setScale_6 rfl (lv_at hl 2 rfl) ?_
  obtain ⟨zo2, hzo2, hF⟩ := z_bind hF
  refine z_calliE (fun (u : (Nat → Int64) × Int32) => (wModel g q0 q1 q2 q3 q4 q5 q6 q7 q8 q9 q10 q11 q12 u.1 zo1.1 msav misS mpst mchg merr mfai u.2 minp minM mUp mcar mcam mahd magn mltr mbeg mcmd mcmM mpl msz mwr mlin mliM)) (va_runV (As := [.int p1, .int p2]) (rest := []) ⟨hx, hb, hml, hown, hts⟩ (c_X11_scaleIt l g q0 q1 q2 q3 q4 q5 q6 q7 q8 q9 q10 q11 q12 mm zo1.1 msav misS mpst mchg merr mfai zo1.2 minp minM mUp mcar mcam mahd magn mltr mbeg mcmd mcmM mpl msz mwr mlin mliM _ p1 p2 fu _ hzo2) (cwV 2 hts (gdV mU_1432 mU_1434 mU_41 mU_75 mU_1435) rfl rfl rfl (by decide +kernel) ⟨Nat.le_of_ble_eq_true rfl, Nat.le_of_ble_eq_true rfl⟩) ⟨z_blind _ _ _ _, va_recv hK hP (ci := 7) (q0 := 0) rfl rfl, fun U hU hW => z_preE hP hD hK hB hS hA hU hW⟩ rfl rfl hl.1 rfl (lv_room (Nat.le_of_ble_eq_true rfl)) dX11_setScale_7 ⟨Nat.le_of_ble_eq_true rfl, Nat.le_of_ble_eq_true rfl⟩) hD hS hA (fun _ => rfl) (fun r u H locs hw hP hD hS => ?_)
  obtain ⟨rfl, rfl⟩ := hw
  have hP : va_P (gD g) zCl (wModel g q0 q1 q2 q3 q4 q5 q6 q7 q8 q9 q10 q11 q12 zo2.2.1 zo1.1 msav misS mpst mchg merr mfai zo2.2.2 minp minM mUp mcar mcam mahd magn mltr mbeg mcmd mcmM mpl msz mwr mlin mliM) H := hP
  have hD : va_D A (wModel g q0 q1 q2 q3 q4 q5 q6 q7 q8 q9 q10 q11 q12 zo2.2.1 zo1.1 msav misS mpst mchg merr mfai zo2.2.2 minp minM mUp mcar mcam mahd magn mltr mbeg mcmd mcmM mpl msz mwr mlin mliM) := hD
  refine lv_istore_n (lv' := [(3, .int zo2.1), (0, .ref q0), (1, .int p1), (2, .int p2)]) hx hb dX11_setScale_10 rfl hl (by decide) rfl (fun ls hl => ?_)
  refine lv_aload_n hx hb dX11_setScale_11 rfl (lv_at hl 1 rfl) ?_
  obtain ⟨zo3, hzo3, hF⟩ := z_bind hF
  refine z_callvE (fun (u : (Nat → Int64) × Int32) => (wModel g q0 q1 q2 q3 q4 q5 q6 q7 q8 q9 q10 q11 q12 zo2.2.1 zo1.1 msav misS u.1 u.2 merr mfai zo2.2.2 minp minM mUp mcar mcam mahd magn mltr mbeg mcmd mcmM mpl msz mwr mlin mliM)) (va_runV (As := []) (rest := []) ⟨hx, hb, hml, hown, hts⟩ (c_X11_ends l g q0 q1 q2 q3 q4 q5 q6 q7 q8 q9 q10 q11 q12 zo2.2.1 zo1.1 msav misS mpst mchg merr mfai zo2.2.2 minp minM mUp mcar mcam mahd magn mltr mbeg mcmd mcmM mpl msz mwr mlin mliM _ fu _ hzo3) (cwV 0 hts (gdV mU_1375 mU_1377 mU_34 mU_75 mU_1378) rfl rfl rfl (by decide +kernel) ⟨Nat.le_of_ble_eq_true rfl, Nat.le_of_ble_eq_true rfl⟩) ⟨z_blind _ _ _ _, va_recv hK hP (ci := 7) (q0 := 0) rfl rfl, fun U hU hW => z_preE hP hD hK hB hS hA hU hW⟩ rfl rfl hl.1 rfl (lv_room (Nat.le_of_ble_eq_true rfl)) dX11_setScale_12 ⟨Nat.le_of_ble_eq_true rfl, Nat.le_of_ble_eq_true rfl⟩) hD hS hA (fun _ => rfl) (fun u H locs hw hP hD hS => ?_)
  subst hw
  have hP : va_P (gD g) zCl (wModel g q0 q1 q2 q3 q4 q5 q6 q7 q8 q9 q10 q11 q12 zo2.2.1 zo1.1 msav misS zo3.1 zo3.2 merr mfai zo2.2.2 minp minM mUp mcar mcam mahd magn mltr mbeg mcmd mcmM mpl msz mwr mlin mliM) H := hP
  have hD : va_D A (wModel g q0 q1 q2 q3 q4 q5 q6 q7 q8 q9 q10 q11 q12 zo2.2.1 zo1.1 msav misS zo3.1 zo3.2 merr mfai zo2.2.2 minp minM mUp mcar mcam mahd magn mltr mbeg mcmd mcmM mpl msz mwr mlin mliM) := hD
  refine lv_iload_n hx hb dX11_setScale_15 rfl (lv_at hl 0 rfl) ?_
  have ho := (Option.some.inj hF).symm
  exact W.iret (v := zo2.1) hx hb hr (fun t ht hW => ⟨⟨zo2.1, (zo2.2.1, zo1.1, zo3.1, zo3.2, zo2.2.2), rfl, ⟨by rw [ho], by rw [ho]⟩, z_end ht hP⟩, hS.F ht⟩) hS.2.2 dX11_setScale_16
abbrev w_X11_modeIt : List Cond := .code yX11_modeIt cX11_modeIt 5 (some .int) :: wU
abbrev r_X11_modeIt : Room := { frames := 2, cells := 0, slots := 0, locals := 42 }
abbrev q_X11_modeIt (g : GG) (q0 q1 q2 q3 q4 q5 q6 q7 q8 q9 q10 q11 q12 : Nat) (mm : Nat → Int64) (masd : Nat → Int64) (msav : Nat → Int64) (misS : Int32) (mpst : Nat → Int64) (mchg : Int32) (merr : Int32) (mfai : Int32) (mthr : Int32) (minp : Nat → Int32) (minM : Int32) (mUp : Nat → Int32) (mcar : Nat → Int32) (mcam : Nat → Int32) (mahd : Int32) (magn : Int32) (mltr : Nat → Int32) (mbeg : Nat → Int32) (mcmd : Nat → Int32) (mcmM : Int32) (mpl : Int32) (msz : Int32) (mwr : Int32) (mlin : Nat → Int32) (mliM : Int32) (o : Int32 × (Nat → Int64) × Int32) (A : Nat → Prop) := va_Qi (fun (r : Int32) (u : (Nat → Int64) × Int32) => o.1 = r ∧ o.2 = u) (fun u t => va_P (gD g) zCl (wModel g q0 q1 q2 q3 q4 q5 q6 q7 q8 q9 q10 q11 q12 u.1 masd msav misS mpst mchg merr mfai u.2 minp minM mUp mcar mcam mahd magn mltr mbeg mcmd mcmM mpl msz mwr mlin mliM) t.heap) A
set_option maxHeartbeats 4000000 in
set_option maxRecDepth 100000 in
theorem c_X11_modeIt (l : Launch) (g : GG) (q0 q1 q2 q3 q4 q5 q6 q7 q8 q9 q10 q11 q12 : Nat) (mm : Nat → Int64) (masd : Nat → Int64) (msav : Nat → Int64) (misS : Int32) (mpst : Nat → Int64) (mchg : Int32) (merr : Int32) (mfai : Int32) (mthr : Int32) (minp : Nat → Int32) (minM : Int32) (mUp : Nat → Int32) (mcar : Nat → Int32) (mcam : Nat → Int32) (mahd : Int32) (magn : Int32) (mltr : Nat → Int32) (mbeg : Nat → Int32) (mcmd : Nat → Int32) (mcmM : Int32) (mpl : Int32) (msz : Int32) (mwr : Int32) (mlin : Nat → Int32) (mliM : Int32) (sz : Nat) (p1 : Int32) (p2 : Int32) (fu : Nat) (o : Int32 × (Nat → Int64) × Int32) (hF : F_X11_modeIt fu mm mthr p1 p2 = some o) : Met l yX11_modeIt w_X11_modeIt r_X11_modeIt (va_Pc [.ref q0, .int p1, .int p2] (zP g (wModel g q0 q1 q2 q3 q4 q5 q6 q7 q8 q9 q10 q11 q12 mm masd msav misS mpst mchg merr mfai mthr minp minM mUp mcar mcam mahd magn mltr mbeg mcmd mcmM mpl msz mwr mlin mliM) sz)) (q_X11_modeIt g q0 q1 q2 q3 q4 q5 q6 q7 q8 q9 q10 q11 q12 mm masd msav misS mpst mchg merr mfai mthr minp minM mUp mcar mcam mahd magn mltr mbeg mcmd mcmM mpl msz mwr mlin mliM o (va_A (wModel g q0 q1 q2 q3 q4 q5 q6 q7 q8 q9 q10 q11 q12 mm masd msav misS mpst mchg merr mfai mthr minp minM mUp mcar mcam mahd magn mltr mbeg mcmd mcmM mpl msz mwr mlin mliM) sz)) 0 0 (va_A (wModel g q0 q1 q2 q3 q4 q5 q6 q7 q8 q9 q10 q11 q12 mm masd msav misS mpst mchg merr mfai mthr minp minM mUp mcar mcam mahd magn mltr mbeg mcmd mcmM mpl msz mwr mlin mliM) sz) := by
  refine Met.ofW (cc := cX11_modeIt) (maxL := 5) (ret := (some .int)) (by decide) rfl ?_
  intro p e s m args below meth c s₁ B hml hv
  obtain ⟨rfl, rfl, hP, hK, hD0, hB⟩ := hv
  have hx := B.exec
  have hb := B.bytes
  have hr := B.returns
  have hts : ∀ w ∈ wU, w.before _ s = true := fun w h => atoms_spec (ws := w_X11_modeIt) B.pre w (List.mem_cons_of_mem _ h)
  have hown : s.vm.findClass RX11 = some m.cls := findClass_of_methodNamed B.named
  have hlocks := B.notSynchronized
  have hD := hD0.self (sz := s.heap.size)
  generalize hAe : va_A (wModel g q0 q1 q2 q3 q4 q5 q6 q7 q8 q9 q10 q11 q12 mm masd msav misS mpst mchg merr mfai mthr minp minM mUp mcar mcam mahd magn mltr mbeg mcmd mcmM mpl msz mwr mlin mliM) s.heap.size = A at hD hB ⊢
  have hA : ∀ q : Nat, s.heap.size ≤ q → A q := fun q h => by rw [← hAe]; exact Or.inr h
  have hS : va_S A s.heap s.heap [] := va_S.rf
  have hl := lv_entry ([.ref q0, .int p1, .int p2]) (n := 5) (Nat.le_of_ble_eq_true rfl)
  rw [lg_entry_eq]
  generalize (lg_sl ([.ref q0, .int p1, .int p2]) ++ List.replicate (5 - (lg_sl ([.ref q0, .int p1, .int p2])).length) Slot.unset).toArray = ls at hl ⊢
  have hl : lv_has ls 5 [(0, .ref q0), (1, .int p1), (2, .int p2)] := hl
  unfold F_X11_modeIt at hF
  refine lv_aload_n hx hb dX11_modeIt_0 rfl (lv_at hl 0 rfl) ?_
  refine lv_iload_n hx hb dX11_modeIt_1 rfl (lv_at hl 1 rfl) ?_
  obtain ⟨zo1, hzo1, hF⟩ := z_bind hF
  refine z_calliE (fun (_ : Unit) => (wModel g q0 q1 q2 q3 q4 q5 q6 q7 q8 q9 q10 q11 q12 mm masd msav misS mpst mchg merr mfai mthr minp minM mUp mcar mcam mahd magn mltr mbeg mcmd mcmM mpl msz mwr mlin mliM)) (va_runV (As := [.int p1]) (rest := []) ⟨hx, hb, hml, hown, hts⟩ (c_X11_find l g q0 q1 q2 q3 q4 q5 q6 q7 q8 q9 q10 q11 q12 mm masd msav misS mpst mchg merr mfai mthr minp minM mUp mcar mcam mahd magn mltr mbeg mcmd mcmM mpl msz mwr mlin mliM _ p1 fu _ hzo1) (cwV 1 hts (gdV mU_1400 mU_1402 mU_37 mU_75 mU_1403) rfl rfl rfl (by decide +kernel) ⟨Nat.le_of_ble_eq_true rfl, Nat.le_of_ble_eq_true rfl⟩) ⟨z_blind _ _ _ _, va_recv hK hP (ci := 7) (q0 := 0) rfl rfl, fun U hU hW => z_preE hP hD hK hB hS hA hU hW⟩ rfl rfl hl.1 rfl (lv_room (Nat.le_of_ble_eq_true rfl)) dX11_modeIt_2 ⟨Nat.le_of_ble_eq_true rfl, Nat.le_of_ble_eq_true rfl⟩) hD hS hA (fun _ => rfl) (fun r u H locs hw hP hD hS => ?_)
  subst hw
  have hP : va_P (gD g) zCl (wModel g q0 q1 q2 q3 q4 q5 q6 q7 q8 q9 q10 q11 q12 mm masd msav misS mpst mchg merr mfai mthr minp minM mUp mcar mcam mahd magn mltr mbeg mcmd mcmM mpl msz mwr mlin mliM) H := hP
  have hD : va_D A (wModel g q0 q1 q2 q3 q4 q5 q6 q7 q8 q9 q10 q11 q12 mm masd msav misS mpst mchg merr mfai mthr minp minM mUp mcar mcam mahd magn mltr mbeg mcmd mcmM mpl msz mwr mlin mliM) := hD
  refine lv_istore_n (lv' := [(3, .int zo1), (0, .ref q0), (1, .int p1), (2, .int p2)]) hx hb dX11_modeIt_5 rfl hl (by decide) rfl (fun ls hl => ?_)
  refine lv_iload_n hx hb dX11_modeIt_6 rfl (lv_at hl 0 rfl) ?_
  refine lv_iconst (v := (-1)) hx hb dX11_modeIt_7 (by decide) ?_
  refine lv_icmp_ne (tgt := 17) hx hb dX11_modeIt_8 (by decide) (fun zc2 => ?_) (fun zc2 => ?_)
  · have hF := z_neg hF zc2
    refine lv_iload_n hx hb dX11_modeIt_17 rfl (lv_at hl 3 rfl) ?_
    obtain ⟨zo3, hzo3, hF⟩ := z_bind hF
    refine z_calli (fun (_ : Unit) => []) [] (va_runS (As := [.int p2]) (rest := []) ⟨hx, hb, hml, hown, hts⟩ (c_X11_isMode l g _ p2 _ hzo3) (va_cwS 1 hts (gdS mU_1349 mU_1350 mU_75 mU_1351) rfl rfl rfl (by decide +kernel) ⟨Nat.le_of_ble_eq_true rfl, Nat.le_of_ble_eq_true rfl⟩) ⟨z_blind _ _ _ _, fun U hU hW => z_pre [] hP hD hK hB hS hA rfl rfl hU hW⟩ rfl rfl hl.1 rfl (lv_room (Nat.le_of_ble_eq_true rfl)) dX11_modeIt_18 ⟨Nat.le_of_ble_eq_true rfl, Nat.le_of_ble_eq_true rfl⟩) hP hD hS hA rfl (fun _ => rfl) (fun r u H locs hw hP hD hS => ?_)
    subst hw
    have hP : va_P (gD g) zCl (wModel g q0 q1 q2 q3 q4 q5 q6 q7 q8 q9 q10 q11 q12 mm masd msav misS mpst mchg merr mfai mthr minp minM mUp mcar mcam mahd magn mltr mbeg mcmd mcmM mpl msz mwr mlin mliM) H := hP
    have hD : va_D A (wModel g q0 q1 q2 q3 q4 q5 q6 q7 q8 q9 q10 q11 q12 mm masd msav misS mpst mchg merr mfai mthr minp minM mUp mcar mcam mahd magn mltr mbeg mcmd mcmM mpl msz mwr mlin mliM) := hD
    refine lv_if_ne (tgt := 30) hx hb dX11_modeIt_21 (by decide) (fun zc4 => ?_) (fun zc4 => ?_)
    · have hF := z_neg hF zc4
      refine lv_aload_n hx hb dX11_modeIt_30 rfl (lv_at hl 1 rfl) ?_
      refine va_get (D := gD g) (ci := 7) (v := .ref q1) (C := RX11) (T := TX11) (N := 25) hx hb hts inX11 hown hK hP 0 rfl rfl 0 (by decide) (hts _ mU_1244) (fun _ h9 => h9) rfl dX11_modeIt_31 ?_
      refine lv_iload_n hx hb dX11_modeIt_34 rfl (lv_at hl 0 rfl) ?_
      obtain ⟨zo5, hzo5, hF⟩ := z_bind hF
      refine z_calli (fun (_ : Unit) => []) [] (va_runS (As := [.int zo1]) (rest := [.ref q1]) ⟨hx, hb, hml, hown, hts⟩ (c_X11_at l g _ zo1 _ hzo5) (va_cwS 1 hts (gdS mU_1372 mU_1373 mU_75 mU_1374) rfl rfl rfl (by decide +kernel) ⟨Nat.le_of_ble_eq_true rfl, Nat.le_of_ble_eq_true rfl⟩) ⟨z_blind _ _ _ _, fun U hU hW => z_pre [] hP hD hK hB hS hA rfl rfl hU hW⟩ rfl rfl hl.1 rfl (lv_room (Nat.le_of_ble_eq_true rfl)) dX11_modeIt_35 ⟨Nat.le_of_ble_eq_true rfl, Nat.le_of_ble_eq_true rfl⟩) hP hD hS hA rfl (fun _ => rfl) (fun r u H locs hw hP hD hS => ?_)
      subst hw
      have hP : va_P (gD g) zCl (wModel g q0 q1 q2 q3 q4 q5 q6 q7 q8 q9 q10 q11 q12 mm masd msav misS mpst mchg merr mfai mthr minp minM mUp mcar mcam mahd magn mltr mbeg mcmd mcmM mpl msz mwr mlin mliM) H := hP
      have hD : va_D A (wModel g q0 q1 q2 q3 q4 q5 q6 q7 q8 q9 q10 q11 q12 mm masd msav misS mpst mchg merr mfai mthr minp minM mUp mcar mcam mahd magn mltr mbeg mcmd mcmM mpl msz mwr mlin mliM) := hD
      refine lv_iconst (v := 3) hx hb dX11_modeIt_38 (by decide) ?_
      refine lv_iadd hx hb dX11_modeIt_39 ?_
      obtain ⟨zg6, hF⟩ := z_grd hF
      refine va_lald hx hb hK hP 1 2 rfl rfl zg6 dX11_modeIt_40 ?_
      refine lv_l2i (v := (Int64.toInt32 (mm (Int32.toNatClampNeg (zo5 + 3))))) hx hb dX11_modeIt_41 rfl ?_
      obtain ⟨zv7, ezv7, hF⟩ := z_let hF
      refine z_topi ezv7 ?_
      refine lv_istore (lv' := [(4, .int zv7), (3, .int zo1), (0, .ref q0), (1, .int p1), (2, .int p2)]) hx hb dX11_modeIt_42 hl (by decide) rfl (fun ls hl => ?_)
      refine lv_aload_n hx hb dX11_modeIt_44 rfl (lv_at hl 2 rfl) ?_
      refine va_get (D := gD g) (ci := 7) (v := .ref q1) (C := RX11) (T := TX11) (N := 25) hx hb hts inX11 hown hK hP 0 rfl rfl 0 (by decide) (hts _ mU_1244) (fun _ h9 => h9) rfl dX11_modeIt_45 ?_
      refine lv_iload_n hx hb dX11_modeIt_48 rfl (lv_at hl 1 rfl) ?_
      obtain ⟨zo8, hzo8, hF⟩ := z_bind hF
      refine z_calli (fun (_ : Unit) => []) [] (va_runS (As := [.int zo1]) (rest := [.ref q1]) ⟨hx, hb, hml, hown, hts⟩ (c_X11_at l g _ zo1 _ hzo8) (va_cwS 1 hts (gdS mU_1372 mU_1373 mU_75 mU_1374) rfl rfl rfl (by decide +kernel) ⟨Nat.le_of_ble_eq_true rfl, Nat.le_of_ble_eq_true rfl⟩) ⟨z_blind _ _ _ _, fun U hU hW => z_pre [] hP hD hK hB hS hA rfl rfl hU hW⟩ rfl rfl hl.1 rfl (lv_room (Nat.le_of_ble_eq_true rfl)) dX11_modeIt_49 ⟨Nat.le_of_ble_eq_true rfl, Nat.le_of_ble_eq_true rfl⟩) hP hD hS hA rfl (fun _ => rfl) (fun r u H locs hw hP hD hS => ?_)
      subst hw
      have hP : va_P (gD g) zCl (wModel g q0 q1 q2 q3 q4 q5 q6 q7 q8 q9 q10 q11 q12 mm masd msav misS mpst mchg merr mfai mthr minp minM mUp mcar mcam mahd magn mltr mbeg mcmd mcmM mpl msz mwr mlin mliM) H := hP
      have hD : va_D A (wModel g q0 q1 q2 q3 q4 q5 q6 q7 q8 q9 q10 q11 q12 mm masd msav misS mpst mchg merr mfai mthr minp minM mUp mcar mcam mahd magn mltr mbeg mcmd mcmM mpl msz mwr mlin mliM) := hD
      refine lv_iconst (v := 3) hx hb dX11_modeIt_52 (by decide) ?_
      refine lv_iadd hx hb dX11_modeIt_53 ?_
      refine lv_iload_n hx hb dX11_modeIt_54 rfl (lv_at hl 4 rfl) ?_
      refine lv_i2l (v := (Int32.toInt64 p2)) hx hb dX11_modeIt_55 rfl ?_
      obtain ⟨zg9, hF⟩ := z_grd hF
      refine va_last hx hb hK hP hD hS 1 2 rfl rfl zg9 dX11_modeIt_56 (fun H locs hP hD hS => ?_)
      have hP : va_P (gD g) zCl (wModel g q0 q1 q2 q3 q4 q5 q6 q7 q8 q9 q10 q11 q12 (vp_updL mm (Int32.toNatClampNeg (zo8 + 3)) (Int32.toInt64 p2)) masd msav misS mpst mchg merr mfai mthr minp minM mUp mcar mcam mahd magn mltr mbeg mcmd mcmM mpl msz mwr mlin mliM) H := hP
      have hD : va_D A (wModel g q0 q1 q2 q3 q4 q5 q6 q7 q8 q9 q10 q11 q12 (vp_updL mm (Int32.toNatClampNeg (zo8 + 3)) (Int32.toInt64 p2)) masd msav misS mpst mchg merr mfai mthr minp minM mUp mcar mcam mahd magn mltr mbeg mcmd mcmM mpl msz mwr mlin mliM) := hD
      refine lv_iload hx hb dX11_modeIt_57 (lv_at hl 0 rfl) ?_
      have ho := (Option.some.inj hF).symm
      exact W.iret (v := zv7) hx hb hr (fun t ht hW => ⟨⟨zv7, ((vp_updL mm (Int32.toNatClampNeg (zo8 + 3)) (Int32.toInt64 p2)), mthr), rfl, ⟨by rw [ho], by rw [ho]⟩, z_end ht hP⟩, hS.F ht⟩) hS.2.2 dX11_modeIt_59
    · have hF := z_pos hF zc4
      refine lv_aload_n hx hb dX11_modeIt_24 rfl (lv_at hl 1 rfl) ?_
      refine lv_iconst (v := 2) hx hb dX11_modeIt_25 (by decide) ?_
      obtain ⟨zo10, hzo10, hF⟩ := z_bind hF
      refine z_calliE (fun (u : Int32) => (wModel g q0 q1 q2 q3 q4 q5 q6 q7 q8 q9 q10 q11 q12 mm masd msav misS mpst mchg merr mfai u minp minM mUp mcar mcam mahd magn mltr mbeg mcmd mcmM mpl msz mwr mlin mliM)) (va_runV (As := [.int 2]) (rest := []) ⟨hx, hb, hml, hown, hts⟩ (c_X11_throwing l g q0 q1 q2 q3 q4 q5 q6 q7 q8 q9 q10 q11 q12 mm masd msav misS mpst mchg merr mfai mthr minp minM mUp mcar mcam mahd magn mltr mbeg mcmd mcmM mpl msz mwr mlin mliM _ 2 _ hzo10) (cwV 1 hts (gdV mU_1352 mU_1354 mU_31 mU_75 mU_1355) rfl rfl rfl (by decide +kernel) ⟨Nat.le_of_ble_eq_true rfl, Nat.le_of_ble_eq_true rfl⟩) ⟨z_blind _ _ _ _, va_recv hK hP (ci := 7) (q0 := 0) rfl rfl, fun U hU hW => z_preE hP hD hK hB hS hA hU hW⟩ rfl rfl hl.1 rfl (lv_room (Nat.le_of_ble_eq_true rfl)) dX11_modeIt_26 ⟨Nat.le_of_ble_eq_true rfl, Nat.le_of_ble_eq_true rfl⟩) hD hS hA (fun _ => rfl) (fun r u H locs hw hP hD hS => ?_)
      obtain ⟨rfl, rfl⟩ := hw
      have hP : va_P (gD g) zCl (wModel g q0 q1 q2 q3 q4 q5 q6 q7 q8 q9 q10 q11 q12 mm masd msav misS mpst mchg merr mfai zo10.2 minp minM mUp mcar mcam mahd magn mltr mbeg mcmd mcmM mpl msz mwr mlin mliM) H := hP
      have hD : va_D A (wModel g q0 q1 q2 q3 q4 q5 q6 q7 q8 q9 q10 q11 q12 mm masd msav misS mpst mchg merr mfai zo10.2 minp minM mUp mcar mcam mahd magn mltr mbeg mcmd mcmM mpl msz mwr mlin mliM) := hD
      have ho := (Option.some.inj hF).symm
      exact W.iret (v := zo10.1) hx hb hr (fun t ht hW => ⟨⟨zo10.1, (mm, zo10.2), rfl, ⟨by rw [ho], by rw [ho]⟩, z_end ht hP⟩, hS.F ht⟩) hS.2.2 dX11_modeIt_29
  · have hF := z_pos hF zc2
    refine lv_aload_n hx hb dX11_modeIt_11 rfl (lv_at hl 1 rfl) ?_
    refine lv_iconst (v := 1) hx hb dX11_modeIt_12 (by decide) ?_
    obtain ⟨zo11, hzo11, hF⟩ := z_bind hF
    refine z_calliE (fun (u : Int32) => (wModel g q0 q1 q2 q3 q4 q5 q6 q7 q8 q9 q10 q11 q12 mm masd msav misS mpst mchg merr mfai u minp minM mUp mcar mcam mahd magn mltr mbeg mcmd mcmM mpl msz mwr mlin mliM)) (va_runV (As := [.int 1]) (rest := []) ⟨hx, hb, hml, hown, hts⟩ (c_X11_throwing l g q0 q1 q2 q3 q4 q5 q6 q7 q8 q9 q10 q11 q12 mm masd msav misS mpst mchg merr mfai mthr minp minM mUp mcar mcam mahd magn mltr mbeg mcmd mcmM mpl msz mwr mlin mliM _ 1 _ hzo11) (cwV 1 hts (gdV mU_1352 mU_1354 mU_31 mU_75 mU_1355) rfl rfl rfl (by decide +kernel) ⟨Nat.le_of_ble_eq_true rfl, Nat.le_of_ble_eq_true rfl⟩) ⟨z_blind _ _ _ _, va_recv hK hP (ci := 7) (q0 := 0) rfl rfl, fun U hU hW => z_preE hP hD hK hB hS hA hU hW⟩ rfl rfl hl.1 rfl (lv_room (Nat.le_of_ble_eq_true rfl)) dX11_modeIt_13 ⟨Nat.le_of_ble_eq_true rfl, Nat.le_of_ble_eq_true rfl⟩) hD hS hA (fun _ => rfl) (fun r u H locs hw hP hD hS => ?_)
    obtain ⟨rfl, rfl⟩ := hw
    have hP : va_P (gD g) zCl (wModel g q0 q1 q2 q3 q4 q5 q6 q7 q8 q9 q10 q11 q12 mm masd msav misS mpst mchg merr mfai zo11.2 minp minM mUp mcar mcam mahd magn mltr mbeg mcmd mcmM mpl msz mwr mlin mliM) H := hP
    have hD : va_D A (wModel g q0 q1 q2 q3 q4 q5 q6 q7 q8 q9 q10 q11 q12 mm masd msav misS mpst mchg merr mfai zo11.2 minp minM mUp mcar mcam mahd magn mltr mbeg mcmd mcmM mpl msz mwr mlin mliM) := hD
    have ho := (Option.some.inj hF).symm
    exact W.iret (v := zo11.1) hx hb hr (fun t ht hW => ⟨⟨zo11.1, (mm, zo11.2), rfl, ⟨by rw [ho], by rw [ho]⟩, z_end ht hP⟩, hS.F ht⟩) hS.2.2 dX11_modeIt_16
abbrev w_X11_setMode : List Cond := .code yX11_setMode cX11_setMode 4 (some .char) :: wU
abbrev r_X11_setMode : Room := { frames := 3, cells := 0, slots := 0, locals := 66 }
abbrev q_X11_setMode (g : GG) (q0 q1 q2 q3 q4 q5 q6 q7 q8 q9 q10 q11 q12 : Nat) (mm : Nat → Int64) (masd : Nat → Int64) (msav : Nat → Int64) (misS : Int32) (mpst : Nat → Int64) (mchg : Int32) (merr : Int32) (mfai : Int32) (mthr : Int32) (minp : Nat → Int32) (minM : Int32) (mUp : Nat → Int32) (mcar : Nat → Int32) (mcam : Nat → Int32) (mahd : Int32) (magn : Int32) (mltr : Nat → Int32) (mbeg : Nat → Int32) (mcmd : Nat → Int32) (mcmM : Int32) (mpl : Int32) (msz : Int32) (mwr : Int32) (mlin : Nat → Int32) (mliM : Int32) (o : Int32 × (Nat → Int64) × (Nat → Int64) × (Nat → Int64) × Int32 × Int32) (A : Nat → Prop) := va_Qi (fun (r : Int32) (u : (Nat → Int64) × (Nat → Int64) × (Nat → Int64) × Int32 × Int32) => o.1 = r ∧ o.2 = u) (fun u t => va_P (gD g) zCl (wModel g q0 q1 q2 q3 q4 q5 q6 q7 q8 q9 q10 q11 q12 u.1 u.2.1 msav misS u.2.2.1 u.2.2.2.1 merr mfai u.2.2.2.2 minp minM mUp mcar mcam mahd magn mltr mbeg mcmd mcmM mpl msz mwr mlin mliM) t.heap) A
set_option maxHeartbeats 4000000 in
set_option maxRecDepth 100000 in
theorem c_X11_setMode (l : Launch) (g : GG) (q0 q1 q2 q3 q4 q5 q6 q7 q8 q9 q10 q11 q12 : Nat) (mm : Nat → Int64) (masd : Nat → Int64) (msav : Nat → Int64) (misS : Int32) (mpst : Nat → Int64) (mchg : Int32) (merr : Int32) (mfai : Int32) (mthr : Int32) (minp : Nat → Int32) (minM : Int32) (mUp : Nat → Int32) (mcar : Nat → Int32) (mcam : Nat → Int32) (mahd : Int32) (magn : Int32) (mltr : Nat → Int32) (mbeg : Nat → Int32) (mcmd : Nat → Int32) (mcmM : Int32) (mpl : Int32) (msz : Int32) (mwr : Int32) (mlin : Nat → Int32) (mliM : Int32) (sz : Nat) (p1 : Int32) (p2 : Int32) (fu : Nat) (o : Int32 × (Nat → Int64) × (Nat → Int64) × (Nat → Int64) × Int32 × Int32) (hF : F_X11_setMode fu mm masd mpst mchg mthr p1 p2 = some o) : Met l yX11_setMode w_X11_setMode r_X11_setMode (va_Pc [.ref q0, .int p1, .int p2] (zP g (wModel g q0 q1 q2 q3 q4 q5 q6 q7 q8 q9 q10 q11 q12 mm masd msav misS mpst mchg merr mfai mthr minp minM mUp mcar mcam mahd magn mltr mbeg mcmd mcmM mpl msz mwr mlin mliM) sz)) (q_X11_setMode g q0 q1 q2 q3 q4 q5 q6 q7 q8 q9 q10 q11 q12 mm masd msav misS mpst mchg merr mfai mthr minp minM mUp mcar mcam mahd magn mltr mbeg mcmd mcmM mpl msz mwr mlin mliM o (va_A (wModel g q0 q1 q2 q3 q4 q5 q6 q7 q8 q9 q10 q11 q12 mm masd msav misS mpst mchg merr mfai mthr minp minM mUp mcar mcam mahd magn mltr mbeg mcmd mcmM mpl msz mwr mlin mliM) sz)) 0 0 (va_A (wModel g q0 q1 q2 q3 q4 q5 q6 q7 q8 q9 q10 q11 q12 mm masd msav misS mpst mchg merr mfai mthr minp minM mUp mcar mcam mahd magn mltr mbeg mcmd mcmM mpl msz mwr mlin mliM) sz) := by
  refine Met.ofW (cc := cX11_setMode) (maxL := 4) (ret := (some .char)) (by decide) rfl ?_
  intro p e s m args below meth c s₁ B hml hv
  obtain ⟨rfl, rfl, hP, hK, hD0, hB⟩ := hv
  have hx := B.exec
  have hb := B.bytes
  have hr := B.returns
  have hts : ∀ w ∈ wU, w.before _ s = true := fun w h => atoms_spec (ws := w_X11_setMode) B.pre w (List.mem_cons_of_mem _ h)
  have hown : s.vm.findClass RX11 = some m.cls := findClass_of_methodNamed B.named
  have hlocks := B.notSynchronized
  have hD := hD0.self (sz := s.heap.size)
  generalize hAe : va_A (wModel g q0 q1 q2 q3 q4 q5 q6 q7 q8 q9 q10 q11 q12 mm masd msav misS mpst mchg merr mfai mthr minp minM mUp mcar mcam mahd magn mltr mbeg mcmd mcmM mpl msz mwr mlin mliM) s.heap.size = A at hD hB ⊢
  have hA : ∀ q : Nat, s.heap.size ≤ q → A q := fun q h => by rw [← hAe]; exact Or.inr h
  have hS : va_S A s.heap s.heap [] := va_S.rf
  have hl := lv_entry ([.ref q0, .int p1, .int p2]) (n := 4) (Nat.le_of_ble_eq_true rfl)
  rw [lg_entry_eq]
  generalize (lg_sl ([.ref q0, .int p1, .int p2]) ++ List.replicate (4 - (lg_sl ([.ref q0, .int p1, .int p2])).length) Slot.unset).toArray = ls at hl ⊢
  have hl : lv_has ls 4 [(0, .ref q0), (1, .int p1), (2, .int p2)] := hl
  unfold F_X11_setMode at hF
  refine lv_aload_n hx hb dX11_setMode_0 rfl (lv_at hl 0 rfl) ?_
  obtain ⟨zo1, hzo1, hF⟩ := z_bind hF
  refine z_callvE (fun (u : (Nat → Int64) × Int32) => (wModel g q0 q1 q2 q3 q4 q5 q6 q7 q8 q9 q10 q11 q12 mm u.1 msav misS mpst mchg merr mfai u.2 minp minM mUp mcar mcam mahd magn mltr mbeg mcmd mcmM mpl msz mwr mlin mliM)) (va_runV (As := []) (rest := []) ⟨hx, hb, hml, hown, hts⟩ (c_X11_starts l g q0 q1 q2 q3 q4 q5 q6 q7 q8 q9 q10 q11 q12 mm masd msav misS mpst mchg merr mfai mthr minp minM mUp mcar mcam mahd magn mltr mbeg mcmd mcmM mpl msz mwr mlin mliM _ fu _ hzo1) (cwV 0 hts (gdV mU_1329 mU_1331 mU_29 mU_75 mU_1332) rfl rfl rfl (by decide +kernel) ⟨Nat.le_of_ble_eq_true rfl, Nat.le_of_ble_eq_true rfl⟩) ⟨z_blind _ _ _ _, va_recv hK hP (ci := 7) (q0 := 0) rfl rfl, fun U hU hW => z_preE hP hD hK hB hS hA hU hW⟩ rfl rfl hl.1 rfl (lv_room (Nat.le_of_ble_eq_true rfl)) dX11_setMode_1 ⟨Nat.le_of_ble_eq_true rfl, Nat.le_of_ble_eq_true rfl⟩) hD hS hA (fun _ => rfl) (fun u H locs hw hP hD hS => ?_)
  subst hw
  have hP : va_P (gD g) zCl (wModel g q0 q1 q2 q3 q4 q5 q6 q7 q8 q9 q10 q11 q12 mm zo1.1 msav misS mpst mchg merr mfai zo1.2 minp minM mUp mcar mcam mahd magn mltr mbeg mcmd mcmM mpl msz mwr mlin mliM) H := hP
  have hD : va_D A (wModel g q0 q1 q2 q3 q4 q5 q6 q7 q8 q9 q10 q11 q12 mm zo1.1 msav misS mpst mchg merr mfai zo1.2 minp minM mUp mcar mcam mahd magn mltr mbeg mcmd mcmM mpl msz mwr mlin mliM) := hD
  refine lv_aload_n hx hb dX11_setMode_4 rfl (lv_at hl 0 rfl) ?_
  refine lv_iload_n hx hb dX11_setMode_5 rfl (lv_at hl 1 rfl) ?_
  refine lv_iload_n hx hb dX11_setMode_6 rfl (lv_at hl 2 rfl) ?_
  obtain ⟨zo2, hzo2, hF⟩ := z_bind hF
  refine z_calliE (fun (u : (Nat → Int64) × Int32) => (wModel g q0 q1 q2 q3 q4 q5 q6 q7 q8 q9 q10 q11 q12 u.1 zo1.1 msav misS mpst mchg merr mfai u.2 minp minM mUp mcar mcam mahd magn mltr mbeg mcmd mcmM mpl msz mwr mlin mliM)) (va_runV (As := [.int p1, .int p2]) (rest := []) ⟨hx, hb, hml, hown, hts⟩ (c_X11_modeIt l g q0 q1 q2 q3 q4 q5 q6 q7 q8 q9 q10 q11 q12 mm zo1.1 msav misS mpst mchg merr mfai zo1.2 minp minM mUp mcar mcam mahd magn mltr mbeg mcmd mcmM mpl msz mwr mlin mliM _ p1 p2 fu _ hzo2) (cwV 2 hts (gdV mU_1440 mU_1442 mU_42 mU_75 mU_1443) rfl rfl rfl (by decide +kernel) ⟨Nat.le_of_ble_eq_true rfl, Nat.le_of_ble_eq_true rfl⟩) ⟨z_blind _ _ _ _, va_recv hK hP (ci := 7) (q0 := 0) rfl rfl, fun U hU hW => z_preE hP hD hK hB hS hA hU hW⟩ rfl rfl hl.1 rfl (lv_room (Nat.le_of_ble_eq_true rfl)) dX11_setMode_7 ⟨Nat.le_of_ble_eq_true rfl, Nat.le_of_ble_eq_true rfl⟩) hD hS hA (fun _ => rfl) (fun r u H locs hw hP hD hS => ?_)
  obtain ⟨rfl, rfl⟩ := hw
  have hP : va_P (gD g) zCl (wModel g q0 q1 q2 q3 q4 q5 q6 q7 q8 q9 q10 q11 q12 zo2.2.1 zo1.1 msav misS mpst mchg merr mfai zo2.2.2 minp minM mUp mcar mcam mahd magn mltr mbeg mcmd mcmM mpl msz mwr mlin mliM) H := hP
  have hD : va_D A (wModel g q0 q1 q2 q3 q4 q5 q6 q7 q8 q9 q10 q11 q12 zo2.2.1 zo1.1 msav misS mpst mchg merr mfai zo2.2.2 minp minM mUp mcar mcam mahd magn mltr mbeg mcmd mcmM mpl msz mwr mlin mliM) := hD
  refine lv_istore_n (lv' := [(3, .int zo2.1), (0, .ref q0), (1, .int p1), (2, .int p2)]) hx hb dX11_setMode_10 rfl hl (by decide) rfl (fun ls hl => ?_)
  refine lv_aload_n hx hb dX11_setMode_11 rfl (lv_at hl 1 rfl) ?_
  obtain ⟨zo3, hzo3, hF⟩ := z_bind hF
  refine z_callvE (fun (u : (Nat → Int64) × Int32) => (wModel g q0 q1 q2 q3 q4 q5 q6 q7 q8 q9 q10 q11 q12 zo2.2.1 zo1.1 msav misS u.1 u.2 merr mfai zo2.2.2 minp minM mUp mcar mcam mahd magn mltr mbeg mcmd mcmM mpl msz mwr mlin mliM)) (va_runV (As := []) (rest := []) ⟨hx, hb, hml, hown, hts⟩ (c_X11_ends l g q0 q1 q2 q3 q4 q5 q6 q7 q8 q9 q10 q11 q12 zo2.2.1 zo1.1 msav misS mpst mchg merr mfai zo2.2.2 minp minM mUp mcar mcam mahd magn mltr mbeg mcmd mcmM mpl msz mwr mlin mliM _ fu _ hzo3) (cwV 0 hts (gdV mU_1375 mU_1377 mU_34 mU_75 mU_1378) rfl rfl rfl (by decide +kernel) ⟨Nat.le_of_ble_eq_true rfl, Nat.le_of_ble_eq_true rfl⟩) ⟨z_blind _ _ _ _, va_recv hK hP (ci := 7) (q0 := 0) rfl rfl, fun U hU hW => z_preE hP hD hK hB hS hA hU hW⟩ rfl rfl hl.1 rfl (lv_room (Nat.le_of_ble_eq_true rfl)) dX11_setMode_12 ⟨Nat.le_of_ble_eq_true rfl, Nat.le_of_ble_eq_true rfl⟩) hD hS hA (fun _ => rfl) (fun u H locs hw hP hD hS => ?_)
  subst hw
  have hP : va_P (gD g) zCl (wModel g q0 q1 q2 q3 q4 q5 q6 q7 q8 q9 q10 q11 q12 zo2.2.1 zo1.1 msav misS zo3.1 zo3.2 merr mfai zo2.2.2 minp minM mUp mcar mcam mahd magn mltr mbeg mcmd mcmM mpl msz mwr mlin mliM) H := hP
  have hD : va_D A (wModel g q0 q1 q2 q3 q4 q5 q6 q7 q8 q9 q10 q11 q12 zo2.2.1 zo1.1 msav misS zo3.1 zo3.2 merr mfai zo2.2.2 minp minM mUp mcar mcam mahd magn mltr mbeg mcmd mcmM mpl msz mwr mlin mliM) := hD
  refine lv_iload_n hx hb dX11_setMode_15 rfl (lv_at hl 0 rfl) ?_
  refine lv_i2c (v := (zchar zo2.1)) hx hb dX11_setMode_16 rfl ?_
  obtain ⟨zg4, hF⟩ := z_grd hF
  have ho := (Option.some.inj hF).symm
  exact W.zret (v := (zchar zo2.1)) hx hb hr (z_narc (Classical.not_not.mp zg4)).1 (fun t ht hW => ⟨⟨(zchar zo2.1), (zo2.2.1, zo1.1, zo3.1, zo3.2, zo2.2.2), rfl, ⟨by rw [ho], by rw [ho]⟩, z_end ht hP⟩, hS.F ht⟩) hS.2.2 dX11_setMode_17
abbrev w_X11_togetherIt : List Cond := .code yX11_togetherIt cX11_togetherIt 6 (some .int) :: wU
abbrev r_X11_togetherIt : Room := { frames := 3, cells := 0, slots := 0, locals := 79 }
abbrev q_X11_togetherIt (g : GG) (q0 q1 q2 q3 q4 q5 q6 q7 q8 q9 q10 q11 q12 : Nat) (mm : Nat → Int64) (masd : Nat → Int64) (msav : Nat → Int64) (misS : Int32) (mpst : Nat → Int64) (mchg : Int32) (merr : Int32) (mfai : Int32) (mthr : Int32) (minp : Nat → Int32) (minM : Int32) (mUp : Nat → Int32) (mcar : Nat → Int32) (mcam : Nat → Int32) (mahd : Int32) (magn : Int32) (mltr : Nat → Int32) (mbeg : Nat → Int32) (mcmd : Nat → Int32) (mcmM : Int32) (mpl : Int32) (msz : Int32) (mwr : Int32) (mlin : Nat → Int32) (mliM : Int32) (o : Int32 × (Nat → Int64) × Int32 × (Nat → Int32)) (A : Nat → Prop) := va_Qi (fun (r : Int32) (u : (Nat → Int64) × Int32 × (Nat → Int32)) => o.1 = r ∧ o.2 = u) (fun u t => va_P (gD g) zCl (wModel g q0 q1 q2 q3 q4 q5 q6 q7 q8 q9 q10 q11 q12 u.1 masd msav misS mpst mchg merr mfai u.2.1 minp minM u.2.2 mcar mcam mahd magn mltr mbeg mcmd mcmM mpl msz mwr mlin mliM) t.heap) A
set_option maxHeartbeats 4000000 in
set_option maxRecDepth 100000 in
theorem c_X11_togetherIt (l : Launch) (g : GG) (q0 q1 q2 q3 q4 q5 q6 q7 q8 q9 q10 q11 q12 : Nat) (mm : Nat → Int64) (masd : Nat → Int64) (msav : Nat → Int64) (misS : Int32) (mpst : Nat → Int64) (mchg : Int32) (merr : Int32) (mfai : Int32) (mthr : Int32) (minp : Nat → Int32) (minM : Int32) (mUp : Nat → Int32) (mcar : Nat → Int32) (mcam : Nat → Int32) (mahd : Int32) (magn : Int32) (mltr : Nat → Int32) (mbeg : Nat → Int32) (mcmd : Nat → Int32) (mcmM : Int32) (mpl : Int32) (msz : Int32) (mwr : Int32) (mlin : Nat → Int32) (mliM : Int32) (sz : Nat) (p1 : Int32) (fu : Nat) (o : Int32 × (Nat → Int64) × Int32 × (Nat → Int32)) (hF : F_X11_togetherIt fu mm mthr mUp p1 = some o) : Met l yX11_togetherIt w_X11_togetherIt r_X11_togetherIt (va_Pc [.ref q0, .int p1] (zP g (wModel g q0 q1 q2 q3 q4 q5 q6 q7 q8 q9 q10 q11 q12 mm masd msav misS mpst mchg merr mfai mthr minp minM mUp mcar mcam mahd magn mltr mbeg mcmd mcmM mpl msz mwr mlin mliM) sz)) (q_X11_togetherIt g q0 q1 q2 q3 q4 q5 q6 q7 q8 q9 q10 q11 q12 mm masd msav misS mpst mchg merr mfai mthr minp minM mUp mcar mcam mahd magn mltr mbeg mcmd mcmM mpl msz mwr mlin mliM o (va_A (wModel g q0 q1 q2 q3 q4 q5 q6 q7 q8 q9 q10 q11 q12 mm masd msav misS mpst mchg merr mfai mthr minp minM mUp mcar mcam mahd magn mltr mbeg mcmd mcmM mpl msz mwr mlin mliM) sz)) 0 0 (va_A (wModel g q0 q1 q2 q3 q4 q5 q6 q7 q8 q9 q10 q11 q12 mm masd msav misS mpst mchg merr mfai mthr minp minM mUp mcar mcam mahd magn mltr mbeg mcmd mcmM mpl msz mwr mlin mliM) sz) := by
  refine Met.ofW (cc := cX11_togetherIt) (maxL := 6) (ret := (some .int)) (by decide) rfl ?_
  intro p e s m args below meth c s₁ B hml hv
  obtain ⟨rfl, rfl, hP, hK, hD0, hB⟩ := hv
  have hx := B.exec
  have hb := B.bytes
  have hr := B.returns
  have hts : ∀ w ∈ wU, w.before _ s = true := fun w h => atoms_spec (ws := w_X11_togetherIt) B.pre w (List.mem_cons_of_mem _ h)
  have hown : s.vm.findClass RX11 = some m.cls := findClass_of_methodNamed B.named
  have hlocks := B.notSynchronized
  have hD := hD0.self (sz := s.heap.size)
  generalize hAe : va_A (wModel g q0 q1 q2 q3 q4 q5 q6 q7 q8 q9 q10 q11 q12 mm masd msav misS mpst mchg merr mfai mthr minp minM mUp mcar mcam mahd magn mltr mbeg mcmd mcmM mpl msz mwr mlin mliM) s.heap.size = A at hD hB ⊢
  have hA : ∀ q : Nat, s.heap.size ≤ q → A q := fun q h => by rw [← hAe]; exact Or.inr h
  have hS : va_S A s.heap s.heap [] := va_S.rf
  have hl := lv_entry ([.ref q0, .int p1]) (n := 6) (Nat.le_of_ble_eq_true rfl)
  rw [lg_entry_eq]
  generalize (lg_sl ([.ref q0, .int p1]) ++ List.replicate (6 - (lg_sl ([.ref q0, .int p1])).length) Slot.unset).toArray = ls at hl ⊢
  have hl : lv_has ls 6 [(0, .ref q0), (1, .int p1)] := hl
  unfold F_X11_togetherIt at hF
  have K21 : ∀ (n21 : Nat) (mm : Nat → Int64) (mthr : Int32) (mUp : Nat → Int32) (x2 : Int32) (x3 : Int32), F_X11_togetherIt_21 fu n21 mm mthr mUp p1 x2 x3 = some o → ∀ (H : Heap) (locs : List Loc) (ls : Array Slot), lv_has ls 6 [(0, .ref q0), (1, .int p1), (2, .int x2), (3, .int x3)] → va_P (gD g) zCl (wModel g q0 q1 q2 q3 q4 q5 q6 q7 q8 q9 q10 q11 q12 mm masd msav misS mpst mchg merr mfai mthr minp minM mUp mcar mcam mahd magn mltr mbeg mcmd mcmM mpl msz mwr mlin mliM) H → va_D A (wModel g q0 q1 q2 q3 q4 q5 q6 q7 q8 q9 q10 q11 q12 mm masd msav misS mpst mchg merr mfai mthr minp minM mUp mcar mcam mahd magn mltr mbeg mcmd mcmM mpl msz mwr mlin mliM) → va_S A s.heap H locs → W p l e (headSpec w_X11_togetherIt r_X11_togetherIt).room s m ([.ref q0, .int p1] : List Value).toArray below meth c H locs 0 0 (MQ below (q_X11_togetherIt g q0 q1 q2 q3 q4 q5 q6 q7 q8 q9 q10 q11 q12 mm masd msav misS mpst mchg merr mfai mthr minp minM mUp mcar mcam mahd magn mltr mbeg mcmd mcmM mpl msz mwr mlin mliM o A) ([.ref q0, .int p1] : List Value).toArray s 0 0 A) (F0 m 21 ls []) := by
    intro n21
    induction n21 with
    | zero =>
      intro mm mthr mUp x2 x3 hF
      exact absurd hF (by simp [F_X11_togetherIt_21])
    | succ n21 ih21 =>
      have K143 : ∀ (_ : Unit) (mm : Nat → Int64) (mthr : Int32) (mUp : Nat → Int32) (x2 : Int32) (x3 : Int32) (y1 : Int32) (y2 : Int64), F_X11_togetherIt_143 (F_X11_togetherIt_21 fu n21) fu mm mthr mUp p1 x2 x3 y1 y2 = some o → ∀ (H : Heap) (locs : List Loc) (ls : Array Slot), lv_has ls 6 [(0, .ref q0), (1, .int p1), (2, .int x2), (3, .int x3)] → va_P (gD g) zCl (wModel g q0 q1 q2 q3 q4 q5 q6 q7 q8 q9 q10 q11 q12 mm masd msav misS mpst mchg merr mfai mthr minp minM mUp mcar mcam mahd magn mltr mbeg mcmd mcmM mpl msz mwr mlin mliM) H → va_D A (wModel g q0 q1 q2 q3 q4 q5 q6 q7 q8 q9 q10 q11 q12 mm masd msav misS mpst mchg merr mfai mthr minp minM mUp mcar mcam mahd magn mltr mbeg mcmd mcmM mpl msz mwr mlin mliM) → va_S A s.heap H locs → W p l e (headSpec w_X11_togetherIt r_X11_togetherIt).room s m ([.ref q0, .int p1] : List Value).toArray below meth c H locs 0 0 (MQ below (q_X11_togetherIt g q0 q1 q2 q3 q4 q5 q6 q7 q8 q9 q10 q11 q12 mm masd msav misS mpst mchg merr mfai mthr minp minM mUp mcar mcam mahd magn mltr mbeg mcmd mcmM mpl msz mwr mlin mliM o A) ([.ref q0, .int p1] : List Value).toArray s 0 0 A) (F0 m 143 ls [.long y2, .int y1, .ref q1]) := by
        intro _ mm mthr mUp x2 x3 y1 y2 hF H locs ls hl hP hD hS
        unfold F_X11_togetherIt_143 at hF
        obtain ⟨zg1, hF⟩ := z_grd hF
        refine va_last hx hb hK hP hD hS 1 2 rfl rfl zg1 dX11_togetherIt_143 (fun H locs hP hD hS => ?_)
        have hP : va_P (gD g) zCl (wModel g q0 q1 q2 q3 q4 q5 q6 q7 q8 q9 q10 q11 q12 (vp_updL mm (Int32.toNatClampNeg y1) y2) masd msav misS mpst mchg merr mfai mthr minp minM mUp mcar mcam mahd magn mltr mbeg mcmd mcmM mpl msz mwr mlin mliM) H := hP
        have hD : va_D A (wModel g q0 q1 q2 q3 q4 q5 q6 q7 q8 q9 q10 q11 q12 (vp_updL mm (Int32.toNatClampNeg y1) y2) masd msav misS mpst mchg merr mfai mthr minp minM mUp mcar mcam mahd magn mltr mbeg mcmd mcmM mpl msz mwr mlin mliM) := hD
        refine lv_aload_n hx hb dX11_togetherIt_144 rfl (lv_at hl 0 rfl) ?_
        refine va_get (D := gD g) (ci := 7) (v := .ref q1) (C := RX11) (T := TX11) (N := 25) hx hb hts inX11 hown hK hP 0 rfl rfl 0 (by decide) (hts _ mU_1244) (fun _ h9 => h9) rfl dX11_togetherIt_145 ?_
        refine lv_iload_n hx hb dX11_togetherIt_148 rfl (lv_at hl 3 rfl) ?_
        obtain ⟨zo2, hzo2, hF⟩ := z_bind hF
        refine z_calli (fun (_ : Unit) => []) [] (va_runS (As := [.int x3]) (rest := [.ref q1]) ⟨hx, hb, hml, hown, hts⟩ (c_X11_at l g _ x3 _ hzo2) (va_cwS 1 hts (gdS mU_1372 mU_1373 mU_75 mU_1374) rfl rfl rfl (by decide +kernel) ⟨Nat.le_of_ble_eq_true rfl, Nat.le_of_ble_eq_true rfl⟩) ⟨z_blind _ _ _ _, fun U hU hW => z_pre [] hP hD hK hB hS hA rfl rfl hU hW⟩ rfl rfl hl.1 rfl (lv_room (Nat.le_of_ble_eq_true rfl)) dX11_togetherIt_149 ⟨Nat.le_of_ble_eq_true rfl, Nat.le_of_ble_eq_true rfl⟩) hP hD hS hA rfl (fun _ => rfl) (fun r u H locs hw hP hD hS => ?_)
        subst hw
        have hP : va_P (gD g) zCl (wModel g q0 q1 q2 q3 q4 q5 q6 q7 q8 q9 q10 q11 q12 (vp_updL mm (Int32.toNatClampNeg y1) y2) masd msav misS mpst mchg merr mfai mthr minp minM mUp mcar mcam mahd magn mltr mbeg mcmd mcmM mpl msz mwr mlin mliM) H := hP
        have hD : va_D A (wModel g q0 q1 q2 q3 q4 q5 q6 q7 q8 q9 q10 q11 q12 (vp_updL mm (Int32.toNatClampNeg y1) y2) masd msav misS mpst mchg merr mfai mthr minp minM mUp mcar mcam mahd magn mltr mbeg mcmd mcmM mpl msz mwr mlin mliM) := hD
        refine lv_iconst (v := 2) hx hb dX11_togetherIt_152 (by decide) ?_
        refine lv_iadd hx hb dX11_togetherIt_153 ?_
        refine lv_aload_n hx hb dX11_togetherIt_154 rfl (lv_at hl 0 rfl) ?_
        refine va_get (D := gD g) (ci := 7) (v := .ref q1) (C := RX11) (T := TX11) (N := 25) hx hb hts inX11 hown hK hP 0 rfl rfl 0 (by decide) (hts _ mU_1244) (fun _ h9 => h9) rfl dX11_togetherIt_155 ?_
        refine lv_iload_n hx hb dX11_togetherIt_158 rfl (lv_at hl 3 rfl) ?_
        obtain ⟨zo3, hzo3, hF⟩ := z_bind hF
        refine z_calli (fun (_ : Unit) => []) [] (va_runS (As := [.int x3]) (rest := [.ref q1, .int (zo2 + 2), .ref q1]) ⟨hx, hb, hml, hown, hts⟩ (c_X11_at l g _ x3 _ hzo3) (va_cwS 1 hts (gdS mU_1372 mU_1373 mU_75 mU_1374) rfl rfl rfl (by decide +kernel) ⟨Nat.le_of_ble_eq_true rfl, Nat.le_of_ble_eq_true rfl⟩) ⟨z_blind _ _ _ _, fun U hU hW => z_pre [] hP hD hK hB hS hA rfl rfl hU hW⟩ rfl rfl hl.1 rfl (lv_room (Nat.le_of_ble_eq_true rfl)) dX11_togetherIt_159 ⟨Nat.le_of_ble_eq_true rfl, Nat.le_of_ble_eq_true rfl⟩) hP hD hS hA rfl (fun _ => rfl) (fun r u H locs hw hP hD hS => ?_)
        subst hw
        have hP : va_P (gD g) zCl (wModel g q0 q1 q2 q3 q4 q5 q6 q7 q8 q9 q10 q11 q12 (vp_updL mm (Int32.toNatClampNeg y1) y2) masd msav misS mpst mchg merr mfai mthr minp minM mUp mcar mcam mahd magn mltr mbeg mcmd mcmM mpl msz mwr mlin mliM) H := hP
        have hD : va_D A (wModel g q0 q1 q2 q3 q4 q5 q6 q7 q8 q9 q10 q11 q12 (vp_updL mm (Int32.toNatClampNeg y1) y2) masd msav misS mpst mchg merr mfai mthr minp minM mUp mcar mcam mahd magn mltr mbeg mcmd mcmM mpl msz mwr mlin mliM) := hD
        refine lv_iconst (v := 2) hx hb dX11_togetherIt_162 (by decide) ?_
        refine lv_iadd hx hb dX11_togetherIt_163 ?_
        obtain ⟨zg4, hF⟩ := z_grd hF
        refine va_lald hx hb hK hP 1 2 rfl rfl zg4 dX11_togetherIt_164 ?_
        refine lv_iload_n hx hb dX11_togetherIt_165 rfl (lv_at hl 1 rfl) ?_
        refine lv_i2l (v := (Int32.toInt64 p1)) hx hb dX11_togetherIt_166 rfl ?_
        refine va_mmin_long hx hb (hml.trans hl.1.symm) hown (hts _ mU_1464) (hts _ mU_393) (hts _ mU_83) (hts _ mU_394) (Nat.le_of_ble_eq_true rfl) (Nat.le_of_ble_eq_true rfl) (Nat.le_of_ble_eq_true rfl) (Nat.le_of_ble_eq_true rfl) dX11_togetherIt_167 ?_
        obtain ⟨zv5, ezv5, hF⟩ := z_let hF
        refine z_topl ezv5 ?_
        obtain ⟨zg6, hF⟩ := z_grd hF
        refine va_last hx hb hK hP hD hS 1 2 rfl rfl zg6 dX11_togetherIt_170 (fun H locs hP hD hS => ?_)
        have hP : va_P (gD g) zCl (wModel g q0 q1 q2 q3 q4 q5 q6 q7 q8 q9 q10 q11 q12 (vp_updL (vp_updL mm (Int32.toNatClampNeg y1) y2) (Int32.toNatClampNeg (zo2 + 2)) zv5) masd msav misS mpst mchg merr mfai mthr minp minM mUp mcar mcam mahd magn mltr mbeg mcmd mcmM mpl msz mwr mlin mliM) H := hP
        have hD : va_D A (wModel g q0 q1 q2 q3 q4 q5 q6 q7 q8 q9 q10 q11 q12 (vp_updL (vp_updL mm (Int32.toNatClampNeg y1) y2) (Int32.toNatClampNeg (zo2 + 2)) zv5) masd msav misS mpst mchg merr mfai mthr minp minM mUp mcar mcam mahd magn mltr mbeg mcmd mcmM mpl msz mwr mlin mliM) := hD
        obtain ⟨zv7, ezv7, hF⟩ := z_let hF
        refine lv_iinc (v := zv7) (lv' := [(3, .int zv7), (0, .ref q0), (1, .int p1), (2, .int x2)]) hx hb dX11_togetherIt_171 hl (k := 3) rfl (by rw [ezv7]; rfl) (by decide) rfl (fun ls hl => ?_)
        refine lv_goto (tgt := 21) hx hb dX11_togetherIt_174 (by decide) ?_
        exact ih21 (vp_updL (vp_updL mm (Int32.toNatClampNeg y1) y2) (Int32.toNatClampNeg (zo2 + 2)) zv5) mthr mUp x2 zv7 hF _ _ _ (lv_sub hl [1, 2, 3, 0] rfl) hP hD hS
      have K111 : ∀ (_ : Unit) (mm : Nat → Int64) (mthr : Int32) (mUp : Nat → Int32) (x2 : Int32) (x3 : Int32) (x4 : Int64) (y1 : Int32) (y2 : Int64) (y3 : Int64), F_X11_togetherIt_111 (F_X11_togetherIt_21 fu n21) fu mm mthr mUp p1 x2 x3 x4 y1 y2 y3 = some o → ∀ (H : Heap) (locs : List Loc) (ls : Array Slot), lv_has ls 6 [(0, .ref q0), (1, .int p1), (2, .int x2), (3, .int x3), (4, .long x4)] → va_P (gD g) zCl (wModel g q0 q1 q2 q3 q4 q5 q6 q7 q8 q9 q10 q11 q12 mm masd msav misS mpst mchg merr mfai mthr minp minM mUp mcar mcam mahd magn mltr mbeg mcmd mcmM mpl msz mwr mlin mliM) H → va_D A (wModel g q0 q1 q2 q3 q4 q5 q6 q7 q8 q9 q10 q11 q12 mm masd msav misS mpst mchg merr mfai mthr minp minM mUp mcar mcam mahd magn mltr mbeg mcmd mcmM mpl msz mwr mlin mliM) → va_S A s.heap H locs → W p l e (headSpec w_X11_togetherIt r_X11_togetherIt).room s m ([.ref q0, .int p1] : List Value).toArray below meth c H locs 0 0 (MQ below (q_X11_togetherIt g q0 q1 q2 q3 q4 q5 q6 q7 q8 q9 q10 q11 q12 mm masd msav misS mpst mchg merr mfai mthr minp minM mUp mcar mcam mahd magn mltr mbeg mcmd mcmM mpl msz mwr mlin mliM o A) ([.ref q0, .int p1] : List Value).toArray s 0 0 A) (F0 m 111 ls [.long y3, .long y2, .int y1, .ref q1]) := by
        intro _ mm mthr mUp x2 x3 x4 y1 y2 y3 hF H locs ls hl hP hD hS
        unfold F_X11_togetherIt_111 at hF
        refine lv_ladd hx hb dX11_togetherIt_111 ?_
        obtain ⟨zg8, hF⟩ := z_grd hF
        refine va_last hx hb hK hP hD hS 1 2 rfl rfl zg8 dX11_togetherIt_112 (fun H locs hP hD hS => ?_)
        have hP : va_P (gD g) zCl (wModel g q0 q1 q2 q3 q4 q5 q6 q7 q8 q9 q10 q11 q12 (vp_updL mm (Int32.toNatClampNeg y1) (y2 + y3)) masd msav misS mpst mchg merr mfai mthr minp minM mUp mcar mcam mahd magn mltr mbeg mcmd mcmM mpl msz mwr mlin mliM) H := hP
        have hD : va_D A (wModel g q0 q1 q2 q3 q4 q5 q6 q7 q8 q9 q10 q11 q12 (vp_updL mm (Int32.toNatClampNeg y1) (y2 + y3)) masd msav misS mpst mchg merr mfai mthr minp minM mUp mcar mcam mahd magn mltr mbeg mcmd mcmM mpl msz mwr mlin mliM) := hD
        refine lv_aload_n hx hb dX11_togetherIt_113 rfl (lv_at hl 0 rfl) ?_
        refine va_get (D := gD g) (ci := 7) (v := .ref q1) (C := RX11) (T := TX11) (N := 25) hx hb hts inX11 hown hK hP 0 rfl rfl 0 (by decide) (hts _ mU_1244) (fun _ h9 => h9) rfl dX11_togetherIt_114 ?_
        refine lv_iload_n hx hb dX11_togetherIt_117 rfl (lv_at hl 3 rfl) ?_
        obtain ⟨zo9, hzo9, hF⟩ := z_bind hF
        refine z_calli (fun (_ : Unit) => []) [] (va_runS (As := [.int x3]) (rest := [.ref q1]) ⟨hx, hb, hml, hown, hts⟩ (c_X11_at l g _ x3 _ hzo9) (va_cwS 1 hts (gdS mU_1372 mU_1373 mU_75 mU_1374) rfl rfl rfl (by decide +kernel) ⟨Nat.le_of_ble_eq_true rfl, Nat.le_of_ble_eq_true rfl⟩) ⟨z_blind _ _ _ _, fun U hU hW => z_pre [] hP hD hK hB hS hA rfl rfl hU hW⟩ rfl rfl hl.1 rfl (lv_room (Nat.le_of_ble_eq_true rfl)) dX11_togetherIt_118 ⟨Nat.le_of_ble_eq_true rfl, Nat.le_of_ble_eq_true rfl⟩) hP hD hS hA rfl (fun _ => rfl) (fun r u H locs hw hP hD hS => ?_)
        subst hw
        have hP : va_P (gD g) zCl (wModel g q0 q1 q2 q3 q4 q5 q6 q7 q8 q9 q10 q11 q12 (vp_updL mm (Int32.toNatClampNeg y1) (y2 + y3)) masd msav misS mpst mchg merr mfai mthr minp minM mUp mcar mcam mahd magn mltr mbeg mcmd mcmM mpl msz mwr mlin mliM) H := hP
        have hD : va_D A (wModel g q0 q1 q2 q3 q4 q5 q6 q7 q8 q9 q10 q11 q12 (vp_updL mm (Int32.toNatClampNeg y1) (y2 + y3)) masd msav misS mpst mchg merr mfai mthr minp minM mUp mcar mcam mahd magn mltr mbeg mcmd mcmM mpl msz mwr mlin mliM) := hD
        refine lv_iconst (v := 1) hx hb dX11_togetherIt_121 (by decide) ?_
        refine lv_iadd hx hb dX11_togetherIt_122 ?_
        refine lv_lload hx hb dX11_togetherIt_123 (lv_at hl 4 rfl) ?_
        refine lv_ldc2 (v := 10000000000) hx hb hown (hts _ mU_1419) dX11_togetherIt_125 ?_
        refine z_lcmp_lt (tgt := 141) hx hb dX11_togetherIt_128 dX11_togetherIt_129 (by decide) (fun zc10 => ?_) (fun zc10 => ?_)
        · have hF := z_pos hF zc10
          refine lv_lload hx hb dX11_togetherIt_141 (lv_at hl 4 rfl) ?_
          exact K143 () (vp_updL mm (Int32.toNatClampNeg y1) (y2 + y3)) mthr mUp x2 x3 (zo9 + 1) x4 hF _ _ _ (lv_sub hl [0, 1, 2, 3] rfl) hP hD hS
        · have hF := z_neg hF zc10
          refine lv_lload hx hb dX11_togetherIt_132 (lv_at hl 4 rfl) ?_
          refine lv_ldc2 (v := 10000000000) hx hb hown (hts _ mU_1419) dX11_togetherIt_134 ?_
          refine lv_lsub hx hb dX11_togetherIt_137 ?_
          refine lv_goto (tgt := 143) hx hb dX11_togetherIt_138 (by decide) ?_
          exact K143 () (vp_updL mm (Int32.toNatClampNeg y1) (y2 + y3)) mthr mUp x2 x3 (zo9 + 1) (x4 - 10000000000) hF _ _ _ (lv_sub hl [0, 1, 2, 3] rfl) hP hD hS
      have K64 : ∀ (_ : Unit) (mm : Nat → Int64) (mthr : Int32) (mUp : Nat → Int32) (x2 : Int32) (x3 : Int32) (y0 : Int64) (y1 : Int64), F_X11_togetherIt_64 (F_X11_togetherIt_21 fu n21) fu mm mthr mUp p1 x2 x3 y0 y1 = some o → ∀ (H : Heap) (locs : List Loc) (ls : Array Slot), lv_has ls 6 [(0, .ref q0), (1, .int p1), (2, .int x2), (3, .int x3)] → va_P (gD g) zCl (wModel g q0 q1 q2 q3 q4 q5 q6 q7 q8 q9 q10 q11 q12 mm masd msav misS mpst mchg merr mfai mthr minp minM mUp mcar mcam mahd magn mltr mbeg mcmd mcmM mpl msz mwr mlin mliM) H → va_D A (wModel g q0 q1 q2 q3 q4 q5 q6 q7 q8 q9 q10 q11 q12 mm masd msav misS mpst mchg merr mfai mthr minp minM mUp mcar mcam mahd magn mltr mbeg mcmd mcmM mpl msz mwr mlin mliM) → va_S A s.heap H locs → W p l e (headSpec w_X11_togetherIt r_X11_togetherIt).room s m ([.ref q0, .int p1] : List Value).toArray below meth c H locs 0 0 (MQ below (q_X11_togetherIt g q0 q1 q2 q3 q4 q5 q6 q7 q8 q9 q10 q11 q12 mm masd msav misS mpst mchg merr mfai mthr minp minM mUp mcar mcam mahd magn mltr mbeg mcmd mcmM mpl msz mwr mlin mliM o A) ([.ref q0, .int p1] : List Value).toArray s 0 0 A) (F0 m 64 ls [.long y1, .long y0]) := by
        intro _ mm mthr mUp x2 x3 y0 y1 hF H locs ls hl hP hD hS
        unfold F_X11_togetherIt_64 at hF
        refine lv_ladd hx hb dX11_togetherIt_64 ?_
        obtain ⟨zv11, ezv11, hF⟩ := z_let hF
        refine z_topl ezv11 ?_
        refine lv_lstore (lv' := [(4, .long zv11), (0, .ref q0), (1, .int p1), (2, .int x2), (3, .int x3)]) hx hb dX11_togetherIt_65 hl (by decide) rfl (fun ls hl => ?_)
        refine lv_aload_n hx hb dX11_togetherIt_67 rfl (lv_at hl 1 rfl) ?_
        refine va_get (D := gD g) (ci := 7) (v := .ref q1) (C := RX11) (T := TX11) (N := 25) hx hb hts inX11 hown hK hP 0 rfl rfl 0 (by decide) (hts _ mU_1244) (fun _ h9 => h9) rfl dX11_togetherIt_68 ?_
        refine lv_iconst (v := 3) hx hb dX11_togetherIt_71 (by decide) ?_
        refine lv_dup2_11 hx hb dX11_togetherIt_72 rfl rfl ?_
        refine va_lald hx hb hK hP 1 2 rfl rfl (by unfold vp_in; decide) dX11_togetherIt_73 ?_
        refine lv_lload hx hb dX11_togetherIt_74 (lv_at hl 0 rfl) ?_
        refine lv_aload_n hx hb dX11_togetherIt_76 rfl (lv_at hl 1 rfl) ?_
        refine va_get (D := gD g) (ci := 7) (v := .ref q1) (C := RX11) (T := TX11) (N := 25) hx hb hts inX11 hown hK hP 0 rfl rfl 0 (by decide) (hts _ mU_1244) (fun _ h9 => h9) rfl dX11_togetherIt_77 ?_
        refine lv_iload_n hx hb dX11_togetherIt_80 rfl (lv_at hl 4 rfl) ?_
        obtain ⟨zo12, hzo12, hF⟩ := z_bind hF
        refine z_calli (fun (_ : Unit) => []) [] (va_runS (As := [.int x3]) (rest := [.ref q1, .long zv11, .long (mm (Int32.toNatClampNeg 3)), .int 3, .ref q1]) ⟨hx, hb, hml, hown, hts⟩ (c_X11_at l g _ x3 _ hzo12) (va_cwS 1 hts (gdS mU_1372 mU_1373 mU_75 mU_1374) rfl rfl rfl (by decide +kernel) ⟨Nat.le_of_ble_eq_true rfl, Nat.le_of_ble_eq_true rfl⟩) ⟨z_blind _ _ _ _, fun U hU hW => z_pre [] hP hD hK hB hS hA rfl rfl hU hW⟩ rfl rfl hl.1 rfl (lv_room (Nat.le_of_ble_eq_true rfl)) dX11_togetherIt_81 ⟨Nat.le_of_ble_eq_true rfl, Nat.le_of_ble_eq_true rfl⟩) hP hD hS hA rfl (fun _ => rfl) (fun r u H locs hw hP hD hS => ?_)
        subst hw
        have hP : va_P (gD g) zCl (wModel g q0 q1 q2 q3 q4 q5 q6 q7 q8 q9 q10 q11 q12 mm masd msav misS mpst mchg merr mfai mthr minp minM mUp mcar mcam mahd magn mltr mbeg mcmd mcmM mpl msz mwr mlin mliM) H := hP
        have hD : va_D A (wModel g q0 q1 q2 q3 q4 q5 q6 q7 q8 q9 q10 q11 q12 mm masd msav misS mpst mchg merr mfai mthr minp minM mUp mcar mcam mahd magn mltr mbeg mcmd mcmM mpl msz mwr mlin mliM) := hD
        refine lv_iconst (v := 1) hx hb dX11_togetherIt_84 (by decide) ?_
        refine lv_iadd hx hb dX11_togetherIt_85 ?_
        obtain ⟨zg13, hF⟩ := z_grd hF
        refine va_lald hx hb hK hP 1 2 rfl rfl zg13 dX11_togetherIt_86 ?_
        refine lv_lsub hx hb dX11_togetherIt_87 ?_
        refine lv_ladd hx hb dX11_togetherIt_88 ?_
        obtain ⟨zv14, ezv14, hF⟩ := z_let hF
        refine z_topl ezv14 ?_
        refine va_last hx hb hK hP hD hS 1 2 rfl rfl (by unfold vp_in; decide) dX11_togetherIt_89 (fun H locs hP hD hS => ?_)
        have hP : va_P (gD g) zCl (wModel g q0 q1 q2 q3 q4 q5 q6 q7 q8 q9 q10 q11 q12 (vp_updL mm (Int32.toNatClampNeg 3) zv14) masd msav misS mpst mchg merr mfai mthr minp minM mUp mcar mcam mahd magn mltr mbeg mcmd mcmM mpl msz mwr mlin mliM) H := hP
        have hD : va_D A (wModel g q0 q1 q2 q3 q4 q5 q6 q7 q8 q9 q10 q11 q12 (vp_updL mm (Int32.toNatClampNeg 3) zv14) masd msav misS mpst mchg merr mfai mthr minp minM mUp mcar mcam mahd magn mltr mbeg mcmd mcmM mpl msz mwr mlin mliM) := hD
        refine lv_aload_n hx hb dX11_togetherIt_90 rfl (lv_at hl 1 rfl) ?_
        refine va_get (D := gD g) (ci := 7) (v := .ref q1) (C := RX11) (T := TX11) (N := 25) hx hb hts inX11 hown hK hP 0 rfl rfl 0 (by decide) (hts _ mU_1244) (fun _ h9 => h9) rfl dX11_togetherIt_91 ?_
        refine lv_iconst (v := 2) hx hb dX11_togetherIt_94 (by decide) ?_
        refine lv_dup2_11 hx hb dX11_togetherIt_95 rfl rfl ?_
        refine va_lald hx hb hK hP 1 2 rfl rfl (by unfold vp_in; decide) dX11_togetherIt_96 ?_
        refine lv_lload hx hb dX11_togetherIt_97 (lv_at hl 0 rfl) ?_
        refine lv_ldc2 (v := 10000000000) hx hb hown (hts _ mU_1419) dX11_togetherIt_99 ?_
        refine z_lcmp_lt (tgt := 110) hx hb dX11_togetherIt_102 dX11_togetherIt_103 (by decide) (fun zc15 => ?_) (fun zc15 => ?_)
        · have hF := z_pos hF zc15
          refine lv_lconst (v := 0) hx hb dX11_togetherIt_110 (by decide) ?_
          exact K111 () (vp_updL mm (Int32.toNatClampNeg 3) zv14) mthr mUp x2 x3 zv11 2 ((vp_updL mm (Int32.toNatClampNeg 3) zv14) (Int32.toNatClampNeg 2)) 0 hF _ _ _ (lv_sub hl [1, 2, 3, 4, 0] rfl) hP hD hS
        · have hF := z_neg hF zc15
          refine lv_lconst (v := 1) hx hb dX11_togetherIt_106 (by decide) ?_
          refine lv_goto (tgt := 111) hx hb dX11_togetherIt_107 (by decide) ?_
          exact K111 () (vp_updL mm (Int32.toNatClampNeg 3) zv14) mthr mUp x2 x3 zv11 2 ((vp_updL mm (Int32.toNatClampNeg 3) zv14) (Int32.toNatClampNeg 2)) 1 hF _ _ _ (lv_sub hl [1, 2, 3, 4, 0] rfl) hP hD hS
      intro mm mthr mUp x2 x3 hF H locs ls hl hP hD hS
      unfold F_X11_togetherIt_21 at hF
      refine lv_iload_n hx hb dX11_togetherIt_21 rfl (lv_at hl 3 rfl) ?_
      refine lv_aload_n hx hb dX11_togetherIt_22 rfl (lv_at hl 0 rfl) ?_
      obtain ⟨zo16, hzo16, hF⟩ := z_bind hF
      refine z_calliE (fun (_ : Unit) => (wModel g q0 q1 q2 q3 q4 q5 q6 q7 q8 q9 q10 q11 q12 mm masd msav misS mpst mchg merr mfai mthr minp minM mUp mcar mcam mahd magn mltr mbeg mcmd mcmM mpl msz mwr mlin mliM)) (va_runV (As := []) (rest := [.int x3]) ⟨hx, hb, hml, hown, hts⟩ (c_X11_many l g q0 q1 q2 q3 q4 q5 q6 q7 q8 q9 q10 q11 q12 mm masd msav misS mpst mchg merr mfai mthr minp minM mUp mcar mcam mahd magn mltr mbeg mcmd mcmM mpl msz mwr mlin mliM _ _ hzo16) (cwV 0 hts (gdV mU_1356 mU_1358 mU_32 mU_75 mU_1359) rfl rfl rfl (by decide +kernel) ⟨Nat.le_of_ble_eq_true rfl, Nat.le_of_ble_eq_true rfl⟩) ⟨z_blind _ _ _ _, va_recv hK hP (ci := 7) (q0 := 0) rfl rfl, fun U hU hW => z_preE hP hD hK hB hS hA hU hW⟩ rfl rfl hl.1 rfl (lv_room (Nat.le_of_ble_eq_true rfl)) dX11_togetherIt_23 ⟨Nat.le_of_ble_eq_true rfl, Nat.le_of_ble_eq_true rfl⟩) hD hS hA (fun _ => rfl) (fun r u H locs hw hP hD hS => ?_)
      subst hw
      have hP : va_P (gD g) zCl (wModel g q0 q1 q2 q3 q4 q5 q6 q7 q8 q9 q10 q11 q12 mm masd msav misS mpst mchg merr mfai mthr minp minM mUp mcar mcam mahd magn mltr mbeg mcmd mcmM mpl msz mwr mlin mliM) H := hP
      have hD : va_D A (wModel g q0 q1 q2 q3 q4 q5 q6 q7 q8 q9 q10 q11 q12 mm masd msav misS mpst mchg merr mfai mthr minp minM mUp mcar mcam mahd magn mltr mbeg mcmd mcmM mpl msz mwr mlin mliM) := hD
      refine lv_icmp_ge (tgt := 177) hx hb dX11_togetherIt_26 (by decide) (fun zc17 => ?_) (fun zc17 => ?_)
      · have hF := z_pos hF zc17
        refine lv_iload_n hx hb dX11_togetherIt_177 rfl (lv_at hl 2 rfl) ?_
        have ho := (Option.some.inj hF).symm
        exact W.iret (v := x2) hx hb hr (fun t ht hW => ⟨⟨x2, (mm, mthr, mUp), rfl, ⟨by rw [ho], by rw [ho]⟩, z_end ht hP⟩, hS.F ht⟩) hS.2.2 dX11_togetherIt_178
      · have hF := z_neg hF zc17
        refine lv_aload_n hx hb dX11_togetherIt_29 rfl (lv_at hl 0 rfl) ?_
        refine va_get (D := gD g) (ci := 7) (v := .ref q1) (C := RX11) (T := TX11) (N := 25) hx hb hts inX11 hown hK hP 0 rfl rfl 0 (by decide) (hts _ mU_1244) (fun _ h9 => h9) rfl dX11_togetherIt_30 ?_
        refine lv_iload_n hx hb dX11_togetherIt_33 rfl (lv_at hl 3 rfl) ?_
        obtain ⟨zo18, hzo18, hF⟩ := z_bind hF
        refine z_calli (fun (_ : Unit) => []) [] (va_runS (As := [.int x3]) (rest := [.ref q1]) ⟨hx, hb, hml, hown, hts⟩ (c_X11_at l g _ x3 _ hzo18) (va_cwS 1 hts (gdS mU_1372 mU_1373 mU_75 mU_1374) rfl rfl rfl (by decide +kernel) ⟨Nat.le_of_ble_eq_true rfl, Nat.le_of_ble_eq_true rfl⟩) ⟨z_blind _ _ _ _, fun U hU hW => z_pre [] hP hD hK hB hS hA rfl rfl hU hW⟩ rfl rfl hl.1 rfl (lv_room (Nat.le_of_ble_eq_true rfl)) dX11_togetherIt_34 ⟨Nat.le_of_ble_eq_true rfl, Nat.le_of_ble_eq_true rfl⟩) hP hD hS hA rfl (fun _ => rfl) (fun r u H locs hw hP hD hS => ?_)
        subst hw
        have hP : va_P (gD g) zCl (wModel g q0 q1 q2 q3 q4 q5 q6 q7 q8 q9 q10 q11 q12 mm masd msav misS mpst mchg merr mfai mthr minp minM mUp mcar mcam mahd magn mltr mbeg mcmd mcmM mpl msz mwr mlin mliM) H := hP
        have hD : va_D A (wModel g q0 q1 q2 q3 q4 q5 q6 q7 q8 q9 q10 q11 q12 mm masd msav misS mpst mchg merr mfai mthr minp minM mUp mcar mcam mahd magn mltr mbeg mcmd mcmM mpl msz mwr mlin mliM) := hD
        refine lv_iconst (v := 1) hx hb dX11_togetherIt_37 (by decide) ?_
        refine lv_iadd hx hb dX11_togetherIt_38 ?_
        obtain ⟨zg19, hF⟩ := z_grd hF
        refine va_lald hx hb hK hP 1 2 rfl rfl zg19 dX11_togetherIt_39 ?_
        refine lv_aload_n hx hb dX11_togetherIt_40 rfl (lv_at hl 0 rfl) ?_
        refine lv_iload_n hx hb dX11_togetherIt_41 rfl (lv_at hl 3 rfl) ?_
        refine lv_iload_n hx hb dX11_togetherIt_42 rfl (lv_at hl 1 rfl) ?_
        obtain ⟨zo20, hzo20, hF⟩ := z_bind hF
        refine z_calllE (fun (_ : Unit) => (wModel g q0 q1 q2 q3 q4 q5 q6 q7 q8 q9 q10 q11 q12 mm masd msav misS mpst mchg merr mfai mthr minp minM mUp mcar mcam mahd magn mltr mbeg mcmd mcmM mpl msz mwr mlin mliM)) (va_runV (As := [.int x3, .int p1]) (rest := [.long (mm (Int32.toNatClampNeg (zo18 + 1)))]) ⟨hx, hb, hml, hown, hts⟩ (c_X11_rest l g q0 q1 q2 q3 q4 q5 q6 q7 q8 q9 q10 q11 q12 mm masd msav misS mpst mchg merr mfai mthr minp minM mUp mcar mcam mahd magn mltr mbeg mcmd mcmM mpl msz mwr mlin mliM _ x3 p1 fu _ hzo20) (cwV 2 hts (gdV mU_1456 mU_1458 mU_45 mU_75 mU_1459) rfl rfl rfl (by decide +kernel) ⟨Nat.le_of_ble_eq_true rfl, Nat.le_of_ble_eq_true rfl⟩) ⟨z_blind _ _ _ _, va_recv hK hP (ci := 7) (q0 := 0) rfl rfl, fun U hU hW => z_preE hP hD hK hB hS hA hU hW⟩ rfl rfl hl.1 rfl (lv_room (Nat.le_of_ble_eq_true rfl)) dX11_togetherIt_43 ⟨Nat.le_of_ble_eq_true rfl, Nat.le_of_ble_eq_true rfl⟩) hD hS hA (fun _ => rfl) (fun r u H locs hw hP hD hS => ?_)
        subst hw
        have hP : va_P (gD g) zCl (wModel g q0 q1 q2 q3 q4 q5 q6 q7 q8 q9 q10 q11 q12 mm masd msav misS mpst mchg merr mfai mthr minp minM mUp mcar mcam mahd magn mltr mbeg mcmd mcmM mpl msz mwr mlin mliM) H := hP
        have hD : va_D A (wModel g q0 q1 q2 q3 q4 q5 q6 q7 q8 q9 q10 q11 q12 mm masd msav misS mpst mchg merr mfai mthr minp minM mUp mcar mcam mahd magn mltr mbeg mcmd mcmM mpl msz mwr mlin mliM) := hD
        refine lv_lsub hx hb dX11_togetherIt_46 ?_
        refine lv_aload_n hx hb dX11_togetherIt_47 rfl (lv_at hl 0 rfl) ?_
        refine va_get (D := gD g) (ci := 7) (v := .ref q6) (C := RX11) (T := TX11) (N := 25) hx hb hts inX11 hown hK hP 0 rfl rfl 11 (by decide) (hts _ mU_1255) (fun _ h9 => h9) rfl dX11_togetherIt_48 ?_
        refine lv_iload_n hx hb dX11_togetherIt_51 rfl (lv_at hl 3 rfl) ?_
        obtain ⟨zg21, hF⟩ := z_grd hF
        refine va_zald hx hb hK hP 6 3 rfl rfl zg21 dX11_togetherIt_52 ?_
        refine lv_if_eq (tgt := 63) hx hb dX11_togetherIt_53 (by decide) (fun zc22 => ?_) (fun zc22 => ?_)
        · have hF := z_pos hF zc22
          refine lv_lconst (v := 0) hx hb dX11_togetherIt_63 (by decide) ?_
          exact K64 () mm mthr mUp x2 x3 ((mm (Int32.toNatClampNeg (zo18 + 1))) - zo20) 0 hF _ _ _ (lv_sub hl [0, 1, 2, 3] rfl) hP hD hS
        · have hF := z_neg hF zc22
          refine lv_iload_n hx hb dX11_togetherIt_56 rfl (lv_at hl 1 rfl) ?_
          obtain ⟨zo23, hzo23, hF⟩ := z_bind hF
          refine z_calll (fun (_ : Unit) => []) [] (va_runS (As := [.int p1]) (rest := [.long ((mm (Int32.toNatClampNeg (zo18 + 1))) - zo20)]) ⟨hx, hb, hml, hown, hts⟩ (c_X11_step l g _ p1 fu _ hzo23) (va_cwS 1 hts (gdS mU_1364 mU_1365 mU_75 mU_1366) rfl rfl rfl (by decide +kernel) ⟨Nat.le_of_ble_eq_true rfl, Nat.le_of_ble_eq_true rfl⟩) ⟨z_blind _ _ _ _, fun U hU hW => z_pre [] hP hD hK hB hS hA rfl rfl hU hW⟩ rfl rfl hl.1 rfl (lv_room (Nat.le_of_ble_eq_true rfl)) dX11_togetherIt_57 ⟨Nat.le_of_ble_eq_true rfl, Nat.le_of_ble_eq_true rfl⟩) hP hD hS hA rfl (fun _ => rfl) (fun r u H locs hw hP hD hS => ?_)
          subst hw
          have hP : va_P (gD g) zCl (wModel g q0 q1 q2 q3 q4 q5 q6 q7 q8 q9 q10 q11 q12 mm masd msav misS mpst mchg merr mfai mthr minp minM mUp mcar mcam mahd magn mltr mbeg mcmd mcmM mpl msz mwr mlin mliM) H := hP
          have hD : va_D A (wModel g q0 q1 q2 q3 q4 q5 q6 q7 q8 q9 q10 q11 q12 mm masd msav misS mpst mchg merr mfai mthr minp minM mUp mcar mcam mahd magn mltr mbeg mcmd mcmM mpl msz mwr mlin mliM) := hD
          refine lv_goto (tgt := 64) hx hb dX11_togetherIt_60 (by decide) ?_
          exact K64 () mm mthr mUp x2 x3 ((mm (Int32.toNatClampNeg (zo18 + 1))) - zo20) zo23 hF _ _ _ (lv_sub hl [0, 1, 2, 3] rfl) hP hD hS
  refine lv_iload_n hx hb dX11_togetherIt_0 rfl (lv_at hl 1 rfl) ?_
  obtain ⟨zo24, hzo24, hF⟩ := z_bind hF
  refine z_calli (fun (_ : Unit) => []) [] (va_runS (As := [.int p1]) (rest := []) ⟨hx, hb, hml, hown, hts⟩ (c_X11_isScale l g _ p1 _ hzo24) (va_cwS 1 hts (gdS mU_1345 mU_1346 mU_75 mU_1347) rfl rfl rfl (by decide +kernel) ⟨Nat.le_of_ble_eq_true rfl, Nat.le_of_ble_eq_true rfl⟩) ⟨z_blind _ _ _ _, fun U hU hW => z_pre [] hP hD hK hB hS hA rfl rfl hU hW⟩ rfl rfl hl.1 rfl (lv_room (Nat.le_of_ble_eq_true rfl)) dX11_togetherIt_1 ⟨Nat.le_of_ble_eq_true rfl, Nat.le_of_ble_eq_true rfl⟩) hP hD hS hA rfl (fun _ => rfl) (fun r u H locs hw hP hD hS => ?_)
  subst hw
  have hP : va_P (gD g) zCl (wModel g q0 q1 q2 q3 q4 q5 q6 q7 q8 q9 q10 q11 q12 mm masd msav misS mpst mchg merr mfai mthr minp minM mUp mcar mcam mahd magn mltr mbeg mcmd mcmM mpl msz mwr mlin mliM) H := hP
  have hD : va_D A (wModel g q0 q1 q2 q3 q4 q5 q6 q7 q8 q9 q10 q11 q12 mm masd msav misS mpst mchg merr mfai mthr minp minM mUp mcar mcam mahd magn mltr mbeg mcmd mcmM mpl msz mwr mlin mliM) := hD
  refine lv_if_ne (tgt := 13) hx hb dX11_togetherIt_4 (by decide) (fun zc25 => ?_) (fun zc25 => ?_)
  · have hF := z_neg hF zc25
    refine lv_aload_n hx hb dX11_togetherIt_13 rfl (lv_at hl 0 rfl) ?_
    refine lv_iload_n hx hb dX11_togetherIt_14 rfl (lv_at hl 1 rfl) ?_
    obtain ⟨zo26, hzo26, hF⟩ := z_bind hF
    refine z_calliE (fun (u : (Nat → Int32)) => (wModel g q0 q1 q2 q3 q4 q5 q6 q7 q8 q9 q10 q11 q12 mm masd msav misS mpst mchg merr mfai mthr minp minM u mcar mcam mahd magn mltr mbeg mcmd mcmM mpl msz mwr mlin mliM)) (va_runV (As := [.int p1]) (rest := []) ⟨hx, hb, hml, hown, hts⟩ (c_X11_chooses l g q0 q1 q2 q3 q4 q5 q6 q7 q8 q9 q10 q11 q12 mm masd msav misS mpst mchg merr mfai mthr minp minM mUp mcar mcam mahd magn mltr mbeg mcmd mcmM mpl msz mwr mlin mliM _ p1 fu _ hzo26) (cwV 1 hts (gdV mU_1452 mU_1454 mU_44 mU_75 mU_1455) rfl rfl rfl (by decide +kernel) ⟨Nat.le_of_ble_eq_true rfl, Nat.le_of_ble_eq_true rfl⟩) ⟨z_blind _ _ _ _, va_recv hK hP (ci := 7) (q0 := 0) rfl rfl, fun U hU hW => z_preE hP hD hK hB hS hA hU hW⟩ rfl rfl hl.1 rfl (lv_room (Nat.le_of_ble_eq_true rfl)) dX11_togetherIt_15 ⟨Nat.le_of_ble_eq_true rfl, Nat.le_of_ble_eq_true rfl⟩) hD hS hA (fun _ => rfl) (fun r u H locs hw hP hD hS => ?_)
    obtain ⟨rfl, rfl⟩ := hw
    have hP : va_P (gD g) zCl (wModel g q0 q1 q2 q3 q4 q5 q6 q7 q8 q9 q10 q11 q12 mm masd msav misS mpst mchg merr mfai mthr minp minM zo26.2 mcar mcam mahd magn mltr mbeg mcmd mcmM mpl msz mwr mlin mliM) H := hP
    have hD : va_D A (wModel g q0 q1 q2 q3 q4 q5 q6 q7 q8 q9 q10 q11 q12 mm masd msav misS mpst mchg merr mfai mthr minp minM zo26.2 mcar mcam mahd magn mltr mbeg mcmd mcmM mpl msz mwr mlin mliM) := hD
    refine lv_istore_n (lv' := [(2, .int zo26.1), (0, .ref q0), (1, .int p1)]) hx hb dX11_togetherIt_18 rfl hl (by decide) rfl (fun ls hl => ?_)
    refine lv_iconst (v := 0) hx hb dX11_togetherIt_19 (by decide) ?_
    refine lv_istore_n (lv' := [(3, .int 0), (2, .int zo26.1), (0, .ref q0), (1, .int p1)]) hx hb dX11_togetherIt_20 rfl hl (by decide) rfl (fun ls hl => ?_)
    exact K21 fu mm mthr zo26.2 zo26.1 0 hF _ _ _ (lv_sub hl [2, 3, 1, 0] rfl) hP hD hS
  · have hF := z_pos hF zc25
    refine lv_aload_n hx hb dX11_togetherIt_7 rfl (lv_at hl 0 rfl) ?_
    refine lv_iconst (v := 1) hx hb dX11_togetherIt_8 (by decide) ?_
    obtain ⟨zo27, hzo27, hF⟩ := z_bind hF
    refine z_calliE (fun (u : Int32) => (wModel g q0 q1 q2 q3 q4 q5 q6 q7 q8 q9 q10 q11 q12 mm masd msav misS mpst mchg merr mfai u minp minM mUp mcar mcam mahd magn mltr mbeg mcmd mcmM mpl msz mwr mlin mliM)) (va_runV (As := [.int 1]) (rest := []) ⟨hx, hb, hml, hown, hts⟩ (c_X11_throwing l g q0 q1 q2 q3 q4 q5 q6 q7 q8 q9 q10 q11 q12 mm masd msav misS mpst mchg merr mfai mthr minp minM mUp mcar mcam mahd magn mltr mbeg mcmd mcmM mpl msz mwr mlin mliM _ 1 _ hzo27) (cwV 1 hts (gdV mU_1352 mU_1354 mU_31 mU_75 mU_1355) rfl rfl rfl (by decide +kernel) ⟨Nat.le_of_ble_eq_true rfl, Nat.le_of_ble_eq_true rfl⟩) ⟨z_blind _ _ _ _, va_recv hK hP (ci := 7) (q0 := 0) rfl rfl, fun U hU hW => z_preE hP hD hK hB hS hA hU hW⟩ rfl rfl hl.1 rfl (lv_room (Nat.le_of_ble_eq_true rfl)) dX11_togetherIt_9 ⟨Nat.le_of_ble_eq_true rfl, Nat.le_of_ble_eq_true rfl⟩) hD hS hA (fun _ => rfl) (fun r u H locs hw hP hD hS => ?_)
    obtain ⟨rfl, rfl⟩ := hw
    have hP : va_P (gD g) zCl (wModel g q0 q1 q2 q3 q4 q5 q6 q7 q8 q9 q10 q11 q12 mm masd msav misS mpst mchg merr mfai zo27.2 minp minM mUp mcar mcam mahd magn mltr mbeg mcmd mcmM mpl msz mwr mlin mliM) H := hP
    have hD : va_D A (wModel g q0 q1 q2 q3 q4 q5 q6 q7 q8 q9 q10 q11 q12 mm masd msav misS mpst mchg merr mfai zo27.2 minp minM mUp mcar mcam mahd magn mltr mbeg mcmd mcmM mpl msz mwr mlin mliM) := hD
    have ho := (Option.some.inj hF).symm
    exact W.iret (v := zo27.1) hx hb hr (fun t ht hW => ⟨⟨zo27.1, (mm, zo27.2, mUp), rfl, ⟨by rw [ho], by rw [ho]⟩, z_end ht hP⟩, hS.F ht⟩) hS.2.2 dX11_togetherIt_12
abbrev w_X11_roundTogether : List Cond := .code yX11_roundTogether cX11_roundTogether 3 (some .int) :: wU
abbrev r_X11_roundTogether : Room := { frames := 4, cells := 0, slots := 0, locals := 104 }
abbrev q_X11_roundTogether (g : GG) (q0 q1 q2 q3 q4 q5 q6 q7 q8 q9 q10 q11 q12 : Nat) (mm : Nat → Int64) (masd : Nat → Int64) (msav : Nat → Int64) (misS : Int32) (mpst : Nat → Int64) (mchg : Int32) (merr : Int32) (mfai : Int32) (mthr : Int32) (minp : Nat → Int32) (minM : Int32) (mUp : Nat → Int32) (mcar : Nat → Int32) (mcam : Nat → Int32) (mahd : Int32) (magn : Int32) (mltr : Nat → Int32) (mbeg : Nat → Int32) (mcmd : Nat → Int32) (mcmM : Int32) (mpl : Int32) (msz : Int32) (mwr : Int32) (mlin : Nat → Int32) (mliM : Int32) (o : Int32 × (Nat → Int64) × (Nat → Int64) × (Nat → Int64) × Int32 × Int32 × (Nat → Int32)) (A : Nat → Prop) := va_Qi (fun (r : Int32) (u : (Nat → Int64) × (Nat → Int64) × (Nat → Int64) × Int32 × Int32 × (Nat → Int32)) => o.1 = r ∧ o.2 = u) (fun u t => va_P (gD g) zCl (wModel g q0 q1 q2 q3 q4 q5 q6 q7 q8 q9 q10 q11 q12 u.1 u.2.1 msav misS u.2.2.1 u.2.2.2.1 merr mfai u.2.2.2.2.1 minp minM u.2.2.2.2.2 mcar mcam mahd magn mltr mbeg mcmd mcmM mpl msz mwr mlin mliM) t.heap) A
set_option maxHeartbeats 4000000 in
set_option maxRecDepth 100000 in
theorem c_X11_roundTogether (l : Launch) (g : GG) (q0 q1 q2 q3 q4 q5 q6 q7 q8 q9 q10 q11 q12 : Nat) (mm : Nat → Int64) (masd : Nat → Int64) (msav : Nat → Int64) (misS : Int32) (mpst : Nat → Int64) (mchg : Int32) (merr : Int32) (mfai : Int32) (mthr : Int32) (minp : Nat → Int32) (minM : Int32) (mUp : Nat → Int32) (mcar : Nat → Int32) (mcam : Nat → Int32) (mahd : Int32) (magn : Int32) (mltr : Nat → Int32) (mbeg : Nat → Int32) (mcmd : Nat → Int32) (mcmM : Int32) (mpl : Int32) (msz : Int32) (mwr : Int32) (mlin : Nat → Int32) (mliM : Int32) (sz : Nat) (p1 : Int32) (fu : Nat) (o : Int32 × (Nat → Int64) × (Nat → Int64) × (Nat → Int64) × Int32 × Int32 × (Nat → Int32)) (hF : F_X11_roundTogether fu mm masd mpst mchg mthr mUp p1 = some o) : Met l yX11_roundTogether w_X11_roundTogether r_X11_roundTogether (va_Pc [.ref q0, .int p1] (zP g (wModel g q0 q1 q2 q3 q4 q5 q6 q7 q8 q9 q10 q11 q12 mm masd msav misS mpst mchg merr mfai mthr minp minM mUp mcar mcam mahd magn mltr mbeg mcmd mcmM mpl msz mwr mlin mliM) sz)) (q_X11_roundTogether g q0 q1 q2 q3 q4 q5 q6 q7 q8 q9 q10 q11 q12 mm masd msav misS mpst mchg merr mfai mthr minp minM mUp mcar mcam mahd magn mltr mbeg mcmd mcmM mpl msz mwr mlin mliM o (va_A (wModel g q0 q1 q2 q3 q4 q5 q6 q7 q8 q9 q10 q11 q12 mm masd msav misS mpst mchg merr mfai mthr minp minM mUp mcar mcam mahd magn mltr mbeg mcmd mcmM mpl msz mwr mlin mliM) sz)) 0 0 (va_A (wModel g q0 q1 q2 q3 q4 q5 q6 q7 q8 q9 q10 q11 q12 mm masd msav misS mpst mchg merr mfai mthr minp minM mUp mcar mcam mahd magn mltr mbeg mcmd mcmM mpl msz mwr mlin mliM) sz) := by
  refine Met.ofW (cc := cX11_roundTogether) (maxL := 3) (ret := (some .int)) (by decide) rfl ?_
  intro p e s m args below meth c s₁ B hml hv
  obtain ⟨rfl, rfl, hP, hK, hD0, hB⟩ := hv
  have hx := B.exec
  have hb := B.bytes
  have hr := B.returns
  have hts : ∀ w ∈ wU, w.before _ s = true := fun w h => atoms_spec (ws := w_X11_roundTogether) B.pre w (List.mem_cons_of_mem _ h)
  have hown : s.vm.findClass RX11 = some m.cls := findClass_of_methodNamed B.named
  have hlocks := B.notSynchronized
  have hD := hD0.self (sz := s.heap.size)
  generalize hAe : va_A (wModel g q0 q1 q2 q3 q4 q5 q6 q7 q8 q9 q10 q11 q12 mm masd msav misS mpst mchg merr mfai mthr minp minM mUp mcar mcam mahd magn mltr mbeg mcmd mcmM mpl msz mwr mlin mliM) s.heap.size = A at hD hB ⊢
  have hA : ∀ q : Nat, s.heap.size ≤ q → A q := fun q h => by rw [← hAe]; exact Or.inr h
  have hS : va_S A s.heap s.heap [] := va_S.rf
  have hl := lv_entry ([.ref q0, .int p1]) (n := 3) (Nat.le_of_ble_eq_true rfl)
  rw [lg_entry_eq]
  generalize (lg_sl ([.ref q0, .int p1]) ++ List.replicate (3 - (lg_sl ([.ref q0, .int p1])).length) Slot.unset).toArray = ls at hl ⊢
  have hl : lv_has ls 3 [(0, .ref q0), (1, .int p1)] := hl
  unfold F_X11_roundTogether at hF
  refine lv_aload_n hx hb dX11_roundTogether_0 rfl (lv_at hl 0 rfl) ?_
  obtain ⟨zo1, hzo1, hF⟩ := z_bind hF
  refine z_callvE (fun (u : (Nat → Int64) × Int32) => (wModel g q0 q1 q2 q3 q4 q5 q6 q7 q8 q9 q10 q11 q12 mm u.1 msav misS mpst mchg merr mfai u.2 minp minM mUp mcar mcam mahd magn mltr mbeg mcmd mcmM mpl msz mwr mlin mliM)) (va_runV (As := []) (rest := []) ⟨hx, hb, hml, hown, hts⟩ (c_X11_starts l g q0 q1 q2 q3 q4 q5 q6 q7 q8 q9 q10 q11 q12 mm masd msav misS mpst mchg merr mfai mthr minp minM mUp mcar mcam mahd magn mltr mbeg mcmd mcmM mpl msz mwr mlin mliM _ fu _ hzo1) (cwV 0 hts (gdV mU_1329 mU_1331 mU_29 mU_75 mU_1332) rfl rfl rfl (by decide +kernel) ⟨Nat.le_of_ble_eq_true rfl, Nat.le_of_ble_eq_true rfl⟩) ⟨z_blind _ _ _ _, va_recv hK hP (ci := 7) (q0 := 0) rfl rfl, fun U hU hW => z_preE hP hD hK hB hS hA hU hW⟩ rfl rfl hl.1 rfl (lv_room (Nat.le_of_ble_eq_true rfl)) dX11_roundTogether_1 ⟨Nat.le_of_ble_eq_true rfl, Nat.le_of_ble_eq_true rfl⟩) hD hS hA (fun _ => rfl) (fun u H locs hw hP hD hS => ?_)
  subst hw
  have hP : va_P (gD g) zCl (wModel g q0 q1 q2 q3 q4 q5 q6 q7 q8 q9 q10 q11 q12 mm zo1.1 msav misS mpst mchg merr mfai zo1.2 minp minM mUp mcar mcam mahd magn mltr mbeg mcmd mcmM mpl msz mwr mlin mliM) H := hP
  have hD : va_D A (wModel g q0 q1 q2 q3 q4 q5 q6 q7 q8 q9 q10 q11 q12 mm zo1.1 msav misS mpst mchg merr mfai zo1.2 minp minM mUp mcar mcam mahd magn mltr mbeg mcmd mcmM mpl msz mwr mlin mliM) := hD
  refine lv_aload_n hx hb dX11_roundTogether_4 rfl (lv_at hl 0 rfl) ?_
  refine lv_iload_n hx hb dX11_roundTogether_5 rfl (lv_at hl 1 rfl) ?_
  obtain ⟨zo2, hzo2, hF⟩ := z_bind hF
  refine z_calliE (fun (u : (Nat → Int64) × Int32 × (Nat → Int32)) => (wModel g q0 q1 q2 q3 q4 q5 q6 q7 q8 q9 q10 q11 q12 u.1 zo1.1 msav misS mpst mchg merr mfai u.2.1 minp minM u.2.2 mcar mcam mahd magn mltr mbeg mcmd mcmM mpl msz mwr mlin mliM)) (va_runV (As := [.int p1]) (rest := []) ⟨hx, hb, hml, hown, hts⟩ (c_X11_togetherIt l g q0 q1 q2 q3 q4 q5 q6 q7 q8 q9 q10 q11 q12 mm zo1.1 msav misS mpst mchg merr mfai zo1.2 minp minM mUp mcar mcam mahd magn mltr mbeg mcmd mcmM mpl msz mwr mlin mliM _ p1 fu _ hzo2) (cwV 1 hts (gdV mU_1448 mU_1450 mU_43 mU_75 mU_1451) rfl rfl rfl (by decide +kernel) ⟨Nat.le_of_ble_eq_true rfl, Nat.le_of_ble_eq_true rfl⟩) ⟨z_blind _ _ _ _, va_recv hK hP (ci := 7) (q0 := 0) rfl rfl, fun U hU hW => z_preE hP hD hK hB hS hA hU hW⟩ rfl rfl hl.1 rfl (lv_room (Nat.le_of_ble_eq_true rfl)) dX11_roundTogether_6 ⟨Nat.le_of_ble_eq_true rfl, Nat.le_of_ble_eq_true rfl⟩) hD hS hA (fun _ => rfl) (fun r u H locs hw hP hD hS => ?_)
  obtain ⟨rfl, rfl⟩ := hw
  have hP : va_P (gD g) zCl (wModel g q0 q1 q2 q3 q4 q5 q6 q7 q8 q9 q10 q11 q12 zo2.2.1 zo1.1 msav misS mpst mchg merr mfai zo2.2.2.1 minp minM zo2.2.2.2 mcar mcam mahd magn mltr mbeg mcmd mcmM mpl msz mwr mlin mliM) H := hP
  have hD : va_D A (wModel g q0 q1 q2 q3 q4 q5 q6 q7 q8 q9 q10 q11 q12 zo2.2.1 zo1.1 msav misS mpst mchg merr mfai zo2.2.2.1 minp minM zo2.2.2.2 mcar mcam mahd magn mltr mbeg mcmd mcmM mpl msz mwr mlin mliM) := hD
  refine lv_istore_n (lv' := [(2, .int zo2.1), (0, .ref q0), (1, .int p1)]) hx hb dX11_roundTogether_9 rfl hl (by decide) rfl (fun ls hl => ?_)
  refine lv_aload_n hx hb dX11_roundTogether_10 rfl (lv_at hl 1 rfl) ?_
  obtain ⟨zo3, hzo3, hF⟩ := z_bind hF
  refine z_callvE (fun (u : (Nat → Int64) × Int32) => (wModel g q0 q1 q2 q3 q4 q5 q6 q7 q8 q9 q10 q11 q12 zo2.2.1 zo1.1 msav misS u.1 u.2 merr mfai zo2.2.2.1 minp minM zo2.2.2.2 mcar mcam mahd magn mltr mbeg mcmd mcmM mpl msz mwr mlin mliM)) (va_runV (As := []) (rest := []) ⟨hx, hb, hml, hown, hts⟩ (c_X11_ends l g q0 q1 q2 q3 q4 q5 q6 q7 q8 q9 q10 q11 q12 zo2.2.1 zo1.1 msav misS mpst mchg merr mfai zo2.2.2.1 minp minM zo2.2.2.2 mcar mcam mahd magn mltr mbeg mcmd mcmM mpl msz mwr mlin mliM _ fu _ hzo3) (cwV 0 hts (gdV mU_1375 mU_1377 mU_34 mU_75 mU_1378) rfl rfl rfl (by decide +kernel) ⟨Nat.le_of_ble_eq_true rfl, Nat.le_of_ble_eq_true rfl⟩) ⟨z_blind _ _ _ _, va_recv hK hP (ci := 7) (q0 := 0) rfl rfl, fun U hU hW => z_preE hP hD hK hB hS hA hU hW⟩ rfl rfl hl.1 rfl (lv_room (Nat.le_of_ble_eq_true rfl)) dX11_roundTogether_11 ⟨Nat.le_of_ble_eq_true rfl, Nat.le_of_ble_eq_true rfl⟩) hD hS hA (fun _ => rfl) (fun u H locs hw hP hD hS => ?_)
  subst hw
  have hP : va_P (gD g) zCl (wModel g q0 q1 q2 q3 q4 q5 q6 q7 q8 q9 q10 q11 q12 zo2.2.1 zo1.1 msav misS zo3.1 zo3.2 merr mfai zo2.2.2.1 minp minM zo2.2.2.2 mcar mcam mahd magn mltr mbeg mcmd mcmM mpl msz mwr mlin mliM) H := hP
  have hD : va_D A (wModel g q0 q1 q2 q3 q4 q5 q6 q7 q8 q9 q10 q11 q12 zo2.2.1 zo1.1 msav misS zo3.1 zo3.2 merr mfai zo2.2.2.1 minp minM zo2.2.2.2 mcar mcam mahd magn mltr mbeg mcmd mcmM mpl msz mwr mlin mliM) := hD
  refine lv_iload_n hx hb dX11_roundTogether_14 rfl (lv_at hl 0 rfl) ?_
  have ho := (Option.some.inj hF).symm
  exact W.iret (v := zo2.1) hx hb hr (fun t ht hW => ⟨⟨zo2.1, (zo2.2.1, zo1.1, zo3.1, zo3.2, zo2.2.2.1, zo2.2.2.2), rfl, ⟨by rw [ho], by rw [ho]⟩, z_end ht hP⟩, hS.F ht⟩) hS.2.2 dX11_roundTogether_15
abbrev w_X11_count : List Cond := .code yX11_count cX11_count 1 (some .int) :: wU
abbrev r_X11_count : Room := { frames := 1, cells := 0, slots := 0, locals := 20 }
abbrev q_X11_count (g : GG) (q0 q1 q2 q3 q4 q5 q6 q7 q8 q9 q10 q11 q12 : Nat) (mm : Nat → Int64) (masd : Nat → Int64) (msav : Nat → Int64) (misS : Int32) (mpst : Nat → Int64) (mchg : Int32) (merr : Int32) (mfai : Int32) (mthr : Int32) (minp : Nat → Int32) (minM : Int32) (mUp : Nat → Int32) (mcar : Nat → Int32) (mcam : Nat → Int32) (mahd : Int32) (magn : Int32) (mltr : Nat → Int32) (mbeg : Nat → Int32) (mcmd : Nat → Int32) (mcmM : Int32) (mpl : Int32) (msz : Int32) (mwr : Int32) (mlin : Nat → Int32) (mliM : Int32) (o : Int32 × Int32) (A : Nat → Prop) := va_Qi (fun (r : Int32) (u : Int32) => o.1 = r ∧ o.2 = u) (fun u t => va_P (gD g) zCl (wModel g q0 q1 q2 q3 q4 q5 q6 q7 q8 q9 q10 q11 q12 mm masd msav misS mpst mchg merr mfai u minp minM mUp mcar mcam mahd magn mltr mbeg mcmd mcmM mpl msz mwr mlin mliM) t.heap) A
set_option maxHeartbeats 4000000 in
set_option maxRecDepth 100000 in
theorem c_X11_count (l : Launch) (g : GG) (q0 q1 q2 q3 q4 q5 q6 q7 q8 q9 q10 q11 q12 : Nat) (mm : Nat → Int64) (masd : Nat → Int64) (msav : Nat → Int64) (misS : Int32) (mpst : Nat → Int64) (mchg : Int32) (merr : Int32) (mfai : Int32) (mthr : Int32) (minp : Nat → Int32) (minM : Int32) (mUp : Nat → Int32) (mcar : Nat → Int32) (mcam : Nat → Int32) (mahd : Int32) (magn : Int32) (mltr : Nat → Int32) (mbeg : Nat → Int32) (mcmd : Nat → Int32) (mcmM : Int32) (mpl : Int32) (msz : Int32) (mwr : Int32) (mlin : Nat → Int32) (mliM : Int32) (sz : Nat) (o : Int32 × Int32) (hF : F_X11_count mm mthr = some o) : Met l yX11_count w_X11_count r_X11_count (va_Pc [.ref q0] (zP g (wModel g q0 q1 q2 q3 q4 q5 q6 q7 q8 q9 q10 q11 q12 mm masd msav misS mpst mchg merr mfai mthr minp minM mUp mcar mcam mahd magn mltr mbeg mcmd mcmM mpl msz mwr mlin mliM) sz)) (q_X11_count g q0 q1 q2 q3 q4 q5 q6 q7 q8 q9 q10 q11 q12 mm masd msav misS mpst mchg merr mfai mthr minp minM mUp mcar mcam mahd magn mltr mbeg mcmd mcmM mpl msz mwr mlin mliM o (va_A (wModel g q0 q1 q2 q3 q4 q5 q6 q7 q8 q9 q10 q11 q12 mm masd msav misS mpst mchg merr mfai mthr minp minM mUp mcar mcam mahd magn mltr mbeg mcmd mcmM mpl msz mwr mlin mliM) sz)) 0 0 (va_A (wModel g q0 q1 q2 q3 q4 q5 q6 q7 q8 q9 q10 q11 q12 mm masd msav misS mpst mchg merr mfai mthr minp minM mUp mcar mcam mahd magn mltr mbeg mcmd mcmM mpl msz mwr mlin mliM) sz) := by
  refine Met.ofW (cc := cX11_count) (maxL := 1) (ret := (some .int)) (by decide) rfl ?_
  intro p e s m args below meth c s₁ B hml hv
  obtain ⟨rfl, rfl, hP, hK, hD0, hB⟩ := hv
  have hx := B.exec
  have hb := B.bytes
  have hr := B.returns
  have hts : ∀ w ∈ wU, w.before _ s = true := fun w h => atoms_spec (ws := w_X11_count) B.pre w (List.mem_cons_of_mem _ h)
  have hown : s.vm.findClass RX11 = some m.cls := findClass_of_methodNamed B.named
  have hlocks := B.notSynchronized
  have hD := hD0.self (sz := s.heap.size)
  generalize hAe : va_A (wModel g q0 q1 q2 q3 q4 q5 q6 q7 q8 q9 q10 q11 q12 mm masd msav misS mpst mchg merr mfai mthr minp minM mUp mcar mcam mahd magn mltr mbeg mcmd mcmM mpl msz mwr mlin mliM) s.heap.size = A at hD hB ⊢
  have hA : ∀ q : Nat, s.heap.size ≤ q → A q := fun q h => by rw [← hAe]; exact Or.inr h
  have hS : va_S A s.heap s.heap [] := va_S.rf
  have hl := lv_entry ([.ref q0]) (n := 1) (Nat.le_of_ble_eq_true rfl)
  rw [lg_entry_eq]
  generalize (lg_sl ([.ref q0]) ++ List.replicate (1 - (lg_sl ([.ref q0])).length) Slot.unset).toArray = ls at hl ⊢
  have hl : lv_has ls 1 [(0, .ref q0)] := hl
  unfold F_X11_count at hF
  refine lv_aload_n hx hb dX11_count_0 rfl (lv_at hl 0 rfl) ?_
  refine lv_iconst (v := 0) hx hb dX11_count_1 (by decide) ?_
  refine va_put (D := gD g) (ci := 7) (v := .int 0) (ty := .int) (C := RX11) (T := TX11) (N := 25) hx hb hts inX11 tyX11 tyX11_ok nmX11 hown hK hP hD hS 0 rfl rfl 8 (by decide) (hts _ mU_1252) (fun _ h9 => h9) rfl (by decide +kernel) rfl rfl (Nat.le_of_ble_eq_true rfl) dX11_count_2 (fun H locs hP hD hS => ?_)
  have hP : va_P (gD g) zCl (wModel g q0 q1 q2 q3 q4 q5 q6 q7 q8 q9 q10 q11 q12 mm masd msav misS mpst mchg merr mfai 0 minp minM mUp mcar mcam mahd magn mltr mbeg mcmd mcmM mpl msz mwr mlin mliM) H := hP
  have hD : va_D A (wModel g q0 q1 q2 q3 q4 q5 q6 q7 q8 q9 q10 q11 q12 mm masd msav misS mpst mchg merr mfai 0 minp minM mUp mcar mcam mahd magn mltr mbeg mcmd mcmM mpl msz mwr mlin mliM) := hD
  refine lv_aload_n hx hb dX11_count_5 rfl (lv_at hl 0 rfl) ?_
  obtain ⟨zo1, hzo1, hF⟩ := z_bind hF
  refine z_calliE (fun (_ : Unit) => (wModel g q0 q1 q2 q3 q4 q5 q6 q7 q8 q9 q10 q11 q12 mm masd msav misS mpst mchg merr mfai 0 minp minM mUp mcar mcam mahd magn mltr mbeg mcmd mcmM mpl msz mwr mlin mliM)) (va_runV (As := []) (rest := []) ⟨hx, hb, hml, hown, hts⟩ (c_X11_many l g q0 q1 q2 q3 q4 q5 q6 q7 q8 q9 q10 q11 q12 mm masd msav misS mpst mchg merr mfai 0 minp minM mUp mcar mcam mahd magn mltr mbeg mcmd mcmM mpl msz mwr mlin mliM _ _ hzo1) (cwV 0 hts (gdV mU_1356 mU_1358 mU_32 mU_75 mU_1359) rfl rfl rfl (by decide +kernel) ⟨Nat.le_of_ble_eq_true rfl, Nat.le_of_ble_eq_true rfl⟩) ⟨z_blind _ _ _ _, va_recv hK hP (ci := 7) (q0 := 0) rfl rfl, fun U hU hW => z_preE hP hD hK hB hS hA hU hW⟩ rfl rfl hl.1 rfl (lv_room (Nat.le_of_ble_eq_true rfl)) dX11_count_6 ⟨Nat.le_of_ble_eq_true rfl, Nat.le_of_ble_eq_true rfl⟩) hD hS hA (fun _ => rfl) (fun r u H locs hw hP hD hS => ?_)
  subst hw
  have hP : va_P (gD g) zCl (wModel g q0 q1 q2 q3 q4 q5 q6 q7 q8 q9 q10 q11 q12 mm masd msav misS mpst mchg merr mfai 0 minp minM mUp mcar mcam mahd magn mltr mbeg mcmd mcmM mpl msz mwr mlin mliM) H := hP
  have hD : va_D A (wModel g q0 q1 q2 q3 q4 q5 q6 q7 q8 q9 q10 q11 q12 mm masd msav misS mpst mchg merr mfai 0 minp minM mUp mcar mcam mahd magn mltr mbeg mcmd mcmM mpl msz mwr mlin mliM) := hD
  have ho := (Option.some.inj hF).symm
  exact W.iret (v := zo1) hx hb hr (fun t ht hW => ⟨⟨zo1, 0, rfl, ⟨by rw [ho], by rw [ho]⟩, z_end ht hP⟩, hS.F ht⟩) hS.2.2 dX11_count_9
abbrev w_X11_numberAt : List Cond := .code yX11_numberAt cX11_numberAt 2 (some .int) :: wU
abbrev r_X11_numberAt : Room := { frames := 1, cells := 0, slots := 0, locals := 25 }
abbrev q_X11_numberAt (g : GG) (q0 q1 q2 q3 q4 q5 q6 q7 q8 q9 q10 q11 q12 : Nat) (mm : Nat → Int64) (masd : Nat → Int64) (msav : Nat → Int64) (misS : Int32) (mpst : Nat → Int64) (mchg : Int32) (merr : Int32) (mfai : Int32) (mthr : Int32) (minp : Nat → Int32) (minM : Int32) (mUp : Nat → Int32) (mcar : Nat → Int32) (mcam : Nat → Int32) (mahd : Int32) (magn : Int32) (mltr : Nat → Int32) (mbeg : Nat → Int32) (mcmd : Nat → Int32) (mcmM : Int32) (mpl : Int32) (msz : Int32) (mwr : Int32) (mlin : Nat → Int32) (mliM : Int32) (o : Int32 × Int32) (A : Nat → Prop) := va_Qi (fun (r : Int32) (u : Int32) => o.1 = r ∧ o.2 = u) (fun u t => va_P (gD g) zCl (wModel g q0 q1 q2 q3 q4 q5 q6 q7 q8 q9 q10 q11 q12 mm masd msav misS mpst mchg merr mfai u minp minM mUp mcar mcam mahd magn mltr mbeg mcmd mcmM mpl msz mwr mlin mliM) t.heap) A
set_option maxHeartbeats 4000000 in
set_option maxRecDepth 100000 in
theorem c_X11_numberAt (l : Launch) (g : GG) (q0 q1 q2 q3 q4 q5 q6 q7 q8 q9 q10 q11 q12 : Nat) (mm : Nat → Int64) (masd : Nat → Int64) (msav : Nat → Int64) (misS : Int32) (mpst : Nat → Int64) (mchg : Int32) (merr : Int32) (mfai : Int32) (mthr : Int32) (minp : Nat → Int32) (minM : Int32) (mUp : Nat → Int32) (mcar : Nat → Int32) (mcam : Nat → Int32) (mahd : Int32) (magn : Int32) (mltr : Nat → Int32) (mbeg : Nat → Int32) (mcmd : Nat → Int32) (mcmM : Int32) (mpl : Int32) (msz : Int32) (mwr : Int32) (mlin : Nat → Int32) (mliM : Int32) (sz : Nat) (p1 : Int32) (o : Int32 × Int32) (hF : F_X11_numberAt mm mthr p1 = some o) : Met l yX11_numberAt w_X11_numberAt r_X11_numberAt (va_Pc [.ref q0, .int p1] (zP g (wModel g q0 q1 q2 q3 q4 q5 q6 q7 q8 q9 q10 q11 q12 mm masd msav misS mpst mchg merr mfai mthr minp minM mUp mcar mcam mahd magn mltr mbeg mcmd mcmM mpl msz mwr mlin mliM) sz)) (q_X11_numberAt g q0 q1 q2 q3 q4 q5 q6 q7 q8 q9 q10 q11 q12 mm masd msav misS mpst mchg merr mfai mthr minp minM mUp mcar mcam mahd magn mltr mbeg mcmd mcmM mpl msz mwr mlin mliM o (va_A (wModel g q0 q1 q2 q3 q4 q5 q6 q7 q8 q9 q10 q11 q12 mm masd msav misS mpst mchg merr mfai mthr minp minM mUp mcar mcam mahd magn mltr mbeg mcmd mcmM mpl msz mwr mlin mliM) sz)) 0 0 (va_A (wModel g q0 q1 q2 q3 q4 q5 q6 q7 q8 q9 q10 q11 q12 mm masd msav misS mpst mchg merr mfai mthr minp minM mUp mcar mcam mahd magn mltr mbeg mcmd mcmM mpl msz mwr mlin mliM) sz) := by
  refine Met.ofW (cc := cX11_numberAt) (maxL := 2) (ret := (some .int)) (by decide) rfl ?_
  intro p e s m args below meth c s₁ B hml hv
  obtain ⟨rfl, rfl, hP, hK, hD0, hB⟩ := hv
  have hx := B.exec
  have hb := B.bytes
  have hr := B.returns
  have hts : ∀ w ∈ wU, w.before _ s = true := fun w h => atoms_spec (ws := w_X11_numberAt) B.pre w (List.mem_cons_of_mem _ h)
  have hown : s.vm.findClass RX11 = some m.cls := findClass_of_methodNamed B.named
  have hlocks := B.notSynchronized
  have hD := hD0.self (sz := s.heap.size)
  generalize hAe : va_A (wModel g q0 q1 q2 q3 q4 q5 q6 q7 q8 q9 q10 q11 q12 mm masd msav misS mpst mchg merr mfai mthr minp minM mUp mcar mcam mahd magn mltr mbeg mcmd mcmM mpl msz mwr mlin mliM) s.heap.size = A at hD hB ⊢
  have hA : ∀ q : Nat, s.heap.size ≤ q → A q := fun q h => by rw [← hAe]; exact Or.inr h
  have hS : va_S A s.heap s.heap [] := va_S.rf
  have hl := lv_entry ([.ref q0, .int p1]) (n := 2) (Nat.le_of_ble_eq_true rfl)
  rw [lg_entry_eq]
  generalize (lg_sl ([.ref q0, .int p1]) ++ List.replicate (2 - (lg_sl ([.ref q0, .int p1])).length) Slot.unset).toArray = ls at hl ⊢
  have hl : lv_has ls 2 [(0, .ref q0), (1, .int p1)] := hl
  unfold F_X11_numberAt at hF
  refine lv_aload_n hx hb dX11_numberAt_0 rfl (lv_at hl 0 rfl) ?_
  refine lv_iconst (v := 0) hx hb dX11_numberAt_1 (by decide) ?_
  refine va_put (D := gD g) (ci := 7) (v := .int 0) (ty := .int) (C := RX11) (T := TX11) (N := 25) hx hb hts inX11 tyX11 tyX11_ok nmX11 hown hK hP hD hS 0 rfl rfl 8 (by decide) (hts _ mU_1252) (fun _ h9 => h9) rfl (by decide +kernel) rfl rfl (Nat.le_of_ble_eq_true rfl) dX11_numberAt_2 (fun H locs hP hD hS => ?_)
  have hP : va_P (gD g) zCl (wModel g q0 q1 q2 q3 q4 q5 q6 q7 q8 q9 q10 q11 q12 mm masd msav misS mpst mchg merr mfai 0 minp minM mUp mcar mcam mahd magn mltr mbeg mcmd mcmM mpl msz mwr mlin mliM) H := hP
  have hD : va_D A (wModel g q0 q1 q2 q3 q4 q5 q6 q7 q8 q9 q10 q11 q12 mm masd msav misS mpst mchg merr mfai 0 minp minM mUp mcar mcam mahd magn mltr mbeg mcmd mcmM mpl msz mwr mlin mliM) := hD
  refine lv_iload_n hx hb dX11_numberAt_5 rfl (lv_at hl 1 rfl) ?_
  refine lv_i2l (v := (Int32.toInt64 p1)) hx hb dX11_numberAt_6 rfl ?_
  refine lv_lconst (v := 0) hx hb dX11_numberAt_7 (by decide) ?_
  refine lv_aload_n hx hb dX11_numberAt_8 rfl (lv_at hl 0 rfl) ?_
  obtain ⟨zo1, hzo1, hF⟩ := z_bind hF
  refine z_calliE (fun (_ : Unit) => (wModel g q0 q1 q2 q3 q4 q5 q6 q7 q8 q9 q10 q11 q12 mm masd msav misS mpst mchg merr mfai 0 minp minM mUp mcar mcam mahd magn mltr mbeg mcmd mcmM mpl msz mwr mlin mliM)) (va_runV (As := []) (rest := [.long 0, .long (Int32.toInt64 p1)]) ⟨hx, hb, hml, hown, hts⟩ (c_X11_many l g q0 q1 q2 q3 q4 q5 q6 q7 q8 q9 q10 q11 q12 mm masd msav misS mpst mchg merr mfai 0 minp minM mUp mcar mcam mahd magn mltr mbeg mcmd mcmM mpl msz mwr mlin mliM _ _ hzo1) (cwV 0 hts (gdV mU_1356 mU_1358 mU_32 mU_75 mU_1359) rfl rfl rfl (by decide +kernel) ⟨Nat.le_of_ble_eq_true rfl, Nat.le_of_ble_eq_true rfl⟩) ⟨z_blind _ _ _ _, va_recv hK hP (ci := 7) (q0 := 0) rfl rfl, fun U hU hW => z_preE hP hD hK hB hS hA hU hW⟩ rfl rfl hl.1 rfl (lv_room (Nat.le_of_ble_eq_true rfl)) dX11_numberAt_9 ⟨Nat.le_of_ble_eq_true rfl, Nat.le_of_ble_eq_true rfl⟩) hD hS hA (fun _ => rfl) (fun r u H locs hw hP hD hS => ?_)
  subst hw
  have hP : va_P (gD g) zCl (wModel g q0 q1 q2 q3 q4 q5 q6 q7 q8 q9 q10 q11 q12 mm masd msav misS mpst mchg merr mfai 0 minp minM mUp mcar mcam mahd magn mltr mbeg mcmd mcmM mpl msz mwr mlin mliM) H := hP
  have hD : va_D A (wModel g q0 q1 q2 q3 q4 q5 q6 q7 q8 q9 q10 q11 q12 mm masd msav misS mpst mchg merr mfai 0 minp minM mUp mcar mcam mahd magn mltr mbeg mcmd mcmM mpl msz mwr mlin mliM) := hD
  refine lv_iconst (v := 1) hx hb dX11_numberAt_12 (by decide) ?_
  refine lv_isub hx hb dX11_numberAt_13 ?_
  refine lv_i2l (v := (Int32.toInt64 (zo1 - 1))) hx hb dX11_numberAt_14 rfl ?_
  obtain ⟨zo2, hzo2, hF⟩ := z_bind hF
  refine z_calli (fun (_ : Unit) => []) [] (va_runS (As := [.long (Int32.toInt64 p1), .long 0, .long (Int32.toInt64 (zo1 - 1))]) (rest := []) ⟨hx, hb, hml, hown, hts⟩ (c_X11_in l g _ (Int32.toInt64 p1) 0 (Int32.toInt64 (zo1 - 1)) _ hzo2) (va_cwS 3 hts (gdS mU_1341 mU_1342 mU_75 mU_1343) rfl rfl rfl (by decide +kernel) ⟨Nat.le_of_ble_eq_true rfl, Nat.le_of_ble_eq_true rfl⟩) ⟨z_blind _ _ _ _, fun U hU hW => z_pre [] hP hD hK hB hS hA rfl rfl hU hW⟩ rfl rfl hl.1 rfl (lv_room (Nat.le_of_ble_eq_true rfl)) dX11_numberAt_15 ⟨Nat.le_of_ble_eq_true rfl, Nat.le_of_ble_eq_true rfl⟩) hP hD hS hA rfl (fun _ => rfl) (fun r u H locs hw hP hD hS => ?_)
  subst hw
  have hP : va_P (gD g) zCl (wModel g q0 q1 q2 q3 q4 q5 q6 q7 q8 q9 q10 q11 q12 mm masd msav misS mpst mchg merr mfai 0 minp minM mUp mcar mcam mahd magn mltr mbeg mcmd mcmM mpl msz mwr mlin mliM) H := hP
  have hD : va_D A (wModel g q0 q1 q2 q3 q4 q5 q6 q7 q8 q9 q10 q11 q12 mm masd msav misS mpst mchg merr mfai 0 minp minM mUp mcar mcam mahd magn mltr mbeg mcmd mcmM mpl msz mwr mlin mliM) := hD
  refine lv_if_eq (tgt := 34) hx hb dX11_numberAt_18 (by decide) (fun zc3 => ?_) (fun zc3 => ?_)
  · have hF := z_pos hF zc3
    refine lv_aload_n hx hb dX11_numberAt_34 rfl (lv_at hl 0 rfl) ?_
    refine lv_iconst (v := 1) hx hb dX11_numberAt_35 (by decide) ?_
    obtain ⟨zo4, hzo4, hF⟩ := z_bind hF
    refine z_calliE (fun (u : Int32) => (wModel g q0 q1 q2 q3 q4 q5 q6 q7 q8 q9 q10 q11 q12 mm masd msav misS mpst mchg merr mfai u minp minM mUp mcar mcam mahd magn mltr mbeg mcmd mcmM mpl msz mwr mlin mliM)) (va_runV (As := [.int 1]) (rest := []) ⟨hx, hb, hml, hown, hts⟩ (c_X11_throwing l g q0 q1 q2 q3 q4 q5 q6 q7 q8 q9 q10 q11 q12 mm masd msav misS mpst mchg merr mfai 0 minp minM mUp mcar mcam mahd magn mltr mbeg mcmd mcmM mpl msz mwr mlin mliM _ 1 _ hzo4) (cwV 1 hts (gdV mU_1352 mU_1354 mU_31 mU_75 mU_1355) rfl rfl rfl (by decide +kernel) ⟨Nat.le_of_ble_eq_true rfl, Nat.le_of_ble_eq_true rfl⟩) ⟨z_blind _ _ _ _, va_recv hK hP (ci := 7) (q0 := 0) rfl rfl, fun U hU hW => z_preE hP hD hK hB hS hA hU hW⟩ rfl rfl hl.1 rfl (lv_room (Nat.le_of_ble_eq_true rfl)) dX11_numberAt_36 ⟨Nat.le_of_ble_eq_true rfl, Nat.le_of_ble_eq_true rfl⟩) hD hS hA (fun _ => rfl) (fun r u H locs hw hP hD hS => ?_)
    obtain ⟨rfl, rfl⟩ := hw
    have hP : va_P (gD g) zCl (wModel g q0 q1 q2 q3 q4 q5 q6 q7 q8 q9 q10 q11 q12 mm masd msav misS mpst mchg merr mfai zo4.2 minp minM mUp mcar mcam mahd magn mltr mbeg mcmd mcmM mpl msz mwr mlin mliM) H := hP
    have hD : va_D A (wModel g q0 q1 q2 q3 q4 q5 q6 q7 q8 q9 q10 q11 q12 mm masd msav misS mpst mchg merr mfai zo4.2 minp minM mUp mcar mcam mahd magn mltr mbeg mcmd mcmM mpl msz mwr mlin mliM) := hD
    have ho := (Option.some.inj hF).symm
    exact W.iret (v := zo4.1) hx hb hr (fun t ht hW => ⟨⟨zo4.1, zo4.2, rfl, ⟨by rw [ho], by rw [ho]⟩, z_end ht hP⟩, hS.F ht⟩) hS.2.2 dX11_numberAt_39
  · have hF := z_neg hF zc3
    refine lv_aload_n hx hb dX11_numberAt_21 rfl (lv_at hl 0 rfl) ?_
    refine va_get (D := gD g) (ci := 7) (v := .ref q1) (C := RX11) (T := TX11) (N := 25) hx hb hts inX11 hown hK hP 0 rfl rfl 0 (by decide) (hts _ mU_1244) (fun _ h9 => h9) rfl dX11_numberAt_22 ?_
    refine lv_iload_n hx hb dX11_numberAt_25 rfl (lv_at hl 1 rfl) ?_
    obtain ⟨zo5, hzo5, hF⟩ := z_bind hF
    refine z_calli (fun (_ : Unit) => []) [] (va_runS (As := [.int p1]) (rest := [.ref q1]) ⟨hx, hb, hml, hown, hts⟩ (c_X11_at l g _ p1 _ hzo5) (va_cwS 1 hts (gdS mU_1372 mU_1373 mU_75 mU_1374) rfl rfl rfl (by decide +kernel) ⟨Nat.le_of_ble_eq_true rfl, Nat.le_of_ble_eq_true rfl⟩) ⟨z_blind _ _ _ _, fun U hU hW => z_pre [] hP hD hK hB hS hA rfl rfl hU hW⟩ rfl rfl hl.1 rfl (lv_room (Nat.le_of_ble_eq_true rfl)) dX11_numberAt_26 ⟨Nat.le_of_ble_eq_true rfl, Nat.le_of_ble_eq_true rfl⟩) hP hD hS hA rfl (fun _ => rfl) (fun r u H locs hw hP hD hS => ?_)
    subst hw
    have hP : va_P (gD g) zCl (wModel g q0 q1 q2 q3 q4 q5 q6 q7 q8 q9 q10 q11 q12 mm masd msav misS mpst mchg merr mfai 0 minp minM mUp mcar mcam mahd magn mltr mbeg mcmd mcmM mpl msz mwr mlin mliM) H := hP
    have hD : va_D A (wModel g q0 q1 q2 q3 q4 q5 q6 q7 q8 q9 q10 q11 q12 mm masd msav misS mpst mchg merr mfai 0 minp minM mUp mcar mcam mahd magn mltr mbeg mcmd mcmM mpl msz mwr mlin mliM) := hD
    obtain ⟨zg6, hF⟩ := z_grd hF
    refine va_lald hx hb hK hP 1 2 rfl rfl zg6 dX11_numberAt_29 ?_
    refine lv_l2i (v := (Int64.toInt32 (mm (Int32.toNatClampNeg zo5)))) hx hb dX11_numberAt_30 rfl ?_
    refine lv_goto (tgt := 39) hx hb dX11_numberAt_31 (by decide) ?_
    have ho := (Option.some.inj hF).symm
    exact W.iret (v := (Int64.toInt32 (mm (Int32.toNatClampNeg zo5)))) hx hb hr (fun t ht hW => ⟨⟨(Int64.toInt32 (mm (Int32.toNatClampNeg zo5))), 0, rfl, ⟨by rw [ho], by rw [ho]⟩, z_end ht hP⟩, hS.F ht⟩) hS.2.2 dX11_numberAt_39
