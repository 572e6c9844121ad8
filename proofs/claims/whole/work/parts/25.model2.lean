abbrev w_X11_ofNumber : List Cond := .code yX11_ofNumber cX11_ofNumber 3 (some .long) :: wU
abbrev r_X11_ofNumber : Room := { frames := 2, cells := 0, slots := 0, locals := 42 }
abbrev q_X11_ofNumber (g : GG) (q0 q1 q2 q3 q4 q5 q6 q7 q8 q9 q10 q11 q12 : Nat) (mm : Nat → Int64) (masd : Nat → Int64) (msav : Nat → Int64) (misS : Int32) (mpst : Nat → Int64) (mchg : Int32) (merr : Int32) (mfai : Int32) (mthr : Int32) (minp : Nat → Int32) (minM : Int32) (mUp : Nat → Int32) (mcar : Nat → Int32) (mcam : Nat → Int32) (mahd : Int32) (magn : Int32) (mltr : Nat → Int32) (mbeg : Nat → Int32) (mcmd : Nat → Int32) (mcmM : Int32) (mpl : Int32) (msz : Int32) (mwr : Int32) (mlin : Nat → Int32) (mliM : Int32) (o : Int64 × Int32) (A : Nat → Prop) := va_Ql (fun (r : Int64) (u : Int32) => o.1 = r ∧ o.2 = u) (fun u t => va_P (gD g) zCl (wModel g q0 q1 q2 q3 q4 q5 q6 q7 q8 q9 q10 q11 q12 mm masd msav misS mpst mchg merr mfai u minp minM mUp mcar mcam mahd magn mltr mbeg mcmd mcmM mpl msz mwr mlin mliM) t.heap) A
set_option maxHeartbeats 4000000 in
set_option maxRecDepth 100000 in
theorem c_X11_ofNumber (l : Launch) (g : GG) (q0 q1 q2 q3 q4 q5 q6 q7 q8 q9 q10 q11 q12 : Nat) (mm : Nat → Int64) (masd : Nat → Int64) (msav : Nat → Int64) (misS : Int32) (mpst : Nat → Int64) (mchg : Int32) (merr : Int32) (mfai : Int32) (mthr : Int32) (minp : Nat → Int32) (minM : Int32) (mUp : Nat → Int32) (mcar : Nat → Int32) (mcam : Nat → Int32) (mahd : Int32) (magn : Int32) (mltr : Nat → Int32) (mbeg : Nat → Int32) (mcmd : Nat → Int32) (mcmM : Int32) (mpl : Int32) (msz : Int32) (mwr : Int32) (mlin : Nat → Int32) (mliM : Int32) (sz : Nat) (p1 : Int32) (p2 : Int32) (fu : Nat) (o : Int64 × Int32) (hF : F_X11_ofNumber fu mm mthr p1 p2 = some o) : Met l yX11_ofNumber w_X11_ofNumber r_X11_ofNumber (va_Pc [.ref q0, .int p1, .int p2] (zP g (wModel g q0 q1 q2 q3 q4 q5 q6 q7 q8 q9 q10 q11 q12 mm masd msav misS mpst mchg merr mfai mthr minp minM mUp mcar mcam mahd magn mltr mbeg mcmd mcmM mpl msz mwr mlin mliM) sz)) (q_X11_ofNumber g q0 q1 q2 q3 q4 q5 q6 q7 q8 q9 q10 q11 q12 mm masd msav misS mpst mchg merr mfai mthr minp minM mUp mcar mcam mahd magn mltr mbeg mcmd mcmM mpl msz mwr mlin mliM o (va_A (wModel g q0 q1 q2 q3 q4 q5 q6 q7 q8 q9 q10 q11 q12 mm masd msav misS mpst mchg merr mfai mthr minp minM mUp mcar mcam mahd magn mltr mbeg mcmd mcmM mpl msz mwr mlin mliM) sz)) 0 0 (va_A (wModel g q0 q1 q2 q3 q4 q5 q6 q7 q8 q9 q10 q11 q12 mm masd msav misS mpst mchg merr mfai mthr minp minM mUp mcar mcam mahd magn mltr mbeg mcmd mcmM mpl msz mwr mlin mliM) sz) := by
  refine Met.ofW (cc := cX11_ofNumber) (maxL := 3) (ret := (some .long)) (by decide) rfl ?_
  intro p e s m args below meth c s₁ B hml hv
  obtain ⟨rfl, rfl, hP, hK, hD0, hB⟩ := hv
  have hx := B.exec
  have hb := B.bytes
  have hr := B.returns
  have hts : ∀ w ∈ wU, w.before _ s = true := fun w h => atoms_spec (ws := w_X11_ofNumber) B.pre w (List.mem_cons_of_mem _ h)
  have hown : s.vm.findClass RX11 = some m.cls := findClass_of_methodNamed B.named
  have hlocks := B.notSynchronized
  have hD := hD0.self (sz := s.heap.size)
  generalize hAe : va_A (wModel g q0 q1 q2 q3 q4 q5 q6 q7 q8 q9 q10 q11 q12 mm masd msav misS mpst mchg merr mfai mthr minp minM mUp mcar mcam mahd magn mltr mbeg mcmd mcmM mpl msz mwr mlin mliM) s.heap.size = A at hD hB ⊢
  have hA : ∀ q : Nat, s.heap.size ≤ q → A q := fun q h => by rw [← hAe]; exact Or.inr h
  have hS : va_S A s.heap s.heap [] := va_S.rf
  have hl := lv_entry ([.ref q0, .int p1, .int p2]) (n := 3) (Nat.le_of_ble_eq_true rfl)
  rw [lg_entry_eq]
  generalize (lg_sl ([.ref q0, .int p1, .int p2]) ++ List.replicate (3 - (lg_sl ([.ref q0, .int p1, .int p2])).length) Slot.unset).toArray = ls at hl ⊢
  have hl : lv_has ls 3 [(0, .ref q0), (1, .int p1), (2, .int p2)] := hl
  unfold F_X11_ofNumber at hF
  refine lv_aload_n hx hb dX11_ofNumber_0 rfl (lv_at hl 0 rfl) ?_
  refine lv_iconst (v := 0) hx hb dX11_ofNumber_1 (by decide) ?_
  refine va_put (D := gD g) (ci := 7) (v := .int 0) (ty := .int) (C := RX11) (T := TX11) (N := 25) hx hb hts inX11 tyX11 tyX11_ok nmX11 hown hK hP hD hS 0 rfl rfl 8 (by decide) (hts _ mU_1252) (fun _ h9 => h9) rfl (by decide +kernel) rfl rfl (Nat.le_of_ble_eq_true rfl) dX11_ofNumber_2 (fun H locs hP hD hS => ?_)
  have hP : va_P (gD g) zCl (wModel g q0 q1 q2 q3 q4 q5 q6 q7 q8 q9 q10 q11 q12 mm masd msav misS mpst mchg merr mfai 0 minp minM mUp mcar mcam mahd magn mltr mbeg mcmd mcmM mpl msz mwr mlin mliM) H := hP
  have hD : va_D A (wModel g q0 q1 q2 q3 q4 q5 q6 q7 q8 q9 q10 q11 q12 mm masd msav misS mpst mchg merr mfai 0 minp minM mUp mcar mcam mahd magn mltr mbeg mcmd mcmM mpl msz mwr mlin mliM) := hD
  refine lv_aload_n hx hb dX11_ofNumber_5 rfl (lv_at hl 0 rfl) ?_
  refine lv_iload_n hx hb dX11_ofNumber_6 rfl (lv_at hl 1 rfl) ?_
  obtain ⟨zo1, hzo1, hF⟩ := z_bind hF
  refine z_calliE (fun (_ : Unit) => (wModel g q0 q1 q2 q3 q4 q5 q6 q7 q8 q9 q10 q11 q12 mm masd msav misS mpst mchg merr mfai 0 minp minM mUp mcar mcam mahd magn mltr mbeg mcmd mcmM mpl msz mwr mlin mliM)) (va_runV (As := [.int p1]) (rest := []) ⟨hx, hb, hml, hown, hts⟩ (c_X11_find l g q0 q1 q2 q3 q4 q5 q6 q7 q8 q9 q10 q11 q12 mm masd msav misS mpst mchg merr mfai 0 minp minM mUp mcar mcam mahd magn mltr mbeg mcmd mcmM mpl msz mwr mlin mliM _ p1 fu _ hzo1) (cwV 1 hts (gdV mU_1400 mU_1402 mU_37 mU_75 mU_1403) rfl rfl rfl (by decide +kernel) ⟨Nat.le_of_ble_eq_true rfl, Nat.le_of_ble_eq_true rfl⟩) ⟨z_blind _ _ _ _, va_recv hK hP (ci := 7) (q0 := 0) rfl rfl, fun U hU hW => z_preE hP hD hK hB hS hA hU hW⟩ rfl rfl hl.1 rfl (lv_room (Nat.le_of_ble_eq_true rfl)) dX11_ofNumber_7 ⟨Nat.le_of_ble_eq_true rfl, Nat.le_of_ble_eq_true rfl⟩) hD hS hA (fun _ => rfl) (fun r u H locs hw hP hD hS => ?_)
  subst hw
  have hP : va_P (gD g) zCl (wModel g q0 q1 q2 q3 q4 q5 q6 q7 q8 q9 q10 q11 q12 mm masd msav misS mpst mchg merr mfai 0 minp minM mUp mcar mcam mahd magn mltr mbeg mcmd mcmM mpl msz mwr mlin mliM) H := hP
  have hD : va_D A (wModel g q0 q1 q2 q3 q4 q5 q6 q7 q8 q9 q10 q11 q12 mm masd msav misS mpst mchg merr mfai 0 minp minM mUp mcar mcam mahd magn mltr mbeg mcmd mcmM mpl msz mwr mlin mliM) := hD
  refine lv_iconst (v := (-1)) hx hb dX11_ofNumber_10 (by decide) ?_
  refine lv_icmp_ne (tgt := 23) hx hb dX11_ofNumber_11 (by decide) (fun zc2 => ?_) (fun zc2 => ?_)
  · have hF := z_neg hF zc2
    refine lv_aload_n hx hb dX11_ofNumber_23 rfl (lv_at hl 0 rfl) ?_
    refine va_get (D := gD g) (ci := 7) (v := .ref q1) (C := RX11) (T := TX11) (N := 25) hx hb hts inX11 hown hK hP 0 rfl rfl 0 (by decide) (hts _ mU_1244) (fun _ h9 => h9) rfl dX11_ofNumber_24 ?_
    refine lv_aload_n hx hb dX11_ofNumber_27 rfl (lv_at hl 0 rfl) ?_
    refine lv_iload_n hx hb dX11_ofNumber_28 rfl (lv_at hl 1 rfl) ?_
    obtain ⟨zo3, hzo3, hF⟩ := z_bind hF
    refine z_calliE (fun (_ : Unit) => (wModel g q0 q1 q2 q3 q4 q5 q6 q7 q8 q9 q10 q11 q12 mm masd msav misS mpst mchg merr mfai 0 minp minM mUp mcar mcam mahd magn mltr mbeg mcmd mcmM mpl msz mwr mlin mliM)) (va_runV (As := [.int p1]) (rest := [.ref q1]) ⟨hx, hb, hml, hown, hts⟩ (c_X11_find l g q0 q1 q2 q3 q4 q5 q6 q7 q8 q9 q10 q11 q12 mm masd msav misS mpst mchg merr mfai 0 minp minM mUp mcar mcam mahd magn mltr mbeg mcmd mcmM mpl msz mwr mlin mliM _ p1 fu _ hzo3) (cwV 1 hts (gdV mU_1400 mU_1402 mU_37 mU_75 mU_1403) rfl rfl rfl (by decide +kernel) ⟨Nat.le_of_ble_eq_true rfl, Nat.le_of_ble_eq_true rfl⟩) ⟨z_blind _ _ _ _, va_recv hK hP (ci := 7) (q0 := 0) rfl rfl, fun U hU hW => z_preE hP hD hK hB hS hA hU hW⟩ rfl rfl hl.1 rfl (lv_room (Nat.le_of_ble_eq_true rfl)) dX11_ofNumber_29 ⟨Nat.le_of_ble_eq_true rfl, Nat.le_of_ble_eq_true rfl⟩) hD hS hA (fun _ => rfl) (fun r u H locs hw hP hD hS => ?_)
    subst hw
    have hP : va_P (gD g) zCl (wModel g q0 q1 q2 q3 q4 q5 q6 q7 q8 q9 q10 q11 q12 mm masd msav misS mpst mchg merr mfai 0 minp minM mUp mcar mcam mahd magn mltr mbeg mcmd mcmM mpl msz mwr mlin mliM) H := hP
    have hD : va_D A (wModel g q0 q1 q2 q3 q4 q5 q6 q7 q8 q9 q10 q11 q12 mm masd msav misS mpst mchg merr mfai 0 minp minM mUp mcar mcam mahd magn mltr mbeg mcmd mcmM mpl msz mwr mlin mliM) := hD
    obtain ⟨zo4, hzo4, hF⟩ := z_bind hF
    refine z_calli (fun (_ : Unit) => []) [] (va_runS (As := [.int zo3]) (rest := [.ref q1]) ⟨hx, hb, hml, hown, hts⟩ (c_X11_at l g _ zo3 _ hzo4) (va_cwS 1 hts (gdS mU_1372 mU_1373 mU_75 mU_1374) rfl rfl rfl (by decide +kernel) ⟨Nat.le_of_ble_eq_true rfl, Nat.le_of_ble_eq_true rfl⟩) ⟨z_blind _ _ _ _, fun U hU hW => z_pre [] hP hD hK hB hS hA rfl rfl hU hW⟩ rfl rfl hl.1 rfl (lv_room (Nat.le_of_ble_eq_true rfl)) dX11_ofNumber_32 ⟨Nat.le_of_ble_eq_true rfl, Nat.le_of_ble_eq_true rfl⟩) hP hD hS hA rfl (fun _ => rfl) (fun r u H locs hw hP hD hS => ?_)
    subst hw
    have hP : va_P (gD g) zCl (wModel g q0 q1 q2 q3 q4 q5 q6 q7 q8 q9 q10 q11 q12 mm masd msav misS mpst mchg merr mfai 0 minp minM mUp mcar mcam mahd magn mltr mbeg mcmd mcmM mpl msz mwr mlin mliM) H := hP
    have hD : va_D A (wModel g q0 q1 q2 q3 q4 q5 q6 q7 q8 q9 q10 q11 q12 mm masd msav misS mpst mchg merr mfai 0 minp minM mUp mcar mcam mahd magn mltr mbeg mcmd mcmM mpl msz mwr mlin mliM) := hD
    refine lv_iload_n hx hb dX11_ofNumber_35 rfl (lv_at hl 2 rfl) ?_
    refine lv_iadd hx hb dX11_ofNumber_36 ?_
    obtain ⟨zg5, hF⟩ := z_grd hF
    refine va_lald hx hb hK hP 1 2 rfl rfl zg5 dX11_ofNumber_37 ?_
    have ho := (Option.some.inj hF).symm
    exact W.lret (v := (mm (Int32.toNatClampNeg (zo4 + p2)))) hx hb hr (fun t ht hW => ⟨⟨(mm (Int32.toNatClampNeg (zo4 + p2))), 0, rfl, ⟨by rw [ho], by rw [ho]⟩, z_end ht hP⟩, hS.F ht⟩) hS.2.2 dX11_ofNumber_38
  · have hF := z_pos hF zc2
    refine lv_aload_n hx hb dX11_ofNumber_14 rfl (lv_at hl 0 rfl) ?_
    refine lv_iconst (v := 1) hx hb dX11_ofNumber_15 (by decide) ?_
    obtain ⟨zo6, hzo6, hF⟩ := z_bind hF
    refine z_calliE (fun (u : Int32) => (wModel g q0 q1 q2 q3 q4 q5 q6 q7 q8 q9 q10 q11 q12 mm masd msav misS mpst mchg merr mfai u minp minM mUp mcar mcam mahd magn mltr mbeg mcmd mcmM mpl msz mwr mlin mliM)) (va_runV (As := [.int 1]) (rest := []) ⟨hx, hb, hml, hown, hts⟩ (c_X11_throwing l g q0 q1 q2 q3 q4 q5 q6 q7 q8 q9 q10 q11 q12 mm masd msav misS mpst mchg merr mfai 0 minp minM mUp mcar mcam mahd magn mltr mbeg mcmd mcmM mpl msz mwr mlin mliM _ 1 _ hzo6) (cwV 1 hts (gdV mU_1352 mU_1354 mU_31 mU_75 mU_1355) rfl rfl rfl (by decide +kernel) ⟨Nat.le_of_ble_eq_true rfl, Nat.le_of_ble_eq_true rfl⟩) ⟨z_blind _ _ _ _, va_recv hK hP (ci := 7) (q0 := 0) rfl rfl, fun U hU hW => z_preE hP hD hK hB hS hA hU hW⟩ rfl rfl hl.1 rfl (lv_room (Nat.le_of_ble_eq_true rfl)) dX11_ofNumber_16 ⟨Nat.le_of_ble_eq_true rfl, Nat.le_of_ble_eq_true rfl⟩) hD hS hA (fun _ => rfl) (fun r u H locs hw hP hD hS => ?_)
    obtain ⟨rfl, rfl⟩ := hw
    have hP : va_P (gD g) zCl (wModel g q0 q1 q2 q3 q4 q5 q6 q7 q8 q9 q10 q11 q12 mm masd msav misS mpst mchg merr mfai zo6.2 minp minM mUp mcar mcam mahd magn mltr mbeg mcmd mcmM mpl msz mwr mlin mliM) H := hP
    have hD : va_D A (wModel g q0 q1 q2 q3 q4 q5 q6 q7 q8 q9 q10 q11 q12 mm masd msav misS mpst mchg merr mfai zo6.2 minp minM mUp mcar mcam mahd magn mltr mbeg mcmd mcmM mpl msz mwr mlin mliM) := hD
    refine lv_i2l (v := (Int32.toInt64 zo6.1)) hx hb dX11_ofNumber_19 rfl ?_
    refine lv_goto (tgt := 38) hx hb dX11_ofNumber_20 (by decide) ?_
    have ho := (Option.some.inj hF).symm
    exact W.lret (v := (Int32.toInt64 zo6.1)) hx hb hr (fun t ht hW => ⟨⟨(Int32.toInt64 zo6.1), zo6.2, rfl, ⟨by rw [ho], by rw [ho]⟩, z_end ht hP⟩, hS.F ht⟩) hS.2.2 dX11_ofNumber_38
abbrev w_X11_value : List Cond := .code yX11_value cX11_value 2 (some .long) :: wU
abbrev r_X11_value : Room := { frames := 3, cells := 0, slots := 0, locals := 64 }
abbrev q_X11_value (g : GG) (q0 q1 q2 q3 q4 q5 q6 q7 q8 q9 q10 q11 q12 : Nat) (mm : Nat → Int64) (masd : Nat → Int64) (msav : Nat → Int64) (misS : Int32) (mpst : Nat → Int64) (mchg : Int32) (merr : Int32) (mfai : Int32) (mthr : Int32) (minp : Nat → Int32) (minM : Int32) (mUp : Nat → Int32) (mcar : Nat → Int32) (mcam : Nat → Int32) (mahd : Int32) (magn : Int32) (mltr : Nat → Int32) (mbeg : Nat → Int32) (mcmd : Nat → Int32) (mcmM : Int32) (mpl : Int32) (msz : Int32) (mwr : Int32) (mlin : Nat → Int32) (mliM : Int32) (o : Int64 × Int32) (A : Nat → Prop) := va_Ql (fun (r : Int64) (u : Int32) => o.1 = r ∧ o.2 = u) (fun u t => va_P (gD g) zCl (wModel g q0 q1 q2 q3 q4 q5 q6 q7 q8 q9 q10 q11 q12 mm masd msav misS mpst mchg merr mfai u minp minM mUp mcar mcam mahd magn mltr mbeg mcmd mcmM mpl msz mwr mlin mliM) t.heap) A
set_option maxHeartbeats 4000000 in
set_option maxRecDepth 100000 in
theorem c_X11_value (l : Launch) (g : GG) (q0 q1 q2 q3 q4 q5 q6 q7 q8 q9 q10 q11 q12 : Nat) (mm : Nat → Int64) (masd : Nat → Int64) (msav : Nat → Int64) (misS : Int32) (mpst : Nat → Int64) (mchg : Int32) (merr : Int32) (mfai : Int32) (mthr : Int32) (minp : Nat → Int32) (minM : Int32) (mUp : Nat → Int32) (mcar : Nat → Int32) (mcam : Nat → Int32) (mahd : Int32) (magn : Int32) (mltr : Nat → Int32) (mbeg : Nat → Int32) (mcmd : Nat → Int32) (mcmM : Int32) (mpl : Int32) (msz : Int32) (mwr : Int32) (mlin : Nat → Int32) (mliM : Int32) (sz : Nat) (p1 : Int32) (fu : Nat) (o : Int64 × Int32) (hF : F_X11_value fu mm mthr p1 = some o) : Met l yX11_value w_X11_value r_X11_value (va_Pc [.ref q0, .int p1] (zP g (wModel g q0 q1 q2 q3 q4 q5 q6 q7 q8 q9 q10 q11 q12 mm masd msav misS mpst mchg merr mfai mthr minp minM mUp mcar mcam mahd magn mltr mbeg mcmd mcmM mpl msz mwr mlin mliM) sz)) (q_X11_value g q0 q1 q2 q3 q4 q5 q6 q7 q8 q9 q10 q11 q12 mm masd msav misS mpst mchg merr mfai mthr minp minM mUp mcar mcam mahd magn mltr mbeg mcmd mcmM mpl msz mwr mlin mliM o (va_A (wModel g q0 q1 q2 q3 q4 q5 q6 q7 q8 q9 q10 q11 q12 mm masd msav misS mpst mchg merr mfai mthr minp minM mUp mcar mcam mahd magn mltr mbeg mcmd mcmM mpl msz mwr mlin mliM) sz)) 0 0 (va_A (wModel g q0 q1 q2 q3 q4 q5 q6 q7 q8 q9 q10 q11 q12 mm masd msav misS mpst mchg merr mfai mthr minp minM mUp mcar mcam mahd magn mltr mbeg mcmd mcmM mpl msz mwr mlin mliM) sz) := by
  refine Met.ofW (cc := cX11_value) (maxL := 2) (ret := (some .long)) (by decide) rfl ?_
  intro p e s m args below meth c s₁ B hml hv
  obtain ⟨rfl, rfl, hP, hK, hD0, hB⟩ := hv
  have hx := B.exec
  have hb := B.bytes
  have hr := B.returns
  have hts : ∀ w ∈ wU, w.before _ s = true := fun w h => atoms_spec (ws := w_X11_value) B.pre w (List.mem_cons_of_mem _ h)
  have hown : s.vm.findClass RX11 = some m.cls := findClass_of_methodNamed B.named
  have hlocks := B.notSynchronized
  have hD := hD0.self (sz := s.heap.size)
  generalize hAe : va_A (wModel g q0 q1 q2 q3 q4 q5 q6 q7 q8 q9 q10 q11 q12 mm masd msav misS mpst mchg merr mfai mthr minp minM mUp mcar mcam mahd magn mltr mbeg mcmd mcmM mpl msz mwr mlin mliM) s.heap.size = A at hD hB ⊢
  have hA : ∀ q : Nat, s.heap.size ≤ q → A q := fun q h => by rw [← hAe]; exact Or.inr h
  have hS : va_S A s.heap s.heap [] := va_S.rf
  have hl := lv_entry ([.ref q0, .int p1]) (n := 2) (Nat.le_of_ble_eq_true rfl)
  rw [lg_entry_eq]
  generalize (lg_sl ([.ref q0, .int p1]) ++ List.replicate (2 - (lg_sl ([.ref q0, .int p1])).length) Slot.unset).toArray = ls at hl ⊢
  have hl : lv_has ls 2 [(0, .ref q0), (1, .int p1)] := hl
  unfold F_X11_value at hF
  refine lv_aload_n hx hb dX11_value_0 rfl (lv_at hl 0 rfl) ?_
  refine lv_iload_n hx hb dX11_value_1 rfl (lv_at hl 1 rfl) ?_
  refine lv_iconst (v := 1) hx hb dX11_value_2 (by decide) ?_
  obtain ⟨zo1, hzo1, hF⟩ := z_bind hF
  refine z_calllE (fun (u : Int32) => (wModel g q0 q1 q2 q3 q4 q5 q6 q7 q8 q9 q10 q11 q12 mm masd msav misS mpst mchg merr mfai u minp minM mUp mcar mcam mahd magn mltr mbeg mcmd mcmM mpl msz mwr mlin mliM)) (va_runV (As := [.int p1, .int 1]) (rest := []) ⟨hx, hb, hml, hown, hts⟩ (c_X11_ofNumber l g q0 q1 q2 q3 q4 q5 q6 q7 q8 q9 q10 q11 q12 mm masd msav misS mpst mchg merr mfai mthr minp minM mUp mcar mcam mahd magn mltr mbeg mcmd mcmM mpl msz mwr mlin mliM _ p1 1 fu _ hzo1) (cwV 2 hts (gdV mU_1477 mU_1479 mU_47 mU_75 mU_1480) rfl rfl rfl (by decide +kernel) ⟨Nat.le_of_ble_eq_true rfl, Nat.le_of_ble_eq_true rfl⟩) ⟨z_blind _ _ _ _, va_recv hK hP (ci := 7) (q0 := 0) rfl rfl, fun U hU hW => z_preE hP hD hK hB hS hA hU hW⟩ rfl rfl hl.1 rfl (lv_room (Nat.le_of_ble_eq_true rfl)) dX11_value_3 ⟨Nat.le_of_ble_eq_true rfl, Nat.le_of_ble_eq_true rfl⟩) hD hS hA (fun _ => rfl) (fun r u H locs hw hP hD hS => ?_)
  obtain ⟨rfl, rfl⟩ := hw
  have hP : va_P (gD g) zCl (wModel g q0 q1 q2 q3 q4 q5 q6 q7 q8 q9 q10 q11 q12 mm masd msav misS mpst mchg merr mfai zo1.2 minp minM mUp mcar mcam mahd magn mltr mbeg mcmd mcmM mpl msz mwr mlin mliM) H := hP
  have hD : va_D A (wModel g q0 q1 q2 q3 q4 q5 q6 q7 q8 q9 q10 q11 q12 mm masd msav misS mpst mchg merr mfai zo1.2 minp minM mUp mcar mcam mahd magn mltr mbeg mcmd mcmM mpl msz mwr mlin mliM) := hD
  have ho := (Option.some.inj hF).symm
  exact W.lret (v := zo1.1) hx hb hr (fun t ht hW => ⟨⟨zo1.1, zo1.2, rfl, ⟨by rw [ho], by rw [ho]⟩, z_end ht hP⟩, hS.F ht⟩) hS.2.2 dX11_value_6
abbrev w_X11_scale : List Cond := .code yX11_scale cX11_scale 2 (some .int) :: wU
abbrev r_X11_scale : Room := { frames := 3, cells := 0, slots := 0, locals := 64 }
abbrev q_X11_scale (g : GG) (q0 q1 q2 q3 q4 q5 q6 q7 q8 q9 q10 q11 q12 : Nat) (mm : Nat → Int64) (masd : Nat → Int64) (msav : Nat → Int64) (misS : Int32) (mpst : Nat → Int64) (mchg : Int32) (merr : Int32) (mfai : Int32) (mthr : Int32) (minp : Nat → Int32) (minM : Int32) (mUp : Nat → Int32) (mcar : Nat → Int32) (mcam : Nat → Int32) (mahd : Int32) (magn : Int32) (mltr : Nat → Int32) (mbeg : Nat → Int32) (mcmd : Nat → Int32) (mcmM : Int32) (mpl : Int32) (msz : Int32) (mwr : Int32) (mlin : Nat → Int32) (mliM : Int32) (o : Int32 × Int32) (A : Nat → Prop) := va_Qi (fun (r : Int32) (u : Int32) => o.1 = r ∧ o.2 = u) (fun u t => va_P (gD g) zCl (wModel g q0 q1 q2 q3 q4 q5 q6 q7 q8 q9 q10 q11 q12 mm masd msav misS mpst mchg merr mfai u minp minM mUp mcar mcam mahd magn mltr mbeg mcmd mcmM mpl msz mwr mlin mliM) t.heap) A
set_option maxHeartbeats 4000000 in
set_option maxRecDepth 100000 in
theorem c_X11_scale (l : Launch) (g : GG) (q0 q1 q2 q3 q4 q5 q6 q7 q8 q9 q10 q11 q12 : Nat) (mm : Nat → Int64) (masd : Nat → Int64) (msav : Nat → Int64) (misS : Int32) (mpst : Nat → Int64) (mchg : Int32) (merr : Int32) (mfai : Int32) (mthr : Int32) (minp : Nat → Int32) (minM : Int32) (mUp : Nat → Int32) (mcar : Nat → Int32) (mcam : Nat → Int32) (mahd : Int32) (magn : Int32) (mltr : Nat → Int32) (mbeg : Nat → Int32) (mcmd : Nat → Int32) (mcmM : Int32) (mpl : Int32) (msz : Int32) (mwr : Int32) (mlin : Nat → Int32) (mliM : Int32) (sz : Nat) (p1 : Int32) (fu : Nat) (o : Int32 × Int32) (hF : F_X11_scale fu mm mthr p1 = some o) : Met l yX11_scale w_X11_scale r_X11_scale (va_Pc [.ref q0, .int p1] (zP g (wModel g q0 q1 q2 q3 q4 q5 q6 q7 q8 q9 q10 q11 q12 mm masd msav misS mpst mchg merr mfai mthr minp minM mUp mcar mcam mahd magn mltr mbeg mcmd mcmM mpl msz mwr mlin mliM) sz)) (q_X11_scale g q0 q1 q2 q3 q4 q5 q6 q7 q8 q9 q10 q11 q12 mm masd msav misS mpst mchg merr mfai mthr minp minM mUp mcar mcam mahd magn mltr mbeg mcmd mcmM mpl msz mwr mlin mliM o (va_A (wModel g q0 q1 q2 q3 q4 q5 q6 q7 q8 q9 q10 q11 q12 mm masd msav misS mpst mchg merr mfai mthr minp minM mUp mcar mcam mahd magn mltr mbeg mcmd mcmM mpl msz mwr mlin mliM) sz)) 0 0 (va_A (wModel g q0 q1 q2 q3 q4 q5 q6 q7 q8 q9 q10 q11 q12 mm masd msav misS mpst mchg merr mfai mthr minp minM mUp mcar mcam mahd magn mltr mbeg mcmd mcmM mpl msz mwr mlin mliM) sz) := by
  refine Met.ofW (cc := cX11_scale) (maxL := 2) (ret := (some .int)) (by decide) rfl ?_
  intro p e s m args below meth c s₁ B hml hv
  obtain ⟨rfl, rfl, hP, hK, hD0, hB⟩ := hv
  have hx := B.exec
  have hb := B.bytes
  have hr := B.returns
  have hts : ∀ w ∈ wU, w.before _ s = true := fun w h => atoms_spec (ws := w_X11_scale) B.pre w (List.mem_cons_of_mem _ h)
  have hown : s.vm.findClass RX11 = some m.cls := findClass_of_methodNamed B.named
  have hlocks := B.notSynchronized
  have hD := hD0.self (sz := s.heap.size)
  generalize hAe : va_A (wModel g q0 q1 q2 q3 q4 q5 q6 q7 q8 q9 q10 q11 q12 mm masd msav misS mpst mchg merr mfai mthr minp minM mUp mcar mcam mahd magn mltr mbeg mcmd mcmM mpl msz mwr mlin mliM) s.heap.size = A at hD hB ⊢
  have hA : ∀ q : Nat, s.heap.size ≤ q → A q := fun q h => by rw [← hAe]; exact Or.inr h
  have hS : va_S A s.heap s.heap [] := va_S.rf
  have hl := lv_entry ([.ref q0, .int p1]) (n := 2) (Nat.le_of_ble_eq_true rfl)
  rw [lg_entry_eq]
  generalize (lg_sl ([.ref q0, .int p1]) ++ List.replicate (2 - (lg_sl ([.ref q0, .int p1])).length) Slot.unset).toArray = ls at hl ⊢
  have hl : lv_has ls 2 [(0, .ref q0), (1, .int p1)] := hl
  unfold F_X11_scale at hF
  refine lv_aload_n hx hb dX11_scale_0 rfl (lv_at hl 0 rfl) ?_
  refine lv_iload_n hx hb dX11_scale_1 rfl (lv_at hl 1 rfl) ?_
  refine lv_iconst (v := 2) hx hb dX11_scale_2 (by decide) ?_
  obtain ⟨zo1, hzo1, hF⟩ := z_bind hF
  refine z_calllE (fun (u : Int32) => (wModel g q0 q1 q2 q3 q4 q5 q6 q7 q8 q9 q10 q11 q12 mm masd msav misS mpst mchg merr mfai u minp minM mUp mcar mcam mahd magn mltr mbeg mcmd mcmM mpl msz mwr mlin mliM)) (va_runV (As := [.int p1, .int 2]) (rest := []) ⟨hx, hb, hml, hown, hts⟩ (c_X11_ofNumber l g q0 q1 q2 q3 q4 q5 q6 q7 q8 q9 q10 q11 q12 mm masd msav misS mpst mchg merr mfai mthr minp minM mUp mcar mcam mahd magn mltr mbeg mcmd mcmM mpl msz mwr mlin mliM _ p1 2 fu _ hzo1) (cwV 2 hts (gdV mU_1477 mU_1479 mU_47 mU_75 mU_1480) rfl rfl rfl (by decide +kernel) ⟨Nat.le_of_ble_eq_true rfl, Nat.le_of_ble_eq_true rfl⟩) ⟨z_blind _ _ _ _, va_recv hK hP (ci := 7) (q0 := 0) rfl rfl, fun U hU hW => z_preE hP hD hK hB hS hA hU hW⟩ rfl rfl hl.1 rfl (lv_room (Nat.le_of_ble_eq_true rfl)) dX11_scale_3 ⟨Nat.le_of_ble_eq_true rfl, Nat.le_of_ble_eq_true rfl⟩) hD hS hA (fun _ => rfl) (fun r u H locs hw hP hD hS => ?_)
  obtain ⟨rfl, rfl⟩ := hw
  have hP : va_P (gD g) zCl (wModel g q0 q1 q2 q3 q4 q5 q6 q7 q8 q9 q10 q11 q12 mm masd msav misS mpst mchg merr mfai zo1.2 minp minM mUp mcar mcam mahd magn mltr mbeg mcmd mcmM mpl msz mwr mlin mliM) H := hP
  have hD : va_D A (wModel g q0 q1 q2 q3 q4 q5 q6 q7 q8 q9 q10 q11 q12 mm masd msav misS mpst mchg merr mfai zo1.2 minp minM mUp mcar mcam mahd magn mltr mbeg mcmd mcmM mpl msz mwr mlin mliM) := hD
  refine lv_l2i (v := (Int64.toInt32 zo1.1)) hx hb dX11_scale_6 rfl ?_
  have ho := (Option.some.inj hF).symm
  exact W.iret (v := (Int64.toInt32 zo1.1)) hx hb hr (fun t ht hW => ⟨⟨(Int64.toInt32 zo1.1), zo1.2, rfl, ⟨by rw [ho], by rw [ho]⟩, z_end ht hP⟩, hS.F ht⟩) hS.2.2 dX11_scale_7
abbrev w_X11_mode : List Cond := .code yX11_mode cX11_mode 2 (some .char) :: wU
abbrev r_X11_mode : Room := { frames := 3, cells := 0, slots := 0, locals := 64 }
abbrev q_X11_mode (g : GG) (q0 q1 q2 q3 q4 q5 q6 q7 q8 q9 q10 q11 q12 : Nat) (mm : Nat → Int64) (masd : Nat → Int64) (msav : Nat → Int64) (misS : Int32) (mpst : Nat → Int64) (mchg : Int32) (merr : Int32) (mfai : Int32) (mthr : Int32) (minp : Nat → Int32) (minM : Int32) (mUp : Nat → Int32) (mcar : Nat → Int32) (mcam : Nat → Int32) (mahd : Int32) (magn : Int32) (mltr : Nat → Int32) (mbeg : Nat → Int32) (mcmd : Nat → Int32) (mcmM : Int32) (mpl : Int32) (msz : Int32) (mwr : Int32) (mlin : Nat → Int32) (mliM : Int32) (o : Int32 × Int32) (A : Nat → Prop) := va_Qi (fun (r : Int32) (u : Int32) => o.1 = r ∧ o.2 = u) (fun u t => va_P (gD g) zCl (wModel g q0 q1 q2 q3 q4 q5 q6 q7 q8 q9 q10 q11 q12 mm masd msav misS mpst mchg merr mfai u minp minM mUp mcar mcam mahd magn mltr mbeg mcmd mcmM mpl msz mwr mlin mliM) t.heap) A
set_option maxHeartbeats 4000000 in
set_option maxRecDepth 100000 in
theorem c_X11_mode (l : Launch) (g : GG) (q0 q1 q2 q3 q4 q5 q6 q7 q8 q9 q10 q11 q12 : Nat) (mm : Nat → Int64) (masd : Nat → Int64) (msav : Nat → Int64) (misS : Int32) (mpst : Nat → Int64) (mchg : Int32) (merr : Int32) (mfai : Int32) (mthr : Int32) (minp : Nat → Int32) (minM : Int32) (mUp : Nat → Int32) (mcar : Nat → Int32) (mcam : Nat → Int32) (mahd : Int32) (magn : Int32) (mltr : Nat → Int32) (mbeg : Nat → Int32) (mcmd : Nat → Int32) (mcmM : Int32) (mpl : Int32) (msz : Int32) (mwr : Int32) (mlin : Nat → Int32) (mliM : Int32) (sz : Nat) (p1 : Int32) (fu : Nat) (o : Int32 × Int32) (hF : F_X11_mode fu mm mthr p1 = some o) : Met l yX11_mode w_X11_mode r_X11_mode (va_Pc [.ref q0, .int p1] (zP g (wModel g q0 q1 q2 q3 q4 q5 q6 q7 q8 q9 q10 q11 q12 mm masd msav misS mpst mchg merr mfai mthr minp minM mUp mcar mcam mahd magn mltr mbeg mcmd mcmM mpl msz mwr mlin mliM) sz)) (q_X11_mode g q0 q1 q2 q3 q4 q5 q6 q7 q8 q9 q10 q11 q12 mm masd msav misS mpst mchg merr mfai mthr minp minM mUp mcar mcam mahd magn mltr mbeg mcmd mcmM mpl msz mwr mlin mliM o (va_A (wModel g q0 q1 q2 q3 q4 q5 q6 q7 q8 q9 q10 q11 q12 mm masd msav misS mpst mchg merr mfai mthr minp minM mUp mcar mcam mahd magn mltr mbeg mcmd mcmM mpl msz mwr mlin mliM) sz)) 0 0 (va_A (wModel g q0 q1 q2 q3 q4 q5 q6 q7 q8 q9 q10 q11 q12 mm masd msav misS mpst mchg merr mfai mthr minp minM mUp mcar mcam mahd magn mltr mbeg mcmd mcmM mpl msz mwr mlin mliM) sz) := by
  refine Met.ofW (cc := cX11_mode) (maxL := 2) (ret := (some .char)) (by decide) rfl ?_
  intro p e s m args below meth c s₁ B hml hv
  obtain ⟨rfl, rfl, hP, hK, hD0, hB⟩ := hv
  have hx := B.exec
  have hb := B.bytes
  have hr := B.returns
  have hts : ∀ w ∈ wU, w.before _ s = true := fun w h => atoms_spec (ws := w_X11_mode) B.pre w (List.mem_cons_of_mem _ h)
  have hown : s.vm.findClass RX11 = some m.cls := findClass_of_methodNamed B.named
  have hlocks := B.notSynchronized
  have hD := hD0.self (sz := s.heap.size)
  generalize hAe : va_A (wModel g q0 q1 q2 q3 q4 q5 q6 q7 q8 q9 q10 q11 q12 mm masd msav misS mpst mchg merr mfai mthr minp minM mUp mcar mcam mahd magn mltr mbeg mcmd mcmM mpl msz mwr mlin mliM) s.heap.size = A at hD hB ⊢
  have hA : ∀ q : Nat, s.heap.size ≤ q → A q := fun q h => by rw [← hAe]; exact Or.inr h
  have hS : va_S A s.heap s.heap [] := va_S.rf
  have hl := lv_entry ([.ref q0, .int p1]) (n := 2) (Nat.le_of_ble_eq_true rfl)
  rw [lg_entry_eq]
  generalize (lg_sl ([.ref q0, .int p1]) ++ List.replicate (2 - (lg_sl ([.ref q0, .int p1])).length) Slot.unset).toArray = ls at hl ⊢
  have hl : lv_has ls 2 [(0, .ref q0), (1, .int p1)] := hl
  unfold F_X11_mode at hF
  refine lv_aload_n hx hb dX11_mode_0 rfl (lv_at hl 0 rfl) ?_
  refine lv_iload_n hx hb dX11_mode_1 rfl (lv_at hl 1 rfl) ?_
  refine lv_iconst (v := 3) hx hb dX11_mode_2 (by decide) ?_
  obtain ⟨zo1, hzo1, hF⟩ := z_bind hF
  refine z_calllE (fun (u : Int32) => (wModel g q0 q1 q2 q3 q4 q5 q6 q7 q8 q9 q10 q11 q12 mm masd msav misS mpst mchg merr mfai u minp minM mUp mcar mcam mahd magn mltr mbeg mcmd mcmM mpl msz mwr mlin mliM)) (va_runV (As := [.int p1, .int 3]) (rest := []) ⟨hx, hb, hml, hown, hts⟩ (c_X11_ofNumber l g q0 q1 q2 q3 q4 q5 q6 q7 q8 q9 q10 q11 q12 mm masd msav misS mpst mchg merr mfai mthr minp minM mUp mcar mcam mahd magn mltr mbeg mcmd mcmM mpl msz mwr mlin mliM _ p1 3 fu _ hzo1) (cwV 2 hts (gdV mU_1477 mU_1479 mU_47 mU_75 mU_1480) rfl rfl rfl (by decide +kernel) ⟨Nat.le_of_ble_eq_true rfl, Nat.le_of_ble_eq_true rfl⟩) ⟨z_blind _ _ _ _, va_recv hK hP (ci := 7) (q0 := 0) rfl rfl, fun U hU hW => z_preE hP hD hK hB hS hA hU hW⟩ rfl rfl hl.1 rfl (lv_room (Nat.le_of_ble_eq_true rfl)) dX11_mode_3 ⟨Nat.le_of_ble_eq_true rfl, Nat.le_of_ble_eq_true rfl⟩) hD hS hA (fun _ => rfl) (fun r u H locs hw hP hD hS => ?_)
  obtain ⟨rfl, rfl⟩ := hw
  have hP : va_P (gD g) zCl (wModel g q0 q1 q2 q3 q4 q5 q6 q7 q8 q9 q10 q11 q12 mm masd msav misS mpst mchg merr mfai zo1.2 minp minM mUp mcar mcam mahd magn mltr mbeg mcmd mcmM mpl msz mwr mlin mliM) H := hP
  have hD : va_D A (wModel g q0 q1 q2 q3 q4 q5 q6 q7 q8 q9 q10 q11 q12 mm masd msav misS mpst mchg merr mfai zo1.2 minp minM mUp mcar mcam mahd magn mltr mbeg mcmd mcmM mpl msz mwr mlin mliM) := hD
  refine lv_l2i (v := (Int64.toInt32 zo1.1)) hx hb dX11_mode_6 rfl ?_
  refine lv_i2c (v := (zchar (Int64.toInt32 zo1.1))) hx hb dX11_mode_7 rfl ?_
  obtain ⟨zg2, hF⟩ := z_grd hF
  have ho := (Option.some.inj hF).symm
  exact W.zret (v := (zchar (Int64.toInt32 zo1.1))) hx hb hr (z_narc (Classical.not_not.mp zg2)).1 (fun t ht hW => ⟨⟨(zchar (Int64.toInt32 zo1.1)), zo1.2, rfl, ⟨by rw [ho], by rw [ho]⟩, z_end ht hP⟩, hS.F ht⟩) hS.2.2 dX11_mode_8
abbrev w_X11_digitAt : List Cond := .code yX11_digitAt cX11_digitAt 6 (some .int) :: wU
abbrev r_X11_digitAt : Room := { frames := 0, cells := 0, slots := 0, locals := 0 }
abbrev q_X11_digitAt (g : GG) (o : Int32) (A : Nat → Prop) := va_Qi (fun (r : Int32) (u : Unit) => o = r) (fun u t => va_P (gD g) zCl [] t.heap) A
set_option maxHeartbeats 4000000 in
set_option maxRecDepth 100000 in
theorem c_X11_digitAt (l : Launch) (g : GG) (sz : Nat) (p0 : Int64) (p2 : Int32) (fu : Nat) (o : Int32) (hF : F_X11_digitAt fu p0 p2 = some o) : Met l yX11_digitAt w_X11_digitAt r_X11_digitAt (va_Pc [.long p0, .int p2] (zP g [] sz)) (q_X11_digitAt g o (va_A [] sz)) 0 0 (va_A [] sz) := by
  refine Met.ofW (cc := cX11_digitAt) (maxL := 6) (ret := (some .int)) (by decide) rfl ?_
  intro p e s m args below meth c s₁ B hml hv
  obtain ⟨rfl, rfl, hP, hK, hD0, hB⟩ := hv
  have hx := B.exec
  have hb := B.bytes
  have hr := B.returns
  have hts : ∀ w ∈ wU, w.before _ s = true := fun w h => atoms_spec (ws := w_X11_digitAt) B.pre w (List.mem_cons_of_mem _ h)
  have hown : s.vm.findClass RX11 = some m.cls := findClass_of_methodNamed B.named
  have hlocks := B.notSynchronized
  have hD := hD0.self (sz := s.heap.size)
  generalize hAe : va_A [] s.heap.size = A at hD hB ⊢
  have hA : ∀ q : Nat, s.heap.size ≤ q → A q := fun q h => by rw [← hAe]; exact Or.inr h
  have hS : va_S A s.heap s.heap [] := va_S.rf
  have hl := lv_entry ([.long p0, .int p2]) (n := 6) (Nat.le_of_ble_eq_true rfl)
  rw [lg_entry_eq]
  generalize (lg_sl ([.long p0, .int p2]) ++ List.replicate (6 - (lg_sl ([.long p0, .int p2])).length) Slot.unset).toArray = ls at hl ⊢
  have hl : lv_has ls 6 [(0, .long p0), (2, .int p2)] := hl
  unfold F_X11_digitAt at hF
  have K6 : ∀ (n6 : Nat) (x3 : Int64) (x5 : Int32), F_X11_digitAt_6 fu n6 p2 x3 x5 = some o → ∀ (H : Heap) (locs : List Loc) (ls : Array Slot), lv_has ls 6 [(2, .int p2), (3, .long x3), (5, .int x5)] → va_P (gD g) zCl [] H → va_D A [] → va_S A s.heap H locs → W p l e (headSpec w_X11_digitAt r_X11_digitAt).room s m ([.long p0, .int p2] : List Value).toArray below meth c H locs 0 0 (MQ below (q_X11_digitAt g o A) ([.long p0, .int p2] : List Value).toArray s 0 0 A) (F0 m 6 ls []) := by
    intro n6
    induction n6 with
    | zero =>
      intro x3 x5 hF
      exact absurd hF (by simp [F_X11_digitAt_6])
    | succ n6 ih6 =>
      intro x3 x5 hF H locs ls hl hP hD hS
      unfold F_X11_digitAt_6 at hF
      refine lv_iload hx hb dX11_digitAt_6 (lv_at hl 2 rfl) ?_
      refine lv_iload_n hx hb dX11_digitAt_8 rfl (lv_at hl 0 rfl) ?_
      refine lv_icmp_ge (tgt := 24) hx hb dX11_digitAt_9 (by decide) (fun zc1 => ?_) (fun zc1 => ?_)
      · have hF := z_pos hF zc1
        refine lv_lload_n hx hb dX11_digitAt_24 rfl (lv_at hl 1 rfl) ?_
        refine lv_ldc2 (v := 10) hx hb hown (hts _ mU_1367) dX11_digitAt_25 ?_
        refine lv_lrem hx hb dX11_digitAt_28 (by decide) ?_
        refine lv_l2i (v := (Int64.toInt32 (x3 - x3 / 10 * 10))) hx hb dX11_digitAt_29 rfl ?_
        have ho := (Option.some.inj hF).symm
        exact W.iret (v := (Int64.toInt32 (x3 - x3 / 10 * 10))) hx hb hr (fun t ht hW => ⟨⟨(Int64.toInt32 (x3 - x3 / 10 * 10)), (), rfl, ho, z_end ht hP⟩, hS.F ht⟩) hS.2.2 dX11_digitAt_30
      · have hF := z_neg hF zc1
        refine lv_lload_n hx hb dX11_digitAt_12 rfl (lv_at hl 1 rfl) ?_
        refine lv_ldc2 (v := 10) hx hb hown (hts _ mU_1367) dX11_digitAt_13 ?_
        refine lv_ldiv hx hb dX11_digitAt_16 (by decide) ?_
        obtain ⟨zv2, ezv2, hF⟩ := z_let hF
        refine z_topl ezv2 ?_
        refine lv_lstore_n (lv' := [(3, .long zv2), (2, .int p2), (5, .int x5)]) hx hb dX11_digitAt_17 rfl hl (by decide) rfl (fun ls hl => ?_)
        obtain ⟨zv3, ezv3, hF⟩ := z_let hF
        refine lv_iinc (v := zv3) (lv' := [(5, .int zv3), (3, .long zv2), (2, .int p2)]) hx hb dX11_digitAt_18 hl (k := 2) rfl (by rw [ezv3]; rfl) (by decide) rfl (fun ls hl => ?_)
        refine lv_goto (tgt := 6) hx hb dX11_digitAt_21 (by decide) ?_
        exact ih6 zv2 zv3 hF _ _ _ (lv_sub hl [2, 1, 0] rfl) hP hD hS
  refine lv_lload_n hx hb dX11_digitAt_0 rfl (lv_at hl 0 rfl) ?_
  refine lv_lstore_n (lv' := [(3, .long p0), (0, .long p0), (2, .int p2)]) hx hb dX11_digitAt_1 rfl hl (by decide) rfl (fun ls hl => ?_)
  refine lv_bipush (v := (-4)) hx hb dX11_digitAt_2 (by decide) ?_
  refine lv_istore (lv' := [(5, .int (-4)), (3, .long p0), (0, .long p0), (2, .int p2)]) hx hb dX11_digitAt_4 hl (by decide) rfl (fun ls hl => ?_)
  exact K6 fu p0 (-4) hF _ _ _ (lv_sub hl [3, 1, 0] rfl) hP hD hS
abbrev w_X11_digit : List Cond := .code yX11_digit cX11_digit 5 (some .int) :: wU
abbrev r_X11_digit : Room := { frames := 3, cells := 0, slots := 0, locals := 64 }
abbrev q_X11_digit (g : GG) (q0 q1 q2 q3 q4 q5 q6 q7 q8 q9 q10 q11 q12 : Nat) (mm : Nat → Int64) (masd : Nat → Int64) (msav : Nat → Int64) (misS : Int32) (mpst : Nat → Int64) (mchg : Int32) (merr : Int32) (mfai : Int32) (mthr : Int32) (minp : Nat → Int32) (minM : Int32) (mUp : Nat → Int32) (mcar : Nat → Int32) (mcam : Nat → Int32) (mahd : Int32) (magn : Int32) (mltr : Nat → Int32) (mbeg : Nat → Int32) (mcmd : Nat → Int32) (mcmM : Int32) (mpl : Int32) (msz : Int32) (mwr : Int32) (mlin : Nat → Int32) (mliM : Int32) (o : Int32 × Int32) (A : Nat → Prop) := va_Qi (fun (r : Int32) (u : Int32) => o.1 = r ∧ o.2 = u) (fun u t => va_P (gD g) zCl (wModel g q0 q1 q2 q3 q4 q5 q6 q7 q8 q9 q10 q11 q12 mm masd msav misS mpst mchg merr mfai u minp minM mUp mcar mcam mahd magn mltr mbeg mcmd mcmM mpl msz mwr mlin mliM) t.heap) A
set_option maxHeartbeats 4000000 in
set_option maxRecDepth 100000 in
theorem c_X11_digit (l : Launch) (g : GG) (q0 q1 q2 q3 q4 q5 q6 q7 q8 q9 q10 q11 q12 : Nat) (mm : Nat → Int64) (masd : Nat → Int64) (msav : Nat → Int64) (misS : Int32) (mpst : Nat → Int64) (mchg : Int32) (merr : Int32) (mfai : Int32) (mthr : Int32) (minp : Nat → Int32) (minM : Int32) (mUp : Nat → Int32) (mcar : Nat → Int32) (mcam : Nat → Int32) (mahd : Int32) (magn : Int32) (mltr : Nat → Int32) (mbeg : Nat → Int32) (mcmd : Nat → Int32) (mcmM : Int32) (mpl : Int32) (msz : Int32) (mwr : Int32) (mlin : Nat → Int32) (mliM : Int32) (sz : Nat) (p1 : Int32) (p2 : Int32) (fu : Nat) (o : Int32 × Int32) (hF : F_X11_digit fu mm mthr p1 p2 = some o) : Met l yX11_digit w_X11_digit r_X11_digit (va_Pc [.ref q0, .int p1, .int p2] (zP g (wModel g q0 q1 q2 q3 q4 q5 q6 q7 q8 q9 q10 q11 q12 mm masd msav misS mpst mchg merr mfai mthr minp minM mUp mcar mcam mahd magn mltr mbeg mcmd mcmM mpl msz mwr mlin mliM) sz)) (q_X11_digit g q0 q1 q2 q3 q4 q5 q6 q7 q8 q9 q10 q11 q12 mm masd msav misS mpst mchg merr mfai mthr minp minM mUp mcar mcam mahd magn mltr mbeg mcmd mcmM mpl msz mwr mlin mliM o (va_A (wModel g q0 q1 q2 q3 q4 q5 q6 q7 q8 q9 q10 q11 q12 mm masd msav misS mpst mchg merr mfai mthr minp minM mUp mcar mcam mahd magn mltr mbeg mcmd mcmM mpl msz mwr mlin mliM) sz)) 0 0 (va_A (wModel g q0 q1 q2 q3 q4 q5 q6 q7 q8 q9 q10 q11 q12 mm masd msav misS mpst mchg merr mfai mthr minp minM mUp mcar mcam mahd magn mltr mbeg mcmd mcmM mpl msz mwr mlin mliM) sz) := by
  refine Met.ofW (cc := cX11_digit) (maxL := 5) (ret := (some .int)) (by decide) rfl ?_
  intro p e s m args below meth c s₁ B hml hv
  obtain ⟨rfl, rfl, hP, hK, hD0, hB⟩ := hv
  have hx := B.exec
  have hb := B.bytes
  have hr := B.returns
  have hts : ∀ w ∈ wU, w.before _ s = true := fun w h => atoms_spec (ws := w_X11_digit) B.pre w (List.mem_cons_of_mem _ h)
  have hown : s.vm.findClass RX11 = some m.cls := findClass_of_methodNamed B.named
  have hlocks := B.notSynchronized
  have hD := hD0.self (sz := s.heap.size)
  generalize hAe : va_A (wModel g q0 q1 q2 q3 q4 q5 q6 q7 q8 q9 q10 q11 q12 mm masd msav misS mpst mchg merr mfai mthr minp minM mUp mcar mcam mahd magn mltr mbeg mcmd mcmM mpl msz mwr mlin mliM) s.heap.size = A at hD hB ⊢
  have hA : ∀ q : Nat, s.heap.size ≤ q → A q := fun q h => by rw [← hAe]; exact Or.inr h
  have hS : va_S A s.heap s.heap [] := va_S.rf
  have hl := lv_entry ([.ref q0, .int p1, .int p2]) (n := 5) (Nat.le_of_ble_eq_true rfl)
  rw [lg_entry_eq]
  generalize (lg_sl ([.ref q0, .int p1, .int p2]) ++ List.replicate (5 - (lg_sl ([.ref q0, .int p1, .int p2])).length) Slot.unset).toArray = ls at hl ⊢
  have hl : lv_has ls 5 [(0, .ref q0), (1, .int p1), (2, .int p2)] := hl
  unfold F_X11_digit at hF
  refine lv_aload_n hx hb dX11_digit_0 rfl (lv_at hl 0 rfl) ?_
  refine lv_iload_n hx hb dX11_digit_1 rfl (lv_at hl 1 rfl) ?_
  refine lv_iconst (v := 1) hx hb dX11_digit_2 (by decide) ?_
  obtain ⟨zo1, hzo1, hF⟩ := z_bind hF
  refine z_calllE (fun (u : Int32) => (wModel g q0 q1 q2 q3 q4 q5 q6 q7 q8 q9 q10 q11 q12 mm masd msav misS mpst mchg merr mfai u minp minM mUp mcar mcam mahd magn mltr mbeg mcmd mcmM mpl msz mwr mlin mliM)) (va_runV (As := [.int p1, .int 1]) (rest := []) ⟨hx, hb, hml, hown, hts⟩ (c_X11_ofNumber l g q0 q1 q2 q3 q4 q5 q6 q7 q8 q9 q10 q11 q12 mm masd msav misS mpst mchg merr mfai mthr minp minM mUp mcar mcam mahd magn mltr mbeg mcmd mcmM mpl msz mwr mlin mliM _ p1 1 fu _ hzo1) (cwV 2 hts (gdV mU_1477 mU_1479 mU_47 mU_75 mU_1480) rfl rfl rfl (by decide +kernel) ⟨Nat.le_of_ble_eq_true rfl, Nat.le_of_ble_eq_true rfl⟩) ⟨z_blind _ _ _ _, va_recv hK hP (ci := 7) (q0 := 0) rfl rfl, fun U hU hW => z_preE hP hD hK hB hS hA hU hW⟩ rfl rfl hl.1 rfl (lv_room (Nat.le_of_ble_eq_true rfl)) dX11_digit_3 ⟨Nat.le_of_ble_eq_true rfl, Nat.le_of_ble_eq_true rfl⟩) hD hS hA (fun _ => rfl) (fun r u H locs hw hP hD hS => ?_)
  obtain ⟨rfl, rfl⟩ := hw
  have hP : va_P (gD g) zCl (wModel g q0 q1 q2 q3 q4 q5 q6 q7 q8 q9 q10 q11 q12 mm masd msav misS mpst mchg merr mfai zo1.2 minp minM mUp mcar mcam mahd magn mltr mbeg mcmd mcmM mpl msz mwr mlin mliM) H := hP
  have hD : va_D A (wModel g q0 q1 q2 q3 q4 q5 q6 q7 q8 q9 q10 q11 q12 mm masd msav misS mpst mchg merr mfai zo1.2 minp minM mUp mcar mcam mahd magn mltr mbeg mcmd mcmM mpl msz mwr mlin mliM) := hD
  refine lv_lstore_n (lv' := [(3, .long zo1.1), (0, .ref q0), (1, .int p1), (2, .int p2)]) hx hb dX11_digit_6 rfl hl (by decide) rfl (fun ls hl => ?_)
  refine lv_aload_n hx hb dX11_digit_7 rfl (lv_at hl 1 rfl) ?_
  refine va_get (D := gD g) (ci := 7) (v := .int zo1.2) (C := RX11) (T := TX11) (N := 25) hx hb hts inX11 hown hK hP 0 rfl rfl 8 (by decide) (hts _ mU_1252) (fun _ h9 => h9) rfl dX11_digit_8 ?_
  refine lv_if_le (tgt := 16) hx hb dX11_digit_11 (by decide) (fun zc2 => ?_) (fun zc2 => ?_)
  · have hF := z_pos hF zc2
    refine lv_iload_n hx hb dX11_digit_16 rfl (lv_at hl 3 rfl) ?_
    refine lv_i2l (v := (Int32.toInt64 p2)) hx hb dX11_digit_17 rfl ?_
    refine lv_ldc2 (v := (-4)) hx hb hown (hts _ mU_1493) dX11_digit_18 ?_
    refine lv_ldc2 (v := 5) hx hb hown (hts _ mU_1494) dX11_digit_21 ?_
    obtain ⟨zo3, hzo3, hF⟩ := z_bind hF
    refine z_calli (fun (_ : Unit) => []) [] (va_runS (As := [.long (Int32.toInt64 p2), .long (-4), .long 5]) (rest := []) ⟨hx, hb, hml, hown, hts⟩ (c_X11_in l g _ (Int32.toInt64 p2) (-4) 5 _ hzo3) (va_cwS 3 hts (gdS mU_1341 mU_1342 mU_75 mU_1343) rfl rfl rfl (by decide +kernel) ⟨Nat.le_of_ble_eq_true rfl, Nat.le_of_ble_eq_true rfl⟩) ⟨z_blind _ _ _ _, fun U hU hW => z_pre [] hP hD hK hB hS hA rfl rfl hU hW⟩ rfl rfl hl.1 rfl (lv_room (Nat.le_of_ble_eq_true rfl)) dX11_digit_24 ⟨Nat.le_of_ble_eq_true rfl, Nat.le_of_ble_eq_true rfl⟩) hP hD hS hA rfl (fun _ => rfl) (fun r u H locs hw hP hD hS => ?_)
    subst hw
    have hP : va_P (gD g) zCl (wModel g q0 q1 q2 q3 q4 q5 q6 q7 q8 q9 q10 q11 q12 mm masd msav misS mpst mchg merr mfai zo1.2 minp minM mUp mcar mcam mahd magn mltr mbeg mcmd mcmM mpl msz mwr mlin mliM) H := hP
    have hD : va_D A (wModel g q0 q1 q2 q3 q4 q5 q6 q7 q8 q9 q10 q11 q12 mm masd msav misS mpst mchg merr mfai zo1.2 minp minM mUp mcar mcam mahd magn mltr mbeg mcmd mcmM mpl msz mwr mlin mliM) := hD
    refine lv_if_eq (tgt := 38) hx hb dX11_digit_27 (by decide) (fun zc4 => ?_) (fun zc4 => ?_)
    · have hF := z_pos hF zc4
      refine lv_aload_n hx hb dX11_digit_38 rfl (lv_at hl 1 rfl) ?_
      refine lv_iconst (v := 2) hx hb dX11_digit_39 (by decide) ?_
      obtain ⟨zo5, hzo5, hF⟩ := z_bind hF
      refine z_calliE (fun (u : Int32) => (wModel g q0 q1 q2 q3 q4 q5 q6 q7 q8 q9 q10 q11 q12 mm masd msav misS mpst mchg merr mfai u minp minM mUp mcar mcam mahd magn mltr mbeg mcmd mcmM mpl msz mwr mlin mliM)) (va_runV (As := [.int 2]) (rest := []) ⟨hx, hb, hml, hown, hts⟩ (c_X11_throwing l g q0 q1 q2 q3 q4 q5 q6 q7 q8 q9 q10 q11 q12 mm masd msav misS mpst mchg merr mfai zo1.2 minp minM mUp mcar mcam mahd magn mltr mbeg mcmd mcmM mpl msz mwr mlin mliM _ 2 _ hzo5) (cwV 1 hts (gdV mU_1352 mU_1354 mU_31 mU_75 mU_1355) rfl rfl rfl (by decide +kernel) ⟨Nat.le_of_ble_eq_true rfl, Nat.le_of_ble_eq_true rfl⟩) ⟨z_blind _ _ _ _, va_recv hK hP (ci := 7) (q0 := 0) rfl rfl, fun U hU hW => z_preE hP hD hK hB hS hA hU hW⟩ rfl rfl hl.1 rfl (lv_room (Nat.le_of_ble_eq_true rfl)) dX11_digit_40 ⟨Nat.le_of_ble_eq_true rfl, Nat.le_of_ble_eq_true rfl⟩) hD hS hA (fun _ => rfl) (fun r u H locs hw hP hD hS => ?_)
      obtain ⟨rfl, rfl⟩ := hw
      have hP : va_P (gD g) zCl (wModel g q0 q1 q2 q3 q4 q5 q6 q7 q8 q9 q10 q11 q12 mm masd msav misS mpst mchg merr mfai zo5.2 minp minM mUp mcar mcam mahd magn mltr mbeg mcmd mcmM mpl msz mwr mlin mliM) H := hP
      have hD : va_D A (wModel g q0 q1 q2 q3 q4 q5 q6 q7 q8 q9 q10 q11 q12 mm masd msav misS mpst mchg merr mfai zo5.2 minp minM mUp mcar mcam mahd magn mltr mbeg mcmd mcmM mpl msz mwr mlin mliM) := hD
      have ho := (Option.some.inj hF).symm
      exact W.iret (v := zo5.1) hx hb hr (fun t ht hW => ⟨⟨zo5.1, zo5.2, rfl, ⟨by rw [ho], by rw [ho]⟩, z_end ht hP⟩, hS.F ht⟩) hS.2.2 dX11_digit_43
    · have hF := z_neg hF zc4
      refine lv_lload_n hx hb dX11_digit_30 rfl (lv_at hl 0 rfl) ?_
      refine lv_iload_n hx hb dX11_digit_31 rfl (lv_at hl 3 rfl) ?_
      obtain ⟨zo6, hzo6, hF⟩ := z_bind hF
      refine z_calli (fun (_ : Unit) => []) [] (va_runS (As := [.long zo1.1, .int p2]) (rest := []) ⟨hx, hb, hml, hown, hts⟩ (c_X11_digitAt l g _ zo1.1 p2 fu _ hzo6) (va_cwS 2 hts (gdS mU_1495 mU_1496 mU_75 mU_1497) rfl rfl rfl (by decide +kernel) ⟨Nat.le_of_ble_eq_true rfl, Nat.le_of_ble_eq_true rfl⟩) ⟨z_blind _ _ _ _, fun U hU hW => z_pre [] hP hD hK hB hS hA rfl rfl hU hW⟩ rfl rfl hl.1 rfl (lv_room (Nat.le_of_ble_eq_true rfl)) dX11_digit_32 ⟨Nat.le_of_ble_eq_true rfl, Nat.le_of_ble_eq_true rfl⟩) hP hD hS hA rfl (fun _ => rfl) (fun r u H locs hw hP hD hS => ?_)
      subst hw
      have hP : va_P (gD g) zCl (wModel g q0 q1 q2 q3 q4 q5 q6 q7 q8 q9 q10 q11 q12 mm masd msav misS mpst mchg merr mfai zo1.2 minp minM mUp mcar mcam mahd magn mltr mbeg mcmd mcmM mpl msz mwr mlin mliM) H := hP
      have hD : va_D A (wModel g q0 q1 q2 q3 q4 q5 q6 q7 q8 q9 q10 q11 q12 mm masd msav misS mpst mchg merr mfai zo1.2 minp minM mUp mcar mcam mahd magn mltr mbeg mcmd mcmM mpl msz mwr mlin mliM) := hD
      refine lv_goto (tgt := 43) hx hb dX11_digit_35 (by decide) ?_
      have ho := (Option.some.inj hF).symm
      exact W.iret (v := zo6) hx hb hr (fun t ht hW => ⟨⟨zo6, zo1.2, rfl, ⟨by rw [ho], by rw [ho]⟩, z_end ht hP⟩, hS.F ht⟩) hS.2.2 dX11_digit_43
  · have hF := z_neg hF zc2
    refine lv_iconst (v := (-1)) hx hb dX11_digit_14 (by decide) ?_
    have ho := (Option.some.inj hF).symm
    exact W.iret (v := (-1)) hx hb hr (fun t ht hW => ⟨⟨(-1), zo1.2, rfl, ⟨by rw [ho], by rw [ho]⟩, z_end ht hP⟩, hS.F ht⟩) hS.2.2 dX11_digit_15
abbrev w_X11_digitSum : List Cond := .code yX11_digitSum cX11_digitSum 6 (some .int) :: wU
abbrev r_X11_digitSum : Room := { frames := 3, cells := 0, slots := 0, locals := 64 }
abbrev q_X11_digitSum (g : GG) (q0 q1 q2 q3 q4 q5 q6 q7 q8 q9 q10 q11 q12 : Nat) (mm : Nat → Int64) (masd : Nat → Int64) (msav : Nat → Int64) (misS : Int32) (mpst : Nat → Int64) (mchg : Int32) (merr : Int32) (mfai : Int32) (mthr : Int32) (minp : Nat → Int32) (minM : Int32) (mUp : Nat → Int32) (mcar : Nat → Int32) (mcam : Nat → Int32) (mahd : Int32) (magn : Int32) (mltr : Nat → Int32) (mbeg : Nat → Int32) (mcmd : Nat → Int32) (mcmM : Int32) (mpl : Int32) (msz : Int32) (mwr : Int32) (mlin : Nat → Int32) (mliM : Int32) (o : Int32 × Int32) (A : Nat → Prop) := va_Qi (fun (r : Int32) (u : Int32) => o.1 = r ∧ o.2 = u) (fun u t => va_P (gD g) zCl (wModel g q0 q1 q2 q3 q4 q5 q6 q7 q8 q9 q10 q11 q12 mm masd msav misS mpst mchg merr mfai u minp minM mUp mcar mcam mahd magn mltr mbeg mcmd mcmM mpl msz mwr mlin mliM) t.heap) A
set_option maxHeartbeats 4000000 in
set_option maxRecDepth 100000 in
theorem c_X11_digitSum (l : Launch) (g : GG) (q0 q1 q2 q3 q4 q5 q6 q7 q8 q9 q10 q11 q12 : Nat) (mm : Nat → Int64) (masd : Nat → Int64) (msav : Nat → Int64) (misS : Int32) (mpst : Nat → Int64) (mchg : Int32) (merr : Int32) (mfai : Int32) (mthr : Int32) (minp : Nat → Int32) (minM : Int32) (mUp : Nat → Int32) (mcar : Nat → Int32) (mcam : Nat → Int32) (mahd : Int32) (magn : Int32) (mltr : Nat → Int32) (mbeg : Nat → Int32) (mcmd : Nat → Int32) (mcmM : Int32) (mpl : Int32) (msz : Int32) (mwr : Int32) (mlin : Nat → Int32) (mliM : Int32) (sz : Nat) (p1 : Int32) (fu : Nat) (o : Int32 × Int32) (hF : F_X11_digitSum fu mm mthr p1 = some o) : Met l yX11_digitSum w_X11_digitSum r_X11_digitSum (va_Pc [.ref q0, .int p1] (zP g (wModel g q0 q1 q2 q3 q4 q5 q6 q7 q8 q9 q10 q11 q12 mm masd msav misS mpst mchg merr mfai mthr minp minM mUp mcar mcam mahd magn mltr mbeg mcmd mcmM mpl msz mwr mlin mliM) sz)) (q_X11_digitSum g q0 q1 q2 q3 q4 q5 q6 q7 q8 q9 q10 q11 q12 mm masd msav misS mpst mchg merr mfai mthr minp minM mUp mcar mcam mahd magn mltr mbeg mcmd mcmM mpl msz mwr mlin mliM o (va_A (wModel g q0 q1 q2 q3 q4 q5 q6 q7 q8 q9 q10 q11 q12 mm masd msav misS mpst mchg merr mfai mthr minp minM mUp mcar mcam mahd magn mltr mbeg mcmd mcmM mpl msz mwr mlin mliM) sz)) 0 0 (va_A (wModel g q0 q1 q2 q3 q4 q5 q6 q7 q8 q9 q10 q11 q12 mm masd msav misS mpst mchg merr mfai mthr minp minM mUp mcar mcam mahd magn mltr mbeg mcmd mcmM mpl msz mwr mlin mliM) sz) := by
  refine Met.ofW (cc := cX11_digitSum) (maxL := 6) (ret := (some .int)) (by decide) rfl ?_
  intro p e s m args below meth c s₁ B hml hv
  obtain ⟨rfl, rfl, hP, hK, hD0, hB⟩ := hv
  have hx := B.exec
  have hb := B.bytes
  have hr := B.returns
  have hts : ∀ w ∈ wU, w.before _ s = true := fun w h => atoms_spec (ws := w_X11_digitSum) B.pre w (List.mem_cons_of_mem _ h)
  have hown : s.vm.findClass RX11 = some m.cls := findClass_of_methodNamed B.named
  have hlocks := B.notSynchronized
  have hD := hD0.self (sz := s.heap.size)
  generalize hAe : va_A (wModel g q0 q1 q2 q3 q4 q5 q6 q7 q8 q9 q10 q11 q12 mm masd msav misS mpst mchg merr mfai mthr minp minM mUp mcar mcam mahd magn mltr mbeg mcmd mcmM mpl msz mwr mlin mliM) s.heap.size = A at hD hB ⊢
  have hA : ∀ q : Nat, s.heap.size ≤ q → A q := fun q h => by rw [← hAe]; exact Or.inr h
  have hS : va_S A s.heap s.heap [] := va_S.rf
  have hl := lv_entry ([.ref q0, .int p1]) (n := 6) (Nat.le_of_ble_eq_true rfl)
  rw [lg_entry_eq]
  generalize (lg_sl ([.ref q0, .int p1]) ++ List.replicate (6 - (lg_sl ([.ref q0, .int p1])).length) Slot.unset).toArray = ls at hl ⊢
  have hl : lv_has ls 6 [(0, .ref q0), (1, .int p1)] := hl
  unfold F_X11_digitSum at hF
  have K25 : ∀ (n25 : Nat) (mthr : Int32) (x2 : Int64) (x4 : Int32) (x5 : Int32), F_X11_digitSum_25 fu n25 mm mthr x2 x4 x5 = some o → ∀ (H : Heap) (locs : List Loc) (ls : Array Slot), lv_has ls 6 [(0, .ref q0), (2, .long x2), (4, .int x4), (5, .int x5)] → va_P (gD g) zCl (wModel g q0 q1 q2 q3 q4 q5 q6 q7 q8 q9 q10 q11 q12 mm masd msav misS mpst mchg merr mfai mthr minp minM mUp mcar mcam mahd magn mltr mbeg mcmd mcmM mpl msz mwr mlin mliM) H → va_D A (wModel g q0 q1 q2 q3 q4 q5 q6 q7 q8 q9 q10 q11 q12 mm masd msav misS mpst mchg merr mfai mthr minp minM mUp mcar mcam mahd magn mltr mbeg mcmd mcmM mpl msz mwr mlin mliM) → va_S A s.heap H locs → W p l e (headSpec w_X11_digitSum r_X11_digitSum).room s m ([.ref q0, .int p1] : List Value).toArray below meth c H locs 0 0 (MQ below (q_X11_digitSum g q0 q1 q2 q3 q4 q5 q6 q7 q8 q9 q10 q11 q12 mm masd msav misS mpst mchg merr mfai mthr minp minM mUp mcar mcam mahd magn mltr mbeg mcmd mcmM mpl msz mwr mlin mliM o A) ([.ref q0, .int p1] : List Value).toArray s 0 0 A) (F0 m 25 ls []) := by
    intro n25
    induction n25 with
    | zero =>
      intro mthr x2 x4 x5 hF
      exact absurd hF (by simp [F_X11_digitSum_25])
    | succ n25 ih25 =>
      intro mthr x2 x4 x5 hF H locs ls hl hP hD hS
      unfold F_X11_digitSum_25 at hF
      refine lv_iload hx hb dX11_digitSum_25 (lv_at hl 3 rfl) ?_
      refine lv_iconst (v := 5) hx hb dX11_digitSum_27 (by decide) ?_
      refine lv_icmp_gt (tgt := 55) hx hb dX11_digitSum_28 (by decide) (fun zc1 => ?_) (fun zc1 => ?_)
      · have hF := z_pos hF zc1
        refine lv_iload hx hb dX11_digitSum_55 (lv_at hl 2 rfl) ?_
        have ho := (Option.some.inj hF).symm
        exact W.iret (v := x4) hx hb hr (fun t ht hW => ⟨⟨x4, mthr, rfl, ⟨by rw [ho], by rw [ho]⟩, z_end ht hP⟩, hS.F ht⟩) hS.2.2 dX11_digitSum_57
      · have hF := z_neg hF zc1
        refine lv_aload_n hx hb dX11_digitSum_31 rfl (lv_at hl 0 rfl) ?_
        refine va_get (D := gD g) (ci := 7) (v := .int mthr) (C := RX11) (T := TX11) (N := 25) hx hb hts inX11 hown hK hP 0 rfl rfl 8 (by decide) (hts _ mU_1252) (fun _ h9 => h9) rfl dX11_digitSum_32 ?_
        refine lv_if_ne (tgt := 55) hx hb dX11_digitSum_35 (by decide) (fun zc2 => ?_) (fun zc2 => ?_)
        · have hF := z_neg hF zc2
          refine lv_iload hx hb dX11_digitSum_55 (lv_at hl 2 rfl) ?_
          have ho := (Option.some.inj hF).symm
          exact W.iret (v := x4) hx hb hr (fun t ht hW => ⟨⟨x4, mthr, rfl, ⟨by rw [ho], by rw [ho]⟩, z_end ht hP⟩, hS.F ht⟩) hS.2.2 dX11_digitSum_57
        · have hF := z_pos hF zc2
          refine lv_iload hx hb dX11_digitSum_38 (lv_at hl 2 rfl) ?_
          refine lv_lload_n hx hb dX11_digitSum_40 rfl (lv_at hl 1 rfl) ?_
          refine lv_iload hx hb dX11_digitSum_41 (lv_at hl 3 rfl) ?_
          obtain ⟨zo3, hzo3, hF⟩ := z_bind hF
          refine z_calli (fun (_ : Unit) => []) [] (va_runS (As := [.long x2, .int x5]) (rest := [.int x4]) ⟨hx, hb, hml, hown, hts⟩ (c_X11_digitAt l g _ x2 x5 fu _ hzo3) (va_cwS 2 hts (gdS mU_1495 mU_1496 mU_75 mU_1497) rfl rfl rfl (by decide +kernel) ⟨Nat.le_of_ble_eq_true rfl, Nat.le_of_ble_eq_true rfl⟩) ⟨z_blind _ _ _ _, fun U hU hW => z_pre [] hP hD hK hB hS hA rfl rfl hU hW⟩ rfl rfl hl.1 rfl (lv_room (Nat.le_of_ble_eq_true rfl)) dX11_digitSum_43 ⟨Nat.le_of_ble_eq_true rfl, Nat.le_of_ble_eq_true rfl⟩) hP hD hS hA rfl (fun _ => rfl) (fun r u H locs hw hP hD hS => ?_)
          subst hw
          have hP : va_P (gD g) zCl (wModel g q0 q1 q2 q3 q4 q5 q6 q7 q8 q9 q10 q11 q12 mm masd msav misS mpst mchg merr mfai mthr minp minM mUp mcar mcam mahd magn mltr mbeg mcmd mcmM mpl msz mwr mlin mliM) H := hP
          have hD : va_D A (wModel g q0 q1 q2 q3 q4 q5 q6 q7 q8 q9 q10 q11 q12 mm masd msav misS mpst mchg merr mfai mthr minp minM mUp mcar mcam mahd magn mltr mbeg mcmd mcmM mpl msz mwr mlin mliM) := hD
          refine lv_iadd hx hb dX11_digitSum_46 ?_
          obtain ⟨zv4, ezv4, hF⟩ := z_let hF
          refine z_topi ezv4 ?_
          refine lv_istore (lv' := [(4, .int zv4), (0, .ref q0), (2, .long x2), (5, .int x5)]) hx hb dX11_digitSum_47 hl (by decide) rfl (fun ls hl => ?_)
          obtain ⟨zv5, ezv5, hF⟩ := z_let hF
          refine lv_iinc (v := zv5) (lv' := [(5, .int zv5), (4, .int zv4), (0, .ref q0), (2, .long x2)]) hx hb dX11_digitSum_49 hl (k := 3) rfl (by rw [ezv5]; rfl) (by decide) rfl (fun ls hl => ?_)
          refine lv_goto (tgt := 25) hx hb dX11_digitSum_52 (by decide) ?_
          exact ih25 mthr x2 zv4 zv5 hF _ _ _ (lv_sub hl [2, 3, 1, 0] rfl) hP hD hS
  refine lv_aload_n hx hb dX11_digitSum_0 rfl (lv_at hl 0 rfl) ?_
  refine lv_iload_n hx hb dX11_digitSum_1 rfl (lv_at hl 1 rfl) ?_
  refine lv_iconst (v := 1) hx hb dX11_digitSum_2 (by decide) ?_
  obtain ⟨zo6, hzo6, hF⟩ := z_bind hF
  refine z_calllE (fun (u : Int32) => (wModel g q0 q1 q2 q3 q4 q5 q6 q7 q8 q9 q10 q11 q12 mm masd msav misS mpst mchg merr mfai u minp minM mUp mcar mcam mahd magn mltr mbeg mcmd mcmM mpl msz mwr mlin mliM)) (va_runV (As := [.int p1, .int 1]) (rest := []) ⟨hx, hb, hml, hown, hts⟩ (c_X11_ofNumber l g q0 q1 q2 q3 q4 q5 q6 q7 q8 q9 q10 q11 q12 mm masd msav misS mpst mchg merr mfai mthr minp minM mUp mcar mcam mahd magn mltr mbeg mcmd mcmM mpl msz mwr mlin mliM _ p1 1 fu _ hzo6) (cwV 2 hts (gdV mU_1477 mU_1479 mU_47 mU_75 mU_1480) rfl rfl rfl (by decide +kernel) ⟨Nat.le_of_ble_eq_true rfl, Nat.le_of_ble_eq_true rfl⟩) ⟨z_blind _ _ _ _, va_recv hK hP (ci := 7) (q0 := 0) rfl rfl, fun U hU hW => z_preE hP hD hK hB hS hA hU hW⟩ rfl rfl hl.1 rfl (lv_room (Nat.le_of_ble_eq_true rfl)) dX11_digitSum_3 ⟨Nat.le_of_ble_eq_true rfl, Nat.le_of_ble_eq_true rfl⟩) hD hS hA (fun _ => rfl) (fun r u H locs hw hP hD hS => ?_)
  obtain ⟨rfl, rfl⟩ := hw
  have hP : va_P (gD g) zCl (wModel g q0 q1 q2 q3 q4 q5 q6 q7 q8 q9 q10 q11 q12 mm masd msav misS mpst mchg merr mfai zo6.2 minp minM mUp mcar mcam mahd magn mltr mbeg mcmd mcmM mpl msz mwr mlin mliM) H := hP
  have hD : va_D A (wModel g q0 q1 q2 q3 q4 q5 q6 q7 q8 q9 q10 q11 q12 mm masd msav misS mpst mchg merr mfai zo6.2 minp minM mUp mcar mcam mahd magn mltr mbeg mcmd mcmM mpl msz mwr mlin mliM) := hD
  refine lv_lstore_n (lv' := [(2, .long zo6.1), (0, .ref q0), (1, .int p1)]) hx hb dX11_digitSum_6 rfl hl (by decide) rfl (fun ls hl => ?_)
  refine lv_aload_n hx hb dX11_digitSum_7 rfl (lv_at hl 1 rfl) ?_
  refine va_get (D := gD g) (ci := 7) (v := .int zo6.2) (C := RX11) (T := TX11) (N := 25) hx hb hts inX11 hown hK hP 0 rfl rfl 8 (by decide) (hts _ mU_1252) (fun _ h9 => h9) rfl dX11_digitSum_8 ?_
  refine lv_if_le (tgt := 18) hx hb dX11_digitSum_11 (by decide) (fun zc7 => ?_) (fun zc7 => ?_)
  · have hF := z_pos hF zc7
    refine lv_iconst (v := 0) hx hb dX11_digitSum_18 (by decide) ?_
    refine lv_istore (lv' := [(4, .int 0), (2, .long zo6.1), (0, .ref q0), (1, .int p1)]) hx hb dX11_digitSum_19 hl (by decide) rfl (fun ls hl => ?_)
    refine lv_bipush (v := (-4)) hx hb dX11_digitSum_21 (by decide) ?_
    refine lv_istore (lv' := [(5, .int (-4)), (4, .int 0), (2, .long zo6.1), (0, .ref q0), (1, .int p1)]) hx hb dX11_digitSum_23 hl (by decide) rfl (fun ls hl => ?_)
    exact K25 fu zo6.2 zo6.1 0 (-4) hF _ _ _ (lv_sub hl [3, 2, 1, 0] rfl) hP hD hS
  · have hF := z_neg hF zc7
    refine lv_iconst (v := (-1)) hx hb dX11_digitSum_14 (by decide) ?_
    refine lv_goto (tgt := 19) hx hb dX11_digitSum_15 (by decide) ?_
    refine lv_istore (lv' := [(4, .int (-1)), (2, .long zo6.1), (0, .ref q0), (1, .int p1)]) hx hb dX11_digitSum_19 hl (by decide) rfl (fun ls hl => ?_)
    refine lv_bipush (v := (-4)) hx hb dX11_digitSum_21 (by decide) ?_
    refine lv_istore (lv' := [(5, .int (-4)), (4, .int (-1)), (2, .long zo6.1), (0, .ref q0), (1, .int p1)]) hx hb dX11_digitSum_23 hl (by decide) rfl (fun ls hl => ?_)
    exact K25 fu zo6.2 zo6.1 (-1) (-4) hF _ _ _ (lv_sub hl [3, 2, 1, 0] rfl) hP hD hS
abbrev w_X11_isAhead : List Cond := .code yX11_isAhead cX11_isAhead 5 (some .boolean) :: wU
abbrev r_X11_isAhead : Room := { frames := 1, cells := 0, slots := 0, locals := 20 }
abbrev q_X11_isAhead (g : GG) (q0 q1 q2 q3 q4 q5 q6 q7 q8 q9 q10 q11 q12 : Nat) (mm : Nat → Int64) (masd : Nat → Int64) (msav : Nat → Int64) (misS : Int32) (mpst : Nat → Int64) (mchg : Int32) (merr : Int32) (mfai : Int32) (mthr : Int32) (minp : Nat → Int32) (minM : Int32) (mUp : Nat → Int32) (mcar : Nat → Int32) (mcam : Nat → Int32) (mahd : Int32) (magn : Int32) (mltr : Nat → Int32) (mbeg : Nat → Int32) (mcmd : Nat → Int32) (mcmM : Int32) (mpl : Int32) (msz : Int32) (mwr : Int32) (mlin : Nat → Int32) (mliM : Int32) (o : Int32) (A : Nat → Prop) := va_Qi (fun (r : Int32) (u : Unit) => o = r) (fun u t => va_P (gD g) zCl (wModel g q0 q1 q2 q3 q4 q5 q6 q7 q8 q9 q10 q11 q12 mm masd msav misS mpst mchg merr mfai mthr minp minM mUp mcar mcam mahd magn mltr mbeg mcmd mcmM mpl msz mwr mlin mliM) t.heap) A
set_option maxHeartbeats 4000000 in
set_option maxRecDepth 100000 in
theorem c_X11_isAhead (l : Launch) (g : GG) (q0 q1 q2 q3 q4 q5 q6 q7 q8 q9 q10 q11 q12 : Nat) (mm : Nat → Int64) (masd : Nat → Int64) (msav : Nat → Int64) (misS : Int32) (mpst : Nat → Int64) (mchg : Int32) (merr : Int32) (mfai : Int32) (mthr : Int32) (minp : Nat → Int32) (minM : Int32) (mUp : Nat → Int32) (mcar : Nat → Int32) (mcam : Nat → Int32) (mahd : Int32) (magn : Int32) (mltr : Nat → Int32) (mbeg : Nat → Int32) (mcmd : Nat → Int32) (mcmM : Int32) (mpl : Int32) (msz : Int32) (mwr : Int32) (mlin : Nat → Int32) (mliM : Int32) (sz : Nat) (p1 : Int32) (p2 : Int32) (o : Int32) (hF : F_X11_isAhead mm p1 p2 = some o) : Met l yX11_isAhead w_X11_isAhead r_X11_isAhead (va_Pc [.ref q0, .int p1, .int p2] (zP g (wModel g q0 q1 q2 q3 q4 q5 q6 q7 q8 q9 q10 q11 q12 mm masd msav misS mpst mchg merr mfai mthr minp minM mUp mcar mcam mahd magn mltr mbeg mcmd mcmM mpl msz mwr mlin mliM) sz)) (q_X11_isAhead g q0 q1 q2 q3 q4 q5 q6 q7 q8 q9 q10 q11 q12 mm masd msav misS mpst mchg merr mfai mthr minp minM mUp mcar mcam mahd magn mltr mbeg mcmd mcmM mpl msz mwr mlin mliM o (va_A (wModel g q0 q1 q2 q3 q4 q5 q6 q7 q8 q9 q10 q11 q12 mm masd msav misS mpst mchg merr mfai mthr minp minM mUp mcar mcam mahd magn mltr mbeg mcmd mcmM mpl msz mwr mlin mliM) sz)) 0 0 (va_A (wModel g q0 q1 q2 q3 q4 q5 q6 q7 q8 q9 q10 q11 q12 mm masd msav misS mpst mchg merr mfai mthr minp minM mUp mcar mcam mahd magn mltr mbeg mcmd mcmM mpl msz mwr mlin mliM) sz) := by
  refine Met.ofW (cc := cX11_isAhead) (maxL := 5) (ret := (some .boolean)) (by decide) rfl ?_
  intro p e s m args below meth c s₁ B hml hv
  obtain ⟨rfl, rfl, hP, hK, hD0, hB⟩ := hv
  have hx := B.exec
  have hb := B.bytes
  have hr := B.returns
  have hts : ∀ w ∈ wU, w.before _ s = true := fun w h => atoms_spec (ws := w_X11_isAhead) B.pre w (List.mem_cons_of_mem _ h)
  have hown : s.vm.findClass RX11 = some m.cls := findClass_of_methodNamed B.named
  have hlocks := B.notSynchronized
  have hD := hD0.self (sz := s.heap.size)
  generalize hAe : va_A (wModel g q0 q1 q2 q3 q4 q5 q6 q7 q8 q9 q10 q11 q12 mm masd msav misS mpst mchg merr mfai mthr minp minM mUp mcar mcam mahd magn mltr mbeg mcmd mcmM mpl msz mwr mlin mliM) s.heap.size = A at hD hB ⊢
  have hA : ∀ q : Nat, s.heap.size ≤ q → A q := fun q h => by rw [← hAe]; exact Or.inr h
  have hS : va_S A s.heap s.heap [] := va_S.rf
  have hl := lv_entry ([.ref q0, .int p1, .int p2]) (n := 5) (Nat.le_of_ble_eq_true rfl)
  rw [lg_entry_eq]
  generalize (lg_sl ([.ref q0, .int p1, .int p2]) ++ List.replicate (5 - (lg_sl ([.ref q0, .int p1, .int p2])).length) Slot.unset).toArray = ls at hl ⊢
  have hl : lv_has ls 5 [(0, .ref q0), (1, .int p1), (2, .int p2)] := hl
  unfold F_X11_isAhead at hF
  have K57 : ∀ (_ : Unit) (y0 : Int64), F_X11_isAhead_57 mm p1 p2 y0 = some o → ∀ (H : Heap) (locs : List Loc) (ls : Array Slot), lv_has ls 5 [(1, .int p1), (2, .int p2)] → va_P (gD g) zCl (wModel g q0 q1 q2 q3 q4 q5 q6 q7 q8 q9 q10 q11 q12 mm masd msav misS mpst mchg merr mfai mthr minp minM mUp mcar mcam mahd magn mltr mbeg mcmd mcmM mpl msz mwr mlin mliM) H → va_D A (wModel g q0 q1 q2 q3 q4 q5 q6 q7 q8 q9 q10 q11 q12 mm masd msav misS mpst mchg merr mfai mthr minp minM mUp mcar mcam mahd magn mltr mbeg mcmd mcmM mpl msz mwr mlin mliM) → va_S A s.heap H locs → W p l e (headSpec w_X11_isAhead r_X11_isAhead).room s m ([.ref q0, .int p1, .int p2] : List Value).toArray below meth c H locs 0 0 (MQ below (q_X11_isAhead g q0 q1 q2 q3 q4 q5 q6 q7 q8 q9 q10 q11 q12 mm masd msav misS mpst mchg merr mfai mthr minp minM mUp mcar mcam mahd magn mltr mbeg mcmd mcmM mpl msz mwr mlin mliM o A) ([.ref q0, .int p1, .int p2] : List Value).toArray s 0 0 A) (F0 m 57 ls [.long y0]) := by
    intro _ y0 hF H locs ls hl hP hD hS
    unfold F_X11_isAhead_57 at hF
    refine lv_lstore_n (lv' := [(3, .long y0), (1, .int p1), (2, .int p2)]) hx hb dX11_isAhead_57 rfl hl (by decide) rfl (fun ls hl => ?_)
    refine lv_lload_n hx hb dX11_isAhead_58 rfl (lv_at hl 0 rfl) ?_
    refine lv_lconst (v := 0) hx hb dX11_isAhead_59 (by decide) ?_
    refine z_lcmp_gt (tgt := 75) hx hb dX11_isAhead_60 dX11_isAhead_61 (by decide) (fun zc1 => ?_) (fun zc1 => ?_)
    · have hF := z_pos hF zc1
      refine lv_iconst (v := 1) hx hb dX11_isAhead_75 (by decide) ?_
      refine lv_goto (tgt := 80) hx hb dX11_isAhead_76 (by decide) ?_
      have ho := (Option.some.inj hF).symm
      exact W.zret (v := 1) hx hb hr rfl (fun t ht hW => ⟨⟨1, (), rfl, ho, z_end ht hP⟩, hS.F ht⟩) hS.2.2 dX11_isAhead_80
    · have hF := z_neg hF zc1
      refine lv_lload_n hx hb dX11_isAhead_64 rfl (lv_at hl 0 rfl) ?_
      refine lv_lconst (v := 0) hx hb dX11_isAhead_65 (by decide) ?_
      refine z_lcmp_ne (tgt := 79) hx hb dX11_isAhead_66 dX11_isAhead_67 (by decide) (fun zc2 => ?_) (fun zc2 => ?_)
      · have hF := z_neg hF zc2
        refine lv_iconst (v := 0) hx hb dX11_isAhead_79 (by decide) ?_
        have ho := (Option.some.inj hF).symm
        exact W.zret (v := 0) hx hb hr rfl (fun t ht hW => ⟨⟨0, (), rfl, ho, z_end ht hP⟩, hS.F ht⟩) hS.2.2 dX11_isAhead_80
      · have hF := z_pos hF zc2
        refine lv_iload_n hx hb dX11_isAhead_70 rfl (lv_at hl 1 rfl) ?_
        refine lv_iload_n hx hb dX11_isAhead_71 rfl (lv_at hl 2 rfl) ?_
        refine lv_icmp_ge (tgt := 79) hx hb dX11_isAhead_72 (by decide) (fun zc3 => ?_) (fun zc3 => ?_)
        · have hF := z_pos hF zc3
          refine lv_iconst (v := 0) hx hb dX11_isAhead_79 (by decide) ?_
          have ho := (Option.some.inj hF).symm
          exact W.zret (v := 0) hx hb hr rfl (fun t ht hW => ⟨⟨0, (), rfl, ho, z_end ht hP⟩, hS.F ht⟩) hS.2.2 dX11_isAhead_80
        · have hF := z_neg hF zc3
          refine lv_iconst (v := 1) hx hb dX11_isAhead_75 (by decide) ?_
          refine lv_goto (tgt := 80) hx hb dX11_isAhead_76 (by decide) ?_
          have ho := (Option.some.inj hF).symm
          exact W.zret (v := 1) hx hb hr rfl (fun t ht hW => ⟨⟨1, (), rfl, ho, z_end ht hP⟩, hS.F ht⟩) hS.2.2 dX11_isAhead_80
  refine lv_aload_n hx hb dX11_isAhead_0 rfl (lv_at hl 0 rfl) ?_
  refine va_get (D := gD g) (ci := 7) (v := .ref q1) (C := RX11) (T := TX11) (N := 25) hx hb hts inX11 hown hK hP 0 rfl rfl 0 (by decide) (hts _ mU_1244) (fun _ h9 => h9) rfl dX11_isAhead_1 ?_
  refine lv_iload_n hx hb dX11_isAhead_4 rfl (lv_at hl 1 rfl) ?_
  obtain ⟨zo4, hzo4, hF⟩ := z_bind hF
  refine z_calli (fun (_ : Unit) => []) [] (va_runS (As := [.int p1]) (rest := [.ref q1]) ⟨hx, hb, hml, hown, hts⟩ (c_X11_at l g _ p1 _ hzo4) (va_cwS 1 hts (gdS mU_1372 mU_1373 mU_75 mU_1374) rfl rfl rfl (by decide +kernel) ⟨Nat.le_of_ble_eq_true rfl, Nat.le_of_ble_eq_true rfl⟩) ⟨z_blind _ _ _ _, fun U hU hW => z_pre [] hP hD hK hB hS hA rfl rfl hU hW⟩ rfl rfl hl.1 rfl (lv_room (Nat.le_of_ble_eq_true rfl)) dX11_isAhead_5 ⟨Nat.le_of_ble_eq_true rfl, Nat.le_of_ble_eq_true rfl⟩) hP hD hS hA rfl (fun _ => rfl) (fun r u H locs hw hP hD hS => ?_)
  subst hw
  have hP : va_P (gD g) zCl (wModel g q0 q1 q2 q3 q4 q5 q6 q7 q8 q9 q10 q11 q12 mm masd msav misS mpst mchg merr mfai mthr minp minM mUp mcar mcam mahd magn mltr mbeg mcmd mcmM mpl msz mwr mlin mliM) H := hP
  have hD : va_D A (wModel g q0 q1 q2 q3 q4 q5 q6 q7 q8 q9 q10 q11 q12 mm masd msav misS mpst mchg merr mfai mthr minp minM mUp mcar mcam mahd magn mltr mbeg mcmd mcmM mpl msz mwr mlin mliM) := hD
  refine lv_iconst (v := 1) hx hb dX11_isAhead_8 (by decide) ?_
  refine lv_iadd hx hb dX11_isAhead_9 ?_
  obtain ⟨zg5, hF⟩ := z_grd hF
  refine va_lald hx hb hK hP 1 2 rfl rfl zg5 dX11_isAhead_10 ?_
  refine lv_aload_n hx hb dX11_isAhead_11 rfl (lv_at hl 0 rfl) ?_
  refine va_get (D := gD g) (ci := 7) (v := .ref q1) (C := RX11) (T := TX11) (N := 25) hx hb hts inX11 hown hK hP 0 rfl rfl 0 (by decide) (hts _ mU_1244) (fun _ h9 => h9) rfl dX11_isAhead_12 ?_
  refine lv_iload_n hx hb dX11_isAhead_15 rfl (lv_at hl 2 rfl) ?_
  obtain ⟨zo6, hzo6, hF⟩ := z_bind hF
  refine z_calli (fun (_ : Unit) => []) [] (va_runS (As := [.int p2]) (rest := [.ref q1, .long (mm (Int32.toNatClampNeg (zo4 + 1)))]) ⟨hx, hb, hml, hown, hts⟩ (c_X11_at l g _ p2 _ hzo6) (va_cwS 1 hts (gdS mU_1372 mU_1373 mU_75 mU_1374) rfl rfl rfl (by decide +kernel) ⟨Nat.le_of_ble_eq_true rfl, Nat.le_of_ble_eq_true rfl⟩) ⟨z_blind _ _ _ _, fun U hU hW => z_pre [] hP hD hK hB hS hA rfl rfl hU hW⟩ rfl rfl hl.1 rfl (lv_room (Nat.le_of_ble_eq_true rfl)) dX11_isAhead_16 ⟨Nat.le_of_ble_eq_true rfl, Nat.le_of_ble_eq_true rfl⟩) hP hD hS hA rfl (fun _ => rfl) (fun r u H locs hw hP hD hS => ?_)
  subst hw
  have hP : va_P (gD g) zCl (wModel g q0 q1 q2 q3 q4 q5 q6 q7 q8 q9 q10 q11 q12 mm masd msav misS mpst mchg merr mfai mthr minp minM mUp mcar mcam mahd magn mltr mbeg mcmd mcmM mpl msz mwr mlin mliM) H := hP
  have hD : va_D A (wModel g q0 q1 q2 q3 q4 q5 q6 q7 q8 q9 q10 q11 q12 mm masd msav misS mpst mchg merr mfai mthr minp minM mUp mcar mcam mahd magn mltr mbeg mcmd mcmM mpl msz mwr mlin mliM) := hD
  refine lv_iconst (v := 1) hx hb dX11_isAhead_19 (by decide) ?_
  refine lv_iadd hx hb dX11_isAhead_20 ?_
  obtain ⟨zg7, hF⟩ := z_grd hF
  refine va_lald hx hb hK hP 1 2 rfl rfl zg7 dX11_isAhead_21 ?_
  refine lv_lsub hx hb dX11_isAhead_22 ?_
  obtain ⟨zv8, ezv8, hF⟩ := z_let hF
  refine z_topl ezv8 ?_
  refine lv_lstore_n (lv' := [(3, .long zv8), (0, .ref q0), (1, .int p1), (2, .int p2)]) hx hb dX11_isAhead_23 rfl hl (by decide) rfl (fun ls hl => ?_)
  refine lv_lload_n hx hb dX11_isAhead_24 rfl (lv_at hl 0 rfl) ?_
  refine lv_lconst (v := 0) hx hb dX11_isAhead_25 (by decide) ?_
  refine z_lcmp_ne (tgt := 56) hx hb dX11_isAhead_26 dX11_isAhead_27 (by decide) (fun zc9 => ?_) (fun zc9 => ?_)
  · have hF := z_neg hF zc9
    refine lv_lload_n hx hb dX11_isAhead_56 rfl (lv_at hl 0 rfl) ?_
    exact K57 () zv8 hF _ _ _ (lv_sub hl [2, 3] rfl) hP hD hS
  · have hF := z_pos hF zc9
    refine lv_aload_n hx hb dX11_isAhead_30 rfl (lv_at hl 1 rfl) ?_
    refine va_get (D := gD g) (ci := 7) (v := .ref q1) (C := RX11) (T := TX11) (N := 25) hx hb hts inX11 hown hK hP 0 rfl rfl 0 (by decide) (hts _ mU_1244) (fun _ h9 => h9) rfl dX11_isAhead_31 ?_
    refine lv_iload_n hx hb dX11_isAhead_34 rfl (lv_at hl 2 rfl) ?_
    obtain ⟨zo10, hzo10, hF⟩ := z_bind hF
    refine z_calli (fun (_ : Unit) => []) [] (va_runS (As := [.int p1]) (rest := [.ref q1]) ⟨hx, hb, hml, hown, hts⟩ (c_X11_at l g _ p1 _ hzo10) (va_cwS 1 hts (gdS mU_1372 mU_1373 mU_75 mU_1374) rfl rfl rfl (by decide +kernel) ⟨Nat.le_of_ble_eq_true rfl, Nat.le_of_ble_eq_true rfl⟩) ⟨z_blind _ _ _ _, fun U hU hW => z_pre [] hP hD hK hB hS hA rfl rfl hU hW⟩ rfl rfl hl.1 rfl (lv_room (Nat.le_of_ble_eq_true rfl)) dX11_isAhead_35 ⟨Nat.le_of_ble_eq_true rfl, Nat.le_of_ble_eq_true rfl⟩) hP hD hS hA rfl (fun _ => rfl) (fun r u H locs hw hP hD hS => ?_)
    subst hw
    have hP : va_P (gD g) zCl (wModel g q0 q1 q2 q3 q4 q5 q6 q7 q8 q9 q10 q11 q12 mm masd msav misS mpst mchg merr mfai mthr minp minM mUp mcar mcam mahd magn mltr mbeg mcmd mcmM mpl msz mwr mlin mliM) H := hP
    have hD : va_D A (wModel g q0 q1 q2 q3 q4 q5 q6 q7 q8 q9 q10 q11 q12 mm masd msav misS mpst mchg merr mfai mthr minp minM mUp mcar mcam mahd magn mltr mbeg mcmd mcmM mpl msz mwr mlin mliM) := hD
    refine lv_iconst (v := 2) hx hb dX11_isAhead_38 (by decide) ?_
    refine lv_iadd hx hb dX11_isAhead_39 ?_
    obtain ⟨zg11, hF⟩ := z_grd hF
    refine va_lald hx hb hK hP 1 2 rfl rfl zg11 dX11_isAhead_40 ?_
    refine lv_aload_n hx hb dX11_isAhead_41 rfl (lv_at hl 1 rfl) ?_
    refine va_get (D := gD g) (ci := 7) (v := .ref q1) (C := RX11) (T := TX11) (N := 25) hx hb hts inX11 hown hK hP 0 rfl rfl 0 (by decide) (hts _ mU_1244) (fun _ h9 => h9) rfl dX11_isAhead_42 ?_
    refine lv_iload_n hx hb dX11_isAhead_45 rfl (lv_at hl 3 rfl) ?_
    obtain ⟨zo12, hzo12, hF⟩ := z_bind hF
    refine z_calli (fun (_ : Unit) => []) [] (va_runS (As := [.int p2]) (rest := [.ref q1, .long (mm (Int32.toNatClampNeg (zo10 + 2)))]) ⟨hx, hb, hml, hown, hts⟩ (c_X11_at l g _ p2 _ hzo12) (va_cwS 1 hts (gdS mU_1372 mU_1373 mU_75 mU_1374) rfl rfl rfl (by decide +kernel) ⟨Nat.le_of_ble_eq_true rfl, Nat.le_of_ble_eq_true rfl⟩) ⟨z_blind _ _ _ _, fun U hU hW => z_pre [] hP hD hK hB hS hA rfl rfl hU hW⟩ rfl rfl hl.1 rfl (lv_room (Nat.le_of_ble_eq_true rfl)) dX11_isAhead_46 ⟨Nat.le_of_ble_eq_true rfl, Nat.le_of_ble_eq_true rfl⟩) hP hD hS hA rfl (fun _ => rfl) (fun r u H locs hw hP hD hS => ?_)
    subst hw
    have hP : va_P (gD g) zCl (wModel g q0 q1 q2 q3 q4 q5 q6 q7 q8 q9 q10 q11 q12 mm masd msav misS mpst mchg merr mfai mthr minp minM mUp mcar mcam mahd magn mltr mbeg mcmd mcmM mpl msz mwr mlin mliM) H := hP
    have hD : va_D A (wModel g q0 q1 q2 q3 q4 q5 q6 q7 q8 q9 q10 q11 q12 mm masd msav misS mpst mchg merr mfai mthr minp minM mUp mcar mcam mahd magn mltr mbeg mcmd mcmM mpl msz mwr mlin mliM) := hD
    refine lv_iconst (v := 2) hx hb dX11_isAhead_49 (by decide) ?_
    refine lv_iadd hx hb dX11_isAhead_50 ?_
    obtain ⟨zg13, hF⟩ := z_grd hF
    refine va_lald hx hb hK hP 1 2 rfl rfl zg13 dX11_isAhead_51 ?_
    refine lv_lsub hx hb dX11_isAhead_52 ?_
    refine lv_goto (tgt := 57) hx hb dX11_isAhead_53 (by decide) ?_
    exact K57 () ((mm (Int32.toNatClampNeg (zo10 + 2))) - (mm (Int32.toNatClampNeg (zo12 + 2)))) hF _ _ _ (lv_sub hl [2, 3] rfl) hP hD hS
abbrev w_X11_numberAtRank : List Cond := .code yX11_numberAtRank cX11_numberAtRank 5 (some .int) :: wU
abbrev r_X11_numberAtRank : Room := { frames := 2, cells := 0, slots := 0, locals := 44 }
abbrev q_X11_numberAtRank (g : GG) (q0 q1 q2 q3 q4 q5 q6 q7 q8 q9 q10 q11 q12 : Nat) (mm : Nat → Int64) (masd : Nat → Int64) (msav : Nat → Int64) (misS : Int32) (mpst : Nat → Int64) (mchg : Int32) (merr : Int32) (mfai : Int32) (mthr : Int32) (minp : Nat → Int32) (minM : Int32) (mUp : Nat → Int32) (mcar : Nat → Int32) (mcam : Nat → Int32) (mahd : Int32) (magn : Int32) (mltr : Nat → Int32) (mbeg : Nat → Int32) (mcmd : Nat → Int32) (mcmM : Int32) (mpl : Int32) (msz : Int32) (mwr : Int32) (mlin : Nat → Int32) (mliM : Int32) (o : Int32 × Int32) (A : Nat → Prop) := va_Qi (fun (r : Int32) (u : Int32) => o.1 = r ∧ o.2 = u) (fun u t => va_P (gD g) zCl (wModel g q0 q1 q2 q3 q4 q5 q6 q7 q8 q9 q10 q11 q12 mm masd msav misS mpst mchg merr mfai u minp minM mUp mcar mcam mahd magn mltr mbeg mcmd mcmM mpl msz mwr mlin mliM) t.heap) A
set_option maxHeartbeats 4000000 in
set_option maxRecDepth 100000 in
theorem c_X11_numberAtRank (l : Launch) (g : GG) (q0 q1 q2 q3 q4 q5 q6 q7 q8 q9 q10 q11 q12 : Nat) (mm : Nat → Int64) (masd : Nat → Int64) (msav : Nat → Int64) (misS : Int32) (mpst : Nat → Int64) (mchg : Int32) (merr : Int32) (mfai : Int32) (mthr : Int32) (minp : Nat → Int32) (minM : Int32) (mUp : Nat → Int32) (mcar : Nat → Int32) (mcam : Nat → Int32) (mahd : Int32) (magn : Int32) (mltr : Nat → Int32) (mbeg : Nat → Int32) (mcmd : Nat → Int32) (mcmM : Int32) (mpl : Int32) (msz : Int32) (mwr : Int32) (mlin : Nat → Int32) (mliM : Int32) (sz : Nat) (p1 : Int32) (fu : Nat) (o : Int32 × Int32) (hF : F_X11_numberAtRank fu mm mthr p1 = some o) : Met l yX11_numberAtRank w_X11_numberAtRank r_X11_numberAtRank (va_Pc [.ref q0, .int p1] (zP g (wModel g q0 q1 q2 q3 q4 q5 q6 q7 q8 q9 q10 q11 q12 mm masd msav misS mpst mchg merr mfai mthr minp minM mUp mcar mcam mahd magn mltr mbeg mcmd mcmM mpl msz mwr mlin mliM) sz)) (q_X11_numberAtRank g q0 q1 q2 q3 q4 q5 q6 q7 q8 q9 q10 q11 q12 mm masd msav misS mpst mchg merr mfai mthr minp minM mUp mcar mcam mahd magn mltr mbeg mcmd mcmM mpl msz mwr mlin mliM o (va_A (wModel g q0 q1 q2 q3 q4 q5 q6 q7 q8 q9 q10 q11 q12 mm masd msav misS mpst mchg merr mfai mthr minp minM mUp mcar mcam mahd magn mltr mbeg mcmd mcmM mpl msz mwr mlin mliM) sz)) 0 0 (va_A (wModel g q0 q1 q2 q3 q4 q5 q6 q7 q8 q9 q10 q11 q12 mm masd msav misS mpst mchg merr mfai mthr minp minM mUp mcar mcam mahd magn mltr mbeg mcmd mcmM mpl msz mwr mlin mliM) sz) := by
  refine Met.ofW (cc := cX11_numberAtRank) (maxL := 5) (ret := (some .int)) (by decide) rfl ?_
  intro p e s m args below meth c s₁ B hml hv
  obtain ⟨rfl, rfl, hP, hK, hD0, hB⟩ := hv
  have hx := B.exec
  have hb := B.bytes
  have hr := B.returns
  have hts : ∀ w ∈ wU, w.before _ s = true := fun w h => atoms_spec (ws := w_X11_numberAtRank) B.pre w (List.mem_cons_of_mem _ h)
  have hown : s.vm.findClass RX11 = some m.cls := findClass_of_methodNamed B.named
  have hlocks := B.notSynchronized
  have hD := hD0.self (sz := s.heap.size)
  generalize hAe : va_A (wModel g q0 q1 q2 q3 q4 q5 q6 q7 q8 q9 q10 q11 q12 mm masd msav misS mpst mchg merr mfai mthr minp minM mUp mcar mcam mahd magn mltr mbeg mcmd mcmM mpl msz mwr mlin mliM) s.heap.size = A at hD hB ⊢
  have hA : ∀ q : Nat, s.heap.size ≤ q → A q := fun q h => by rw [← hAe]; exact Or.inr h
  have hS : va_S A s.heap s.heap [] := va_S.rf
  have hl := lv_entry ([.ref q0, .int p1]) (n := 5) (Nat.le_of_ble_eq_true rfl)
  rw [lg_entry_eq]
  generalize (lg_sl ([.ref q0, .int p1]) ++ List.replicate (5 - (lg_sl ([.ref q0, .int p1])).length) Slot.unset).toArray = ls at hl ⊢
  have hl : lv_has ls 5 [(0, .ref q0), (1, .int p1)] := hl
  unfold F_X11_numberAtRank at hF
  have K7 : ∀ (n7 : Nat) (mthr : Int32) (x2 : Int32), F_X11_numberAtRank_7 fu n7 mm mthr p1 x2 = some o → ∀ (H : Heap) (locs : List Loc) (ls : Array Slot), lv_has ls 5 [(0, .ref q0), (1, .int p1), (2, .int x2)] → va_P (gD g) zCl (wModel g q0 q1 q2 q3 q4 q5 q6 q7 q8 q9 q10 q11 q12 mm masd msav misS mpst mchg merr mfai mthr minp minM mUp mcar mcam mahd magn mltr mbeg mcmd mcmM mpl msz mwr mlin mliM) H → va_D A (wModel g q0 q1 q2 q3 q4 q5 q6 q7 q8 q9 q10 q11 q12 mm masd msav misS mpst mchg merr mfai mthr minp minM mUp mcar mcam mahd magn mltr mbeg mcmd mcmM mpl msz mwr mlin mliM) → va_S A s.heap H locs → W p l e (headSpec w_X11_numberAtRank r_X11_numberAtRank).room s m ([.ref q0, .int p1] : List Value).toArray below meth c H locs 0 0 (MQ below (q_X11_numberAtRank g q0 q1 q2 q3 q4 q5 q6 q7 q8 q9 q10 q11 q12 mm masd msav misS mpst mchg merr mfai mthr minp minM mUp mcar mcam mahd magn mltr mbeg mcmd mcmM mpl msz mwr mlin mliM o A) ([.ref q0, .int p1] : List Value).toArray s 0 0 A) (F0 m 7 ls []) := by
    intro n7
    induction n7 with
    | zero =>
      intro mthr x2 hF
      exact absurd hF (by simp [F_X11_numberAtRank_7])
    | succ n7 ih7 =>
      have K20 : ∀ (n20 : Nat) (mthr : Int32) (x2 : Int32) (x3 : Int32) (x4 : Int32), F_X11_numberAtRank_20 (F_X11_numberAtRank_7 fu n7) fu n20 mm mthr p1 x2 x3 x4 = some o → ∀ (H : Heap) (locs : List Loc) (ls : Array Slot), lv_has ls 5 [(0, .ref q0), (1, .int p1), (2, .int x2), (3, .int x3), (4, .int x4)] → va_P (gD g) zCl (wModel g q0 q1 q2 q3 q4 q5 q6 q7 q8 q9 q10 q11 q12 mm masd msav misS mpst mchg merr mfai mthr minp minM mUp mcar mcam mahd magn mltr mbeg mcmd mcmM mpl msz mwr mlin mliM) H → va_D A (wModel g q0 q1 q2 q3 q4 q5 q6 q7 q8 q9 q10 q11 q12 mm masd msav misS mpst mchg merr mfai mthr minp minM mUp mcar mcam mahd magn mltr mbeg mcmd mcmM mpl msz mwr mlin mliM) → va_S A s.heap H locs → W p l e (headSpec w_X11_numberAtRank r_X11_numberAtRank).room s m ([.ref q0, .int p1] : List Value).toArray below meth c H locs 0 0 (MQ below (q_X11_numberAtRank g q0 q1 q2 q3 q4 q5 q6 q7 q8 q9 q10 q11 q12 mm masd msav misS mpst mchg merr mfai mthr minp minM mUp mcar mcam mahd magn mltr mbeg mcmd mcmM mpl msz mwr mlin mliM o A) ([.ref q0, .int p1] : List Value).toArray s 0 0 A) (F0 m 20 ls []) := by
        intro n20
        induction n20 with
        | zero =>
          intro mthr x2 x3 x4 hF
          exact absurd hF (by simp [F_X11_numberAtRank_20])
        | succ n20 ih20 =>
          intro mthr x2 x3 x4 hF H locs ls hl hP hD hS
          unfold F_X11_numberAtRank_20 at hF
          refine lv_iload hx hb dX11_numberAtRank_20 (lv_at hl 4 rfl) ?_
          refine lv_aload_n hx hb dX11_numberAtRank_22 rfl (lv_at hl 0 rfl) ?_
          obtain ⟨zo1, hzo1, hF⟩ := z_bind hF
          refine z_calliE (fun (_ : Unit) => (wModel g q0 q1 q2 q3 q4 q5 q6 q7 q8 q9 q10 q11 q12 mm masd msav misS mpst mchg merr mfai mthr minp minM mUp mcar mcam mahd magn mltr mbeg mcmd mcmM mpl msz mwr mlin mliM)) (va_runV (As := []) (rest := [.int x4]) ⟨hx, hb, hml, hown, hts⟩ (c_X11_many l g q0 q1 q2 q3 q4 q5 q6 q7 q8 q9 q10 q11 q12 mm masd msav misS mpst mchg merr mfai mthr minp minM mUp mcar mcam mahd magn mltr mbeg mcmd mcmM mpl msz mwr mlin mliM _ _ hzo1) (cwV 0 hts (gdV mU_1356 mU_1358 mU_32 mU_75 mU_1359) rfl rfl rfl (by decide +kernel) ⟨Nat.le_of_ble_eq_true rfl, Nat.le_of_ble_eq_true rfl⟩) ⟨z_blind _ _ _ _, va_recv hK hP (ci := 7) (q0 := 0) rfl rfl, fun U hU hW => z_preE hP hD hK hB hS hA hU hW⟩ rfl rfl hl.1 rfl (lv_room (Nat.le_of_ble_eq_true rfl)) dX11_numberAtRank_23 ⟨Nat.le_of_ble_eq_true rfl, Nat.le_of_ble_eq_true rfl⟩) hD hS hA (fun _ => rfl) (fun r u H locs hw hP hD hS => ?_)
          subst hw
          have hP : va_P (gD g) zCl (wModel g q0 q1 q2 q3 q4 q5 q6 q7 q8 q9 q10 q11 q12 mm masd msav misS mpst mchg merr mfai mthr minp minM mUp mcar mcam mahd magn mltr mbeg mcmd mcmM mpl msz mwr mlin mliM) H := hP
          have hD : va_D A (wModel g q0 q1 q2 q3 q4 q5 q6 q7 q8 q9 q10 q11 q12 mm masd msav misS mpst mchg merr mfai mthr minp minM mUp mcar mcam mahd magn mltr mbeg mcmd mcmM mpl msz mwr mlin mliM) := hD
          refine lv_icmp_ge (tgt := 53) hx hb dX11_numberAtRank_26 (by decide) (fun zc2 => ?_) (fun zc2 => ?_)
          · have hF := z_pos hF zc2
            refine lv_iload_n hx hb dX11_numberAtRank_53 rfl (lv_at hl 3 rfl) ?_
            refine lv_iload_n hx hb dX11_numberAtRank_54 rfl (lv_at hl 1 rfl) ?_
            refine lv_icmp_ne (tgt := 69) hx hb dX11_numberAtRank_55 (by decide) (fun zc3 => ?_) (fun zc3 => ?_)
            · have hF := z_neg hF zc3
              obtain ⟨zv4, ezv4, hF⟩ := z_let hF
              refine lv_iinc (v := zv4) (lv' := [(2, .int zv4), (0, .ref q0), (1, .int p1), (3, .int x3), (4, .int x4)]) hx hb dX11_numberAtRank_69 hl (k := 2) rfl (by rw [ezv4]; rfl) (by decide) rfl (fun ls hl => ?_)
              refine lv_goto (tgt := 7) hx hb dX11_numberAtRank_72 (by decide) ?_
              exact ih7 mthr zv4 hF _ _ _ (lv_sub hl [1, 2, 0] rfl) hP hD hS
            · have hF := z_pos hF zc3
              refine lv_aload_n hx hb dX11_numberAtRank_58 rfl (lv_at hl 0 rfl) ?_
              refine va_get (D := gD g) (ci := 7) (v := .ref q1) (C := RX11) (T := TX11) (N := 25) hx hb hts inX11 hown hK hP 0 rfl rfl 0 (by decide) (hts _ mU_1244) (fun _ h9 => h9) rfl dX11_numberAtRank_59 ?_
              refine lv_iload_n hx hb dX11_numberAtRank_62 rfl (lv_at hl 2 rfl) ?_
              obtain ⟨zo5, hzo5, hF⟩ := z_bind hF
              refine z_calli (fun (_ : Unit) => []) [] (va_runS (As := [.int x2]) (rest := [.ref q1]) ⟨hx, hb, hml, hown, hts⟩ (c_X11_at l g _ x2 _ hzo5) (va_cwS 1 hts (gdS mU_1372 mU_1373 mU_75 mU_1374) rfl rfl rfl (by decide +kernel) ⟨Nat.le_of_ble_eq_true rfl, Nat.le_of_ble_eq_true rfl⟩) ⟨z_blind _ _ _ _, fun U hU hW => z_pre [] hP hD hK hB hS hA rfl rfl hU hW⟩ rfl rfl hl.1 rfl (lv_room (Nat.le_of_ble_eq_true rfl)) dX11_numberAtRank_63 ⟨Nat.le_of_ble_eq_true rfl, Nat.le_of_ble_eq_true rfl⟩) hP hD hS hA rfl (fun _ => rfl) (fun r u H locs hw hP hD hS => ?_)
              subst hw
              have hP : va_P (gD g) zCl (wModel g q0 q1 q2 q3 q4 q5 q6 q7 q8 q9 q10 q11 q12 mm masd msav misS mpst mchg merr mfai mthr minp minM mUp mcar mcam mahd magn mltr mbeg mcmd mcmM mpl msz mwr mlin mliM) H := hP
              have hD : va_D A (wModel g q0 q1 q2 q3 q4 q5 q6 q7 q8 q9 q10 q11 q12 mm masd msav misS mpst mchg merr mfai mthr minp minM mUp mcar mcam mahd magn mltr mbeg mcmd mcmM mpl msz mwr mlin mliM) := hD
              obtain ⟨zg6, hF⟩ := z_grd hF
              refine va_lald hx hb hK hP 1 2 rfl rfl zg6 dX11_numberAtRank_66 ?_
              refine lv_l2i (v := (Int64.toInt32 (mm (Int32.toNatClampNeg zo5)))) hx hb dX11_numberAtRank_67 rfl ?_
              have ho := (Option.some.inj hF).symm
              exact W.iret (v := (Int64.toInt32 (mm (Int32.toNatClampNeg zo5)))) hx hb hr (fun t ht hW => ⟨⟨(Int64.toInt32 (mm (Int32.toNatClampNeg zo5))), mthr, rfl, ⟨by rw [ho], by rw [ho]⟩, z_end ht hP⟩, hS.F ht⟩) hS.2.2 dX11_numberAtRank_68
          · have hF := z_neg hF zc2
            refine lv_iload_n hx hb dX11_numberAtRank_29 rfl (lv_at hl 3 rfl) ?_
            refine lv_aload_n hx hb dX11_numberAtRank_30 rfl (lv_at hl 0 rfl) ?_
            refine lv_iload hx hb dX11_numberAtRank_31 (lv_at hl 4 rfl) ?_
            refine lv_iload_n hx hb dX11_numberAtRank_33 rfl (lv_at hl 2 rfl) ?_
            obtain ⟨zo7, hzo7, hF⟩ := z_bind hF
            refine z_calliE (fun (_ : Unit) => (wModel g q0 q1 q2 q3 q4 q5 q6 q7 q8 q9 q10 q11 q12 mm masd msav misS mpst mchg merr mfai mthr minp minM mUp mcar mcam mahd magn mltr mbeg mcmd mcmM mpl msz mwr mlin mliM)) (va_runV (As := [.int x4, .int x2]) (rest := [.int x3]) ⟨hx, hb, hml, hown, hts⟩ (c_X11_isAhead l g q0 q1 q2 q3 q4 q5 q6 q7 q8 q9 q10 q11 q12 mm masd msav misS mpst mchg merr mfai mthr minp minM mUp mcar mcam mahd magn mltr mbeg mcmd mcmM mpl msz mwr mlin mliM _ x4 x2 _ hzo7) (cwV 2 hts (gdV mU_1506 mU_1508 mU_48 mU_75 mU_1509) rfl rfl rfl (by decide +kernel) ⟨Nat.le_of_ble_eq_true rfl, Nat.le_of_ble_eq_true rfl⟩) ⟨z_blind _ _ _ _, va_recv hK hP (ci := 7) (q0 := 0) rfl rfl, fun U hU hW => z_preE hP hD hK hB hS hA hU hW⟩ rfl rfl hl.1 rfl (lv_room (Nat.le_of_ble_eq_true rfl)) dX11_numberAtRank_34 ⟨Nat.le_of_ble_eq_true rfl, Nat.le_of_ble_eq_true rfl⟩) hD hS hA (fun _ => rfl) (fun r u H locs hw hP hD hS => ?_)
            subst hw
            have hP : va_P (gD g) zCl (wModel g q0 q1 q2 q3 q4 q5 q6 q7 q8 q9 q10 q11 q12 mm masd msav misS mpst mchg merr mfai mthr minp minM mUp mcar mcam mahd magn mltr mbeg mcmd mcmM mpl msz mwr mlin mliM) H := hP
            have hD : va_D A (wModel g q0 q1 q2 q3 q4 q5 q6 q7 q8 q9 q10 q11 q12 mm masd msav misS mpst mchg merr mfai mthr minp minM mUp mcar mcam mahd magn mltr mbeg mcmd mcmM mpl msz mwr mlin mliM) := hD
            refine lv_if_eq (tgt := 44) hx hb dX11_numberAtRank_37 (by decide) (fun zc8 => ?_) (fun zc8 => ?_)
            · have hF := z_pos hF zc8
              refine lv_iconst (v := 0) hx hb dX11_numberAtRank_44 (by decide) ?_
              refine lv_iadd hx hb dX11_numberAtRank_45 ?_
              obtain ⟨zv9, ezv9, hF⟩ := z_let hF
              refine z_topi ezv9 ?_
              refine lv_istore_n (lv' := [(3, .int zv9), (0, .ref q0), (1, .int p1), (2, .int x2), (4, .int x4)]) hx hb dX11_numberAtRank_46 rfl hl (by decide) rfl (fun ls hl => ?_)
              obtain ⟨zv10, ezv10, hF⟩ := z_let hF
              refine lv_iinc (v := zv10) (lv' := [(4, .int zv10), (3, .int zv9), (0, .ref q0), (1, .int p1), (2, .int x2)]) hx hb dX11_numberAtRank_47 hl (k := 4) rfl (by rw [ezv10]; rfl) (by decide) rfl (fun ls hl => ?_)
              refine lv_goto (tgt := 20) hx hb dX11_numberAtRank_50 (by decide) ?_
              exact ih20 mthr x2 zv9 zv10 hF _ _ _ (lv_sub hl [2, 3, 4, 1, 0] rfl) hP hD hS
            · have hF := z_neg hF zc8
              refine lv_iconst (v := 1) hx hb dX11_numberAtRank_40 (by decide) ?_
              refine lv_goto (tgt := 45) hx hb dX11_numberAtRank_41 (by decide) ?_
              refine lv_iadd hx hb dX11_numberAtRank_45 ?_
              obtain ⟨zv11, ezv11, hF⟩ := z_let hF
              refine z_topi ezv11 ?_
              refine lv_istore_n (lv' := [(3, .int zv11), (0, .ref q0), (1, .int p1), (2, .int x2), (4, .int x4)]) hx hb dX11_numberAtRank_46 rfl hl (by decide) rfl (fun ls hl => ?_)
              obtain ⟨zv12, ezv12, hF⟩ := z_let hF
              refine lv_iinc (v := zv12) (lv' := [(4, .int zv12), (3, .int zv11), (0, .ref q0), (1, .int p1), (2, .int x2)]) hx hb dX11_numberAtRank_47 hl (k := 4) rfl (by rw [ezv12]; rfl) (by decide) rfl (fun ls hl => ?_)
              refine lv_goto (tgt := 20) hx hb dX11_numberAtRank_50 (by decide) ?_
              exact ih20 mthr x2 zv11 zv12 hF _ _ _ (lv_sub hl [2, 3, 4, 1, 0] rfl) hP hD hS
      intro mthr x2 hF H locs ls hl hP hD hS
      unfold F_X11_numberAtRank_7 at hF
      refine lv_iload_n hx hb dX11_numberAtRank_7 rfl (lv_at hl 2 rfl) ?_
      refine lv_aload_n hx hb dX11_numberAtRank_8 rfl (lv_at hl 0 rfl) ?_
      obtain ⟨zo13, hzo13, hF⟩ := z_bind hF
      refine z_calliE (fun (_ : Unit) => (wModel g q0 q1 q2 q3 q4 q5 q6 q7 q8 q9 q10 q11 q12 mm masd msav misS mpst mchg merr mfai mthr minp minM mUp mcar mcam mahd magn mltr mbeg mcmd mcmM mpl msz mwr mlin mliM)) (va_runV (As := []) (rest := [.int x2]) ⟨hx, hb, hml, hown, hts⟩ (c_X11_many l g q0 q1 q2 q3 q4 q5 q6 q7 q8 q9 q10 q11 q12 mm masd msav misS mpst mchg merr mfai mthr minp minM mUp mcar mcam mahd magn mltr mbeg mcmd mcmM mpl msz mwr mlin mliM _ _ hzo13) (cwV 0 hts (gdV mU_1356 mU_1358 mU_32 mU_75 mU_1359) rfl rfl rfl (by decide +kernel) ⟨Nat.le_of_ble_eq_true rfl, Nat.le_of_ble_eq_true rfl⟩) ⟨z_blind _ _ _ _, va_recv hK hP (ci := 7) (q0 := 0) rfl rfl, fun U hU hW => z_preE hP hD hK hB hS hA hU hW⟩ rfl rfl hl.1 rfl (lv_room (Nat.le_of_ble_eq_true rfl)) dX11_numberAtRank_9 ⟨Nat.le_of_ble_eq_true rfl, Nat.le_of_ble_eq_true rfl⟩) hD hS hA (fun _ => rfl) (fun r u H locs hw hP hD hS => ?_)
      subst hw
      have hP : va_P (gD g) zCl (wModel g q0 q1 q2 q3 q4 q5 q6 q7 q8 q9 q10 q11 q12 mm masd msav misS mpst mchg merr mfai mthr minp minM mUp mcar mcam mahd magn mltr mbeg mcmd mcmM mpl msz mwr mlin mliM) H := hP
      have hD : va_D A (wModel g q0 q1 q2 q3 q4 q5 q6 q7 q8 q9 q10 q11 q12 mm masd msav misS mpst mchg merr mfai mthr minp minM mUp mcar mcam mahd magn mltr mbeg mcmd mcmM mpl msz mwr mlin mliM) := hD
      refine lv_icmp_ge (tgt := 75) hx hb dX11_numberAtRank_12 (by decide) (fun zc14 => ?_) (fun zc14 => ?_)
      · have hF := z_pos hF zc14
        refine lv_aload_n hx hb dX11_numberAtRank_75 rfl (lv_at hl 0 rfl) ?_
        refine lv_iconst (v := 1) hx hb dX11_numberAtRank_76 (by decide) ?_
        obtain ⟨zo15, hzo15, hF⟩ := z_bind hF
        refine z_calliE (fun (u : Int32) => (wModel g q0 q1 q2 q3 q4 q5 q6 q7 q8 q9 q10 q11 q12 mm masd msav misS mpst mchg merr mfai u minp minM mUp mcar mcam mahd magn mltr mbeg mcmd mcmM mpl msz mwr mlin mliM)) (va_runV (As := [.int 1]) (rest := []) ⟨hx, hb, hml, hown, hts⟩ (c_X11_throwing l g q0 q1 q2 q3 q4 q5 q6 q7 q8 q9 q10 q11 q12 mm masd msav misS mpst mchg merr mfai mthr minp minM mUp mcar mcam mahd magn mltr mbeg mcmd mcmM mpl msz mwr mlin mliM _ 1 _ hzo15) (cwV 1 hts (gdV mU_1352 mU_1354 mU_31 mU_75 mU_1355) rfl rfl rfl (by decide +kernel) ⟨Nat.le_of_ble_eq_true rfl, Nat.le_of_ble_eq_true rfl⟩) ⟨z_blind _ _ _ _, va_recv hK hP (ci := 7) (q0 := 0) rfl rfl, fun U hU hW => z_preE hP hD hK hB hS hA hU hW⟩ rfl rfl hl.1 rfl (lv_room (Nat.le_of_ble_eq_true rfl)) dX11_numberAtRank_77 ⟨Nat.le_of_ble_eq_true rfl, Nat.le_of_ble_eq_true rfl⟩) hD hS hA (fun _ => rfl) (fun r u H locs hw hP hD hS => ?_)
        obtain ⟨rfl, rfl⟩ := hw
        have hP : va_P (gD g) zCl (wModel g q0 q1 q2 q3 q4 q5 q6 q7 q8 q9 q10 q11 q12 mm masd msav misS mpst mchg merr mfai zo15.2 minp minM mUp mcar mcam mahd magn mltr mbeg mcmd mcmM mpl msz mwr mlin mliM) H := hP
        have hD : va_D A (wModel g q0 q1 q2 q3 q4 q5 q6 q7 q8 q9 q10 q11 q12 mm masd msav misS mpst mchg merr mfai zo15.2 minp minM mUp mcar mcam mahd magn mltr mbeg mcmd mcmM mpl msz mwr mlin mliM) := hD
        have ho := (Option.some.inj hF).symm
        exact W.iret (v := zo15.1) hx hb hr (fun t ht hW => ⟨⟨zo15.1, zo15.2, rfl, ⟨by rw [ho], by rw [ho]⟩, z_end ht hP⟩, hS.F ht⟩) hS.2.2 dX11_numberAtRank_80
      · have hF := z_neg hF zc14
        refine lv_iconst (v := 0) hx hb dX11_numberAtRank_15 (by decide) ?_
        refine lv_istore_n (lv' := [(3, .int 0), (0, .ref q0), (1, .int p1), (2, .int x2)]) hx hb dX11_numberAtRank_16 rfl hl (by decide) rfl (fun ls hl => ?_)
        refine lv_iconst (v := 0) hx hb dX11_numberAtRank_17 (by decide) ?_
        refine lv_istore (lv' := [(4, .int 0), (3, .int 0), (0, .ref q0), (1, .int p1), (2, .int x2)]) hx hb dX11_numberAtRank_18 hl (by decide) rfl (fun ls hl => ?_)
        exact K20 fu mthr x2 0 0 hF _ _ _ (lv_sub hl [2, 3, 4, 1, 0] rfl) hP hD hS
  refine lv_aload_n hx hb dX11_numberAtRank_0 rfl (lv_at hl 0 rfl) ?_
  refine lv_iconst (v := 0) hx hb dX11_numberAtRank_1 (by decide) ?_
  refine va_put (D := gD g) (ci := 7) (v := .int 0) (ty := .int) (C := RX11) (T := TX11) (N := 25) hx hb hts inX11 tyX11 tyX11_ok nmX11 hown hK hP hD hS 0 rfl rfl 8 (by decide) (hts _ mU_1252) (fun _ h9 => h9) rfl (by decide +kernel) rfl rfl (Nat.le_of_ble_eq_true rfl) dX11_numberAtRank_2 (fun H locs hP hD hS => ?_)
  have hP : va_P (gD g) zCl (wModel g q0 q1 q2 q3 q4 q5 q6 q7 q8 q9 q10 q11 q12 mm masd msav misS mpst mchg merr mfai 0 minp minM mUp mcar mcam mahd magn mltr mbeg mcmd mcmM mpl msz mwr mlin mliM) H := hP
  have hD : va_D A (wModel g q0 q1 q2 q3 q4 q5 q6 q7 q8 q9 q10 q11 q12 mm masd msav misS mpst mchg merr mfai 0 minp minM mUp mcar mcam mahd magn mltr mbeg mcmd mcmM mpl msz mwr mlin mliM) := hD
  refine lv_iconst (v := 0) hx hb dX11_numberAtRank_5 (by decide) ?_
  refine lv_istore_n (lv' := [(2, .int 0), (0, .ref q0), (1, .int p1)]) hx hb dX11_numberAtRank_6 rfl hl (by decide) rfl (fun ls hl => ?_)
  exact K7 fu 0 0 hF _ _ _ (lv_sub hl [1, 2, 0] rfl) hP hD hS
abbrev w_X11_rounded : List Cond := .code yX11_rounded cX11_rounded 6 (some .long) :: wU
abbrev r_X11_rounded : Room := { frames := 3, cells := 0, slots := 0, locals := 64 }
abbrev q_X11_rounded (g : GG) (q0 q1 q2 q3 q4 q5 q6 q7 q8 q9 q10 q11 q12 : Nat) (mm : Nat → Int64) (masd : Nat → Int64) (msav : Nat → Int64) (misS : Int32) (mpst : Nat → Int64) (mchg : Int32) (merr : Int32) (mfai : Int32) (mthr : Int32) (minp : Nat → Int32) (minM : Int32) (mUp : Nat → Int32) (mcar : Nat → Int32) (mcam : Nat → Int32) (mahd : Int32) (magn : Int32) (mltr : Nat → Int32) (mbeg : Nat → Int32) (mcmd : Nat → Int32) (mcmM : Int32) (mpl : Int32) (msz : Int32) (mwr : Int32) (mlin : Nat → Int32) (mliM : Int32) (o : Int64 × Int32) (A : Nat → Prop) := va_Ql (fun (r : Int64) (u : Int32) => o.1 = r ∧ o.2 = u) (fun u t => va_P (gD g) zCl (wModel g q0 q1 q2 q3 q4 q5 q6 q7 q8 q9 q10 q11 q12 mm masd msav misS mpst mchg merr mfai u minp minM mUp mcar mcam mahd magn mltr mbeg mcmd mcmM mpl msz mwr mlin mliM) t.heap) A
set_option maxHeartbeats 4000000 in
set_option maxRecDepth 100000 in
theorem c_X11_rounded (l : Launch) (g : GG) (q0 q1 q2 q3 q4 q5 q6 q7 q8 q9 q10 q11 q12 : Nat) (mm : Nat → Int64) (masd : Nat → Int64) (msav : Nat → Int64) (misS : Int32) (mpst : Nat → Int64) (mchg : Int32) (merr : Int32) (mfai : Int32) (mthr : Int32) (minp : Nat → Int32) (minM : Int32) (mUp : Nat → Int32) (mcar : Nat → Int32) (mcam : Nat → Int32) (mahd : Int32) (magn : Int32) (mltr : Nat → Int32) (mbeg : Nat → Int32) (mcmd : Nat → Int32) (mcmM : Int32) (mpl : Int32) (msz : Int32) (mwr : Int32) (mlin : Nat → Int32) (mliM : Int32) (sz : Nat) (p1 : Int32) (p2 : Int32) (p3 : Int32) (fu : Nat) (o : Int64 × Int32) (hF : F_X11_rounded fu mm mthr p1 p2 p3 = some o) : Met l yX11_rounded w_X11_rounded r_X11_rounded (va_Pc [.ref q0, .int p1, .int p2, .int p3] (zP g (wModel g q0 q1 q2 q3 q4 q5 q6 q7 q8 q9 q10 q11 q12 mm masd msav misS mpst mchg merr mfai mthr minp minM mUp mcar mcam mahd magn mltr mbeg mcmd mcmM mpl msz mwr mlin mliM) sz)) (q_X11_rounded g q0 q1 q2 q3 q4 q5 q6 q7 q8 q9 q10 q11 q12 mm masd msav misS mpst mchg merr mfai mthr minp minM mUp mcar mcam mahd magn mltr mbeg mcmd mcmM mpl msz mwr mlin mliM o (va_A (wModel g q0 q1 q2 q3 q4 q5 q6 q7 q8 q9 q10 q11 q12 mm masd msav misS mpst mchg merr mfai mthr minp minM mUp mcar mcam mahd magn mltr mbeg mcmd mcmM mpl msz mwr mlin mliM) sz)) 0 0 (va_A (wModel g q0 q1 q2 q3 q4 q5 q6 q7 q8 q9 q10 q11 q12 mm masd msav misS mpst mchg merr mfai mthr minp minM mUp mcar mcam mahd magn mltr mbeg mcmd mcmM mpl msz mwr mlin mliM) sz) := by
  refine Met.ofW (cc := cX11_rounded) (maxL := 6) (ret := (some .long)) (by decide) rfl ?_
  intro p e s m args below meth c s₁ B hml hv
  obtain ⟨rfl, rfl, hP, hK, hD0, hB⟩ := hv
  have hx := B.exec
  have hb := B.bytes
  have hr := B.returns
  have hts : ∀ w ∈ wU, w.before _ s = true := fun w h => atoms_spec (ws := w_X11_rounded) B.pre w (List.mem_cons_of_mem _ h)
  have hown : s.vm.findClass RX11 = some m.cls := findClass_of_methodNamed B.named
  have hlocks := B.notSynchronized
  have hD := hD0.self (sz := s.heap.size)
  generalize hAe : va_A (wModel g q0 q1 q2 q3 q4 q5 q6 q7 q8 q9 q10 q11 q12 mm masd msav misS mpst mchg merr mfai mthr minp minM mUp mcar mcam mahd magn mltr mbeg mcmd mcmM mpl msz mwr mlin mliM) s.heap.size = A at hD hB ⊢
  have hA : ∀ q : Nat, s.heap.size ≤ q → A q := fun q h => by rw [← hAe]; exact Or.inr h
  have hS : va_S A s.heap s.heap [] := va_S.rf
  have hl := lv_entry ([.ref q0, .int p1, .int p2, .int p3]) (n := 6) (Nat.le_of_ble_eq_true rfl)
  rw [lg_entry_eq]
  generalize (lg_sl ([.ref q0, .int p1, .int p2, .int p3]) ++ List.replicate (6 - (lg_sl ([.ref q0, .int p1, .int p2, .int p3])).length) Slot.unset).toArray = ls at hl ⊢
  have hl : lv_has ls 6 [(0, .ref q0), (1, .int p1), (2, .int p2), (3, .int p3)] := hl
  unfold F_X11_rounded at hF
  refine lv_aload_n hx hb dX11_rounded_0 rfl (lv_at hl 0 rfl) ?_
  refine lv_iload_n hx hb dX11_rounded_1 rfl (lv_at hl 1 rfl) ?_
  refine lv_iconst (v := 1) hx hb dX11_rounded_2 (by decide) ?_
  obtain ⟨zo1, hzo1, hF⟩ := z_bind hF
  refine z_calllE (fun (u : Int32) => (wModel g q0 q1 q2 q3 q4 q5 q6 q7 q8 q9 q10 q11 q12 mm masd msav misS mpst mchg merr mfai u minp minM mUp mcar mcam mahd magn mltr mbeg mcmd mcmM mpl msz mwr mlin mliM)) (va_runV (As := [.int p1, .int 1]) (rest := []) ⟨hx, hb, hml, hown, hts⟩ (c_X11_ofNumber l g q0 q1 q2 q3 q4 q5 q6 q7 q8 q9 q10 q11 q12 mm masd msav misS mpst mchg merr mfai mthr minp minM mUp mcar mcam mahd magn mltr mbeg mcmd mcmM mpl msz mwr mlin mliM _ p1 1 fu _ hzo1) (cwV 2 hts (gdV mU_1477 mU_1479 mU_47 mU_75 mU_1480) rfl rfl rfl (by decide +kernel) ⟨Nat.le_of_ble_eq_true rfl, Nat.le_of_ble_eq_true rfl⟩) ⟨z_blind _ _ _ _, va_recv hK hP (ci := 7) (q0 := 0) rfl rfl, fun U hU hW => z_preE hP hD hK hB hS hA hU hW⟩ rfl rfl hl.1 rfl (lv_room (Nat.le_of_ble_eq_true rfl)) dX11_rounded_3 ⟨Nat.le_of_ble_eq_true rfl, Nat.le_of_ble_eq_true rfl⟩) hD hS hA (fun _ => rfl) (fun r u H locs hw hP hD hS => ?_)
  obtain ⟨rfl, rfl⟩ := hw
  have hP : va_P (gD g) zCl (wModel g q0 q1 q2 q3 q4 q5 q6 q7 q8 q9 q10 q11 q12 mm masd msav misS mpst mchg merr mfai zo1.2 minp minM mUp mcar mcam mahd magn mltr mbeg mcmd mcmM mpl msz mwr mlin mliM) H := hP
  have hD : va_D A (wModel g q0 q1 q2 q3 q4 q5 q6 q7 q8 q9 q10 q11 q12 mm masd msav misS mpst mchg merr mfai zo1.2 minp minM mUp mcar mcam mahd magn mltr mbeg mcmd mcmM mpl msz mwr mlin mliM) := hD
  refine lv_lstore (lv' := [(4, .long zo1.1), (0, .ref q0), (1, .int p1), (2, .int p2), (3, .int p3)]) hx hb dX11_rounded_6 hl (by decide) rfl (fun ls hl => ?_)
  refine lv_aload_n hx hb dX11_rounded_8 rfl (lv_at hl 1 rfl) ?_
  refine va_get (D := gD g) (ci := 7) (v := .int zo1.2) (C := RX11) (T := TX11) (N := 25) hx hb hts inX11 hown hK hP 0 rfl rfl 8 (by decide) (hts _ mU_1252) (fun _ h9 => h9) rfl dX11_rounded_9 ?_
  refine lv_if_le (tgt := 19) hx hb dX11_rounded_12 (by decide) (fun zc2 => ?_) (fun zc2 => ?_)
  · have hF := z_pos hF zc2
    refine lv_iload_n hx hb dX11_rounded_19 rfl (lv_at hl 3 rfl) ?_
    obtain ⟨zo3, hzo3, hF⟩ := z_bind hF
    refine z_calli (fun (_ : Unit) => []) [] (va_runS (As := [.int p2]) (rest := []) ⟨hx, hb, hml, hown, hts⟩ (c_X11_isScale l g _ p2 _ hzo3) (va_cwS 1 hts (gdS mU_1345 mU_1346 mU_75 mU_1347) rfl rfl rfl (by decide +kernel) ⟨Nat.le_of_ble_eq_true rfl, Nat.le_of_ble_eq_true rfl⟩) ⟨z_blind _ _ _ _, fun U hU hW => z_pre [] hP hD hK hB hS hA rfl rfl hU hW⟩ rfl rfl hl.1 rfl (lv_room (Nat.le_of_ble_eq_true rfl)) dX11_rounded_20 ⟨Nat.le_of_ble_eq_true rfl, Nat.le_of_ble_eq_true rfl⟩) hP hD hS hA rfl (fun _ => rfl) (fun r u H locs hw hP hD hS => ?_)
    subst hw
    have hP : va_P (gD g) zCl (wModel g q0 q1 q2 q3 q4 q5 q6 q7 q8 q9 q10 q11 q12 mm masd msav misS mpst mchg merr mfai zo1.2 minp minM mUp mcar mcam mahd magn mltr mbeg mcmd mcmM mpl msz mwr mlin mliM) H := hP
    have hD : va_D A (wModel g q0 q1 q2 q3 q4 q5 q6 q7 q8 q9 q10 q11 q12 mm masd msav misS mpst mchg merr mfai zo1.2 minp minM mUp mcar mcam mahd magn mltr mbeg mcmd mcmM mpl msz mwr mlin mliM) := hD
    refine lv_if_eq (tgt := 43) hx hb dX11_rounded_23 (by decide) (fun zc4 => ?_) (fun zc4 => ?_)
    · have hF := z_pos hF zc4
      refine lv_aload_n hx hb dX11_rounded_43 rfl (lv_at hl 1 rfl) ?_
      refine lv_iconst (v := 2) hx hb dX11_rounded_44 (by decide) ?_
      obtain ⟨zo5, hzo5, hF⟩ := z_bind hF
      refine z_calliE (fun (u : Int32) => (wModel g q0 q1 q2 q3 q4 q5 q6 q7 q8 q9 q10 q11 q12 mm masd msav misS mpst mchg merr mfai u minp minM mUp mcar mcam mahd magn mltr mbeg mcmd mcmM mpl msz mwr mlin mliM)) (va_runV (As := [.int 2]) (rest := []) ⟨hx, hb, hml, hown, hts⟩ (c_X11_throwing l g q0 q1 q2 q3 q4 q5 q6 q7 q8 q9 q10 q11 q12 mm masd msav misS mpst mchg merr mfai zo1.2 minp minM mUp mcar mcam mahd magn mltr mbeg mcmd mcmM mpl msz mwr mlin mliM _ 2 _ hzo5) (cwV 1 hts (gdV mU_1352 mU_1354 mU_31 mU_75 mU_1355) rfl rfl rfl (by decide +kernel) ⟨Nat.le_of_ble_eq_true rfl, Nat.le_of_ble_eq_true rfl⟩) ⟨z_blind _ _ _ _, va_recv hK hP (ci := 7) (q0 := 0) rfl rfl, fun U hU hW => z_preE hP hD hK hB hS hA hU hW⟩ rfl rfl hl.1 rfl (lv_room (Nat.le_of_ble_eq_true rfl)) dX11_rounded_45 ⟨Nat.le_of_ble_eq_true rfl, Nat.le_of_ble_eq_true rfl⟩) hD hS hA (fun _ => rfl) (fun r u H locs hw hP hD hS => ?_)
      obtain ⟨rfl, rfl⟩ := hw
      have hP : va_P (gD g) zCl (wModel g q0 q1 q2 q3 q4 q5 q6 q7 q8 q9 q10 q11 q12 mm masd msav misS mpst mchg merr mfai zo5.2 minp minM mUp mcar mcam mahd magn mltr mbeg mcmd mcmM mpl msz mwr mlin mliM) H := hP
      have hD : va_D A (wModel g q0 q1 q2 q3 q4 q5 q6 q7 q8 q9 q10 q11 q12 mm masd msav misS mpst mchg merr mfai zo5.2 minp minM mUp mcar mcam mahd magn mltr mbeg mcmd mcmM mpl msz mwr mlin mliM) := hD
      refine lv_i2l (v := (Int32.toInt64 zo5.1)) hx hb dX11_rounded_48 rfl ?_
      have ho := (Option.some.inj hF).symm
      exact W.lret (v := (Int32.toInt64 zo5.1)) hx hb hr (fun t ht hW => ⟨⟨(Int32.toInt64 zo5.1), zo5.2, rfl, ⟨by rw [ho], by rw [ho]⟩, z_end ht hP⟩, hS.F ht⟩) hS.2.2 dX11_rounded_49
    · have hF := z_neg hF zc4
      refine lv_iload_n hx hb dX11_rounded_26 rfl (lv_at hl 4 rfl) ?_
      obtain ⟨zo6, hzo6, hF⟩ := z_bind hF
      refine z_calli (fun (_ : Unit) => []) [] (va_runS (As := [.int p3]) (rest := []) ⟨hx, hb, hml, hown, hts⟩ (c_X11_isMode l g _ p3 _ hzo6) (va_cwS 1 hts (gdS mU_1349 mU_1350 mU_75 mU_1351) rfl rfl rfl (by decide +kernel) ⟨Nat.le_of_ble_eq_true rfl, Nat.le_of_ble_eq_true rfl⟩) ⟨z_blind _ _ _ _, fun U hU hW => z_pre [] hP hD hK hB hS hA rfl rfl hU hW⟩ rfl rfl hl.1 rfl (lv_room (Nat.le_of_ble_eq_true rfl)) dX11_rounded_27 ⟨Nat.le_of_ble_eq_true rfl, Nat.le_of_ble_eq_true rfl⟩) hP hD hS hA rfl (fun _ => rfl) (fun r u H locs hw hP hD hS => ?_)
      subst hw
      have hP : va_P (gD g) zCl (wModel g q0 q1 q2 q3 q4 q5 q6 q7 q8 q9 q10 q11 q12 mm masd msav misS mpst mchg merr mfai zo1.2 minp minM mUp mcar mcam mahd magn mltr mbeg mcmd mcmM mpl msz mwr mlin mliM) H := hP
      have hD : va_D A (wModel g q0 q1 q2 q3 q4 q5 q6 q7 q8 q9 q10 q11 q12 mm masd msav misS mpst mchg merr mfai zo1.2 minp minM mUp mcar mcam mahd magn mltr mbeg mcmd mcmM mpl msz mwr mlin mliM) := hD
      refine lv_if_eq (tgt := 43) hx hb dX11_rounded_30 (by decide) (fun zc7 => ?_) (fun zc7 => ?_)
      · have hF := z_pos hF zc7
        refine lv_aload_n hx hb dX11_rounded_43 rfl (lv_at hl 1 rfl) ?_
        refine lv_iconst (v := 2) hx hb dX11_rounded_44 (by decide) ?_
        obtain ⟨zo8, hzo8, hF⟩ := z_bind hF
        refine z_calliE (fun (u : Int32) => (wModel g q0 q1 q2 q3 q4 q5 q6 q7 q8 q9 q10 q11 q12 mm masd msav misS mpst mchg merr mfai u minp minM mUp mcar mcam mahd magn mltr mbeg mcmd mcmM mpl msz mwr mlin mliM)) (va_runV (As := [.int 2]) (rest := []) ⟨hx, hb, hml, hown, hts⟩ (c_X11_throwing l g q0 q1 q2 q3 q4 q5 q6 q7 q8 q9 q10 q11 q12 mm masd msav misS mpst mchg merr mfai zo1.2 minp minM mUp mcar mcam mahd magn mltr mbeg mcmd mcmM mpl msz mwr mlin mliM _ 2 _ hzo8) (cwV 1 hts (gdV mU_1352 mU_1354 mU_31 mU_75 mU_1355) rfl rfl rfl (by decide +kernel) ⟨Nat.le_of_ble_eq_true rfl, Nat.le_of_ble_eq_true rfl⟩) ⟨z_blind _ _ _ _, va_recv hK hP (ci := 7) (q0 := 0) rfl rfl, fun U hU hW => z_preE hP hD hK hB hS hA hU hW⟩ rfl rfl hl.1 rfl (lv_room (Nat.le_of_ble_eq_true rfl)) dX11_rounded_45 ⟨Nat.le_of_ble_eq_true rfl, Nat.le_of_ble_eq_true rfl⟩) hD hS hA (fun _ => rfl) (fun r u H locs hw hP hD hS => ?_)
        obtain ⟨rfl, rfl⟩ := hw
        have hP : va_P (gD g) zCl (wModel g q0 q1 q2 q3 q4 q5 q6 q7 q8 q9 q10 q11 q12 mm masd msav misS mpst mchg merr mfai zo8.2 minp minM mUp mcar mcam mahd magn mltr mbeg mcmd mcmM mpl msz mwr mlin mliM) H := hP
        have hD : va_D A (wModel g q0 q1 q2 q3 q4 q5 q6 q7 q8 q9 q10 q11 q12 mm masd msav misS mpst mchg merr mfai zo8.2 minp minM mUp mcar mcam mahd magn mltr mbeg mcmd mcmM mpl msz mwr mlin mliM) := hD
        refine lv_i2l (v := (Int32.toInt64 zo8.1)) hx hb dX11_rounded_48 rfl ?_
        have ho := (Option.some.inj hF).symm
        exact W.lret (v := (Int32.toInt64 zo8.1)) hx hb hr (fun t ht hW => ⟨⟨(Int32.toInt64 zo8.1), zo8.2, rfl, ⟨by rw [ho], by rw [ho]⟩, z_end ht hP⟩, hS.F ht⟩) hS.2.2 dX11_rounded_49
      · have hF := z_neg hF zc7
        refine lv_lload hx hb dX11_rounded_33 (lv_at hl 0 rfl) ?_
        refine lv_iload_n hx hb dX11_rounded_35 rfl (lv_at hl 3 rfl) ?_
        refine lv_iload_n hx hb dX11_rounded_36 rfl (lv_at hl 4 rfl) ?_
        obtain ⟨zo9, hzo9, hF⟩ := z_bind hF
        refine z_calll (fun (_ : Unit) => []) [] (va_runS (As := [.long zo1.1, .int p2, .int p3]) (rest := []) ⟨hx, hb, hml, hown, hts⟩ (c_X11_round l g _ zo1.1 p2 p3 fu _ hzo9) (va_cwS 3 hts (gdS mU_1416 mU_1417 mU_75 mU_1418) rfl rfl rfl (by decide +kernel) ⟨Nat.le_of_ble_eq_true rfl, Nat.le_of_ble_eq_true rfl⟩) ⟨z_blind _ _ _ _, fun U hU hW => z_pre [] hP hD hK hB hS hA rfl rfl hU hW⟩ rfl rfl hl.1 rfl (lv_room (Nat.le_of_ble_eq_true rfl)) dX11_rounded_37 ⟨Nat.le_of_ble_eq_true rfl, Nat.le_of_ble_eq_true rfl⟩) hP hD hS hA rfl (fun _ => rfl) (fun r u H locs hw hP hD hS => ?_)
        subst hw
        have hP : va_P (gD g) zCl (wModel g q0 q1 q2 q3 q4 q5 q6 q7 q8 q9 q10 q11 q12 mm masd msav misS mpst mchg merr mfai zo1.2 minp minM mUp mcar mcam mahd magn mltr mbeg mcmd mcmM mpl msz mwr mlin mliM) H := hP
        have hD : va_D A (wModel g q0 q1 q2 q3 q4 q5 q6 q7 q8 q9 q10 q11 q12 mm masd msav misS mpst mchg merr mfai zo1.2 minp minM mUp mcar mcam mahd magn mltr mbeg mcmd mcmM mpl msz mwr mlin mliM) := hD
        refine lv_goto (tgt := 49) hx hb dX11_rounded_40 (by decide) ?_
        have ho := (Option.some.inj hF).symm
        exact W.lret (v := zo9) hx hb hr (fun t ht hW => ⟨⟨zo9, zo1.2, rfl, ⟨by rw [ho], by rw [ho]⟩, z_end ht hP⟩, hS.F ht⟩) hS.2.2 dX11_rounded_49
  · have hF := z_neg hF zc2
    refine lv_ldc2 (v := (-1)) hx hb hown (hts _ mU_1514) dX11_rounded_15 ?_
    have ho := (Option.some.inj hF).symm
    exact W.lret (v := (-1)) hx hb hr (fun t ht hW => ⟨⟨(-1), zo1.2, rfl, ⟨by rw [ho], by rw [ho]⟩, z_end ht hP⟩, hS.F ht⟩) hS.2.2 dX11_rounded_18
abbrev w_X11_part : List Cond := .code yX11_part cX11_part 10 (some .long) :: wU
abbrev r_X11_part : Room := { frames := 3, cells := 0, slots := 0, locals := 64 }
abbrev q_X11_part (g : GG) (q0 q1 q2 q3 q4 q5 q6 q7 q8 q9 q10 q11 q12 : Nat) (mm : Nat → Int64) (masd : Nat → Int64) (msav : Nat → Int64) (misS : Int32) (mpst : Nat → Int64) (mchg : Int32) (merr : Int32) (mfai : Int32) (mthr : Int32) (minp : Nat → Int32) (minM : Int32) (mUp : Nat → Int32) (mcar : Nat → Int32) (mcam : Nat → Int32) (mahd : Int32) (magn : Int32) (mltr : Nat → Int32) (mbeg : Nat → Int32) (mcmd : Nat → Int32) (mcmM : Int32) (mpl : Int32) (msz : Int32) (mwr : Int32) (mlin : Nat → Int32) (mliM : Int32) (o : Int64 × Int32) (A : Nat → Prop) := va_Ql (fun (r : Int64) (u : Int32) => o.1 = r ∧ o.2 = u) (fun u t => va_P (gD g) zCl (wModel g q0 q1 q2 q3 q4 q5 q6 q7 q8 q9 q10 q11 q12 mm masd msav misS mpst mchg merr mfai u minp minM mUp mcar mcam mahd magn mltr mbeg mcmd mcmM mpl msz mwr mlin mliM) t.heap) A
set_option maxHeartbeats 4000000 in
set_option maxRecDepth 100000 in
theorem c_X11_part (l : Launch) (g : GG) (q0 q1 q2 q3 q4 q5 q6 q7 q8 q9 q10 q11 q12 : Nat) (mm : Nat → Int64) (masd : Nat → Int64) (msav : Nat → Int64) (misS : Int32) (mpst : Nat → Int64) (mchg : Int32) (merr : Int32) (mfai : Int32) (mthr : Int32) (minp : Nat → Int32) (minM : Int32) (mUp : Nat → Int32) (mcar : Nat → Int32) (mcam : Nat → Int32) (mahd : Int32) (magn : Int32) (mltr : Nat → Int32) (mbeg : Nat → Int32) (mcmd : Nat → Int32) (mcmM : Int32) (mpl : Int32) (msz : Int32) (mwr : Int32) (mlin : Nat → Int32) (mliM : Int32) (sz : Nat) (p1 : Int32) (p2 : Int32) (p3 : Int32) (fu : Nat) (o : Int64 × Int32) (hF : F_X11_part fu mm mthr p1 p2 p3 = some o) : Met l yX11_part w_X11_part r_X11_part (va_Pc [.ref q0, .int p1, .int p2, .int p3] (zP g (wModel g q0 q1 q2 q3 q4 q5 q6 q7 q8 q9 q10 q11 q12 mm masd msav misS mpst mchg merr mfai mthr minp minM mUp mcar mcam mahd magn mltr mbeg mcmd mcmM mpl msz mwr mlin mliM) sz)) (q_X11_part g q0 q1 q2 q3 q4 q5 q6 q7 q8 q9 q10 q11 q12 mm masd msav misS mpst mchg merr mfai mthr minp minM mUp mcar mcam mahd magn mltr mbeg mcmd mcmM mpl msz mwr mlin mliM o (va_A (wModel g q0 q1 q2 q3 q4 q5 q6 q7 q8 q9 q10 q11 q12 mm masd msav misS mpst mchg merr mfai mthr minp minM mUp mcar mcam mahd magn mltr mbeg mcmd mcmM mpl msz mwr mlin mliM) sz)) 0 0 (va_A (wModel g q0 q1 q2 q3 q4 q5 q6 q7 q8 q9 q10 q11 q12 mm masd msav misS mpst mchg merr mfai mthr minp minM mUp mcar mcam mahd magn mltr mbeg mcmd mcmM mpl msz mwr mlin mliM) sz) := by
  refine Met.ofW (cc := cX11_part) (maxL := 10) (ret := (some .long)) (by decide) rfl ?_
  intro p e s m args below meth c s₁ B hml hv
  obtain ⟨rfl, rfl, hP, hK, hD0, hB⟩ := hv
  have hx := B.exec
  have hb := B.bytes
  have hr := B.returns
  have hts : ∀ w ∈ wU, w.before _ s = true := fun w h => atoms_spec (ws := w_X11_part) B.pre w (List.mem_cons_of_mem _ h)
  have hown : s.vm.findClass RX11 = some m.cls := findClass_of_methodNamed B.named
  have hlocks := B.notSynchronized
  have hD := hD0.self (sz := s.heap.size)
  generalize hAe : va_A (wModel g q0 q1 q2 q3 q4 q5 q6 q7 q8 q9 q10 q11 q12 mm masd msav misS mpst mchg merr mfai mthr minp minM mUp mcar mcam mahd magn mltr mbeg mcmd mcmM mpl msz mwr mlin mliM) s.heap.size = A at hD hB ⊢
  have hA : ∀ q : Nat, s.heap.size ≤ q → A q := fun q h => by rw [← hAe]; exact Or.inr h
  have hS : va_S A s.heap s.heap [] := va_S.rf
  have hl := lv_entry ([.ref q0, .int p1, .int p2, .int p3]) (n := 10) (Nat.le_of_ble_eq_true rfl)
  rw [lg_entry_eq]
  generalize (lg_sl ([.ref q0, .int p1, .int p2, .int p3]) ++ List.replicate (10 - (lg_sl ([.ref q0, .int p1, .int p2, .int p3])).length) Slot.unset).toArray = ls at hl ⊢
  have hl : lv_has ls 10 [(0, .ref q0), (1, .int p1), (2, .int p2), (3, .int p3)] := hl
  unfold F_X11_part at hF
  refine lv_aload_n hx hb dX11_part_0 rfl (lv_at hl 0 rfl) ?_
  refine lv_iload_n hx hb dX11_part_1 rfl (lv_at hl 1 rfl) ?_
  refine lv_iconst (v := 1) hx hb dX11_part_2 (by decide) ?_
  obtain ⟨zo1, hzo1, hF⟩ := z_bind hF
  refine z_calllE (fun (u : Int32) => (wModel g q0 q1 q2 q3 q4 q5 q6 q7 q8 q9 q10 q11 q12 mm masd msav misS mpst mchg merr mfai u minp minM mUp mcar mcam mahd magn mltr mbeg mcmd mcmM mpl msz mwr mlin mliM)) (va_runV (As := [.int p1, .int 1]) (rest := []) ⟨hx, hb, hml, hown, hts⟩ (c_X11_ofNumber l g q0 q1 q2 q3 q4 q5 q6 q7 q8 q9 q10 q11 q12 mm masd msav misS mpst mchg merr mfai mthr minp minM mUp mcar mcam mahd magn mltr mbeg mcmd mcmM mpl msz mwr mlin mliM _ p1 1 fu _ hzo1) (cwV 2 hts (gdV mU_1477 mU_1479 mU_47 mU_75 mU_1480) rfl rfl rfl (by decide +kernel) ⟨Nat.le_of_ble_eq_true rfl, Nat.le_of_ble_eq_true rfl⟩) ⟨z_blind _ _ _ _, va_recv hK hP (ci := 7) (q0 := 0) rfl rfl, fun U hU hW => z_preE hP hD hK hB hS hA hU hW⟩ rfl rfl hl.1 rfl (lv_room (Nat.le_of_ble_eq_true rfl)) dX11_part_3 ⟨Nat.le_of_ble_eq_true rfl, Nat.le_of_ble_eq_true rfl⟩) hD hS hA (fun _ => rfl) (fun r u H locs hw hP hD hS => ?_)
  obtain ⟨rfl, rfl⟩ := hw
  have hP : va_P (gD g) zCl (wModel g q0 q1 q2 q3 q4 q5 q6 q7 q8 q9 q10 q11 q12 mm masd msav misS mpst mchg merr mfai zo1.2 minp minM mUp mcar mcam mahd magn mltr mbeg mcmd mcmM mpl msz mwr mlin mliM) H := hP
  have hD : va_D A (wModel g q0 q1 q2 q3 q4 q5 q6 q7 q8 q9 q10 q11 q12 mm masd msav misS mpst mchg merr mfai zo1.2 minp minM mUp mcar mcam mahd magn mltr mbeg mcmd mcmM mpl msz mwr mlin mliM) := hD
  refine lv_lstore (lv' := [(4, .long zo1.1), (0, .ref q0), (1, .int p1), (2, .int p2), (3, .int p3)]) hx hb dX11_part_6 hl (by decide) rfl (fun ls hl => ?_)
  refine lv_aload_n hx hb dX11_part_8 rfl (lv_at hl 1 rfl) ?_
  refine va_get (D := gD g) (ci := 7) (v := .int zo1.2) (C := RX11) (T := TX11) (N := 25) hx hb hts inX11 hown hK hP 0 rfl rfl 8 (by decide) (hts _ mU_1252) (fun _ h9 => h9) rfl dX11_part_9 ?_
  refine lv_if_le (tgt := 19) hx hb dX11_part_12 (by decide) (fun zc2 => ?_) (fun zc2 => ?_)
  · have hF := z_pos hF zc2
    refine lv_iload_n hx hb dX11_part_19 rfl (lv_at hl 3 rfl) ?_
    refine lv_i2l (v := (Int32.toInt64 p2)) hx hb dX11_part_20 rfl ?_
    refine lv_lconst (v := 1) hx hb dX11_part_21 (by decide) ?_
    refine lv_ldc2 (v := 9) hx hb hown (hts _ mU_1519) dX11_part_22 ?_
    obtain ⟨zo3, hzo3, hF⟩ := z_bind hF
    refine z_calli (fun (_ : Unit) => []) [] (va_runS (As := [.long (Int32.toInt64 p2), .long 1, .long 9]) (rest := []) ⟨hx, hb, hml, hown, hts⟩ (c_X11_in l g _ (Int32.toInt64 p2) 1 9 _ hzo3) (va_cwS 3 hts (gdS mU_1341 mU_1342 mU_75 mU_1343) rfl rfl rfl (by decide +kernel) ⟨Nat.le_of_ble_eq_true rfl, Nat.le_of_ble_eq_true rfl⟩) ⟨z_blind _ _ _ _, fun U hU hW => z_pre [] hP hD hK hB hS hA rfl rfl hU hW⟩ rfl rfl hl.1 rfl (lv_room (Nat.le_of_ble_eq_true rfl)) dX11_part_25 ⟨Nat.le_of_ble_eq_true rfl, Nat.le_of_ble_eq_true rfl⟩) hP hD hS hA rfl (fun _ => rfl) (fun r u H locs hw hP hD hS => ?_)
    subst hw
    have hP : va_P (gD g) zCl (wModel g q0 q1 q2 q3 q4 q5 q6 q7 q8 q9 q10 q11 q12 mm masd msav misS mpst mchg merr mfai zo1.2 minp minM mUp mcar mcam mahd magn mltr mbeg mcmd mcmM mpl msz mwr mlin mliM) H := hP
    have hD : va_D A (wModel g q0 q1 q2 q3 q4 q5 q6 q7 q8 q9 q10 q11 q12 mm masd msav misS mpst mchg merr mfai zo1.2 minp minM mUp mcar mcam mahd magn mltr mbeg mcmd mcmM mpl msz mwr mlin mliM) := hD
    refine lv_if_ne (tgt := 38) hx hb dX11_part_28 (by decide) (fun zc4 => ?_) (fun zc4 => ?_)
    · have hF := z_neg hF zc4
      refine lv_iload_n hx hb dX11_part_38 rfl (lv_at hl 4 rfl) ?_
      refine lv_i2l (v := (Int32.toInt64 p3)) hx hb dX11_part_39 rfl ?_
      refine lv_lconst (v := 0) hx hb dX11_part_40 (by decide) ?_
      refine lv_iload_n hx hb dX11_part_41 rfl (lv_at hl 3 rfl) ?_
      refine lv_iconst (v := 1) hx hb dX11_part_42 (by decide) ?_
      refine lv_isub hx hb dX11_part_43 ?_
      refine lv_i2l (v := (Int32.toInt64 (p2 - 1))) hx hb dX11_part_44 rfl ?_
      obtain ⟨zo5, hzo5, hF⟩ := z_bind hF
      refine z_calli (fun (_ : Unit) => []) [] (va_runS (As := [.long (Int32.toInt64 p3), .long 0, .long (Int32.toInt64 (p2 - 1))]) (rest := []) ⟨hx, hb, hml, hown, hts⟩ (c_X11_in l g _ (Int32.toInt64 p3) 0 (Int32.toInt64 (p2 - 1)) _ hzo5) (va_cwS 3 hts (gdS mU_1341 mU_1342 mU_75 mU_1343) rfl rfl rfl (by decide +kernel) ⟨Nat.le_of_ble_eq_true rfl, Nat.le_of_ble_eq_true rfl⟩) ⟨z_blind _ _ _ _, fun U hU hW => z_pre [] hP hD hK hB hS hA rfl rfl hU hW⟩ rfl rfl hl.1 rfl (lv_room (Nat.le_of_ble_eq_true rfl)) dX11_part_45 ⟨Nat.le_of_ble_eq_true rfl, Nat.le_of_ble_eq_true rfl⟩) hP hD hS hA rfl (fun _ => rfl) (fun r u H locs hw hP hD hS => ?_)
      subst hw
      have hP : va_P (gD g) zCl (wModel g q0 q1 q2 q3 q4 q5 q6 q7 q8 q9 q10 q11 q12 mm masd msav misS mpst mchg merr mfai zo1.2 minp minM mUp mcar mcam mahd magn mltr mbeg mcmd mcmM mpl msz mwr mlin mliM) H := hP
      have hD : va_D A (wModel g q0 q1 q2 q3 q4 q5 q6 q7 q8 q9 q10 q11 q12 mm masd msav misS mpst mchg merr mfai zo1.2 minp minM mUp mcar mcam mahd magn mltr mbeg mcmd mcmM mpl msz mwr mlin mliM) := hD
      refine lv_if_ne (tgt := 58) hx hb dX11_part_48 (by decide) (fun zc6 => ?_) (fun zc6 => ?_)
      · have hF := z_neg hF zc6
        refine lv_aload_n hx hb dX11_part_58 rfl (lv_at hl 1 rfl) ?_
        refine va_get (D := gD g) (ci := 7) (v := .ref q1) (C := RX11) (T := TX11) (N := 25) hx hb hts inX11 hown hK hP 0 rfl rfl 0 (by decide) (hts _ mU_1244) (fun _ h9 => h9) rfl dX11_part_59 ?_
        refine lv_aload_n hx hb dX11_part_62 rfl (lv_at hl 1 rfl) ?_
        refine lv_iload_n hx hb dX11_part_63 rfl (lv_at hl 2 rfl) ?_
        obtain ⟨zo7, hzo7, hF⟩ := z_bind hF
        refine z_calliE (fun (_ : Unit) => (wModel g q0 q1 q2 q3 q4 q5 q6 q7 q8 q9 q10 q11 q12 mm masd msav misS mpst mchg merr mfai zo1.2 minp minM mUp mcar mcam mahd magn mltr mbeg mcmd mcmM mpl msz mwr mlin mliM)) (va_runV (As := [.int p1]) (rest := [.ref q1]) ⟨hx, hb, hml, hown, hts⟩ (c_X11_find l g q0 q1 q2 q3 q4 q5 q6 q7 q8 q9 q10 q11 q12 mm masd msav misS mpst mchg merr mfai zo1.2 minp minM mUp mcar mcam mahd magn mltr mbeg mcmd mcmM mpl msz mwr mlin mliM _ p1 fu _ hzo7) (cwV 1 hts (gdV mU_1400 mU_1402 mU_37 mU_75 mU_1403) rfl rfl rfl (by decide +kernel) ⟨Nat.le_of_ble_eq_true rfl, Nat.le_of_ble_eq_true rfl⟩) ⟨z_blind _ _ _ _, va_recv hK hP (ci := 7) (q0 := 0) rfl rfl, fun U hU hW => z_preE hP hD hK hB hS hA hU hW⟩ rfl rfl hl.1 rfl (lv_room (Nat.le_of_ble_eq_true rfl)) dX11_part_64 ⟨Nat.le_of_ble_eq_true rfl, Nat.le_of_ble_eq_true rfl⟩) hD hS hA (fun _ => rfl) (fun r u H locs hw hP hD hS => ?_)
        subst hw
        have hP : va_P (gD g) zCl (wModel g q0 q1 q2 q3 q4 q5 q6 q7 q8 q9 q10 q11 q12 mm masd msav misS mpst mchg merr mfai zo1.2 minp minM mUp mcar mcam mahd magn mltr mbeg mcmd mcmM mpl msz mwr mlin mliM) H := hP
        have hD : va_D A (wModel g q0 q1 q2 q3 q4 q5 q6 q7 q8 q9 q10 q11 q12 mm masd msav misS mpst mchg merr mfai zo1.2 minp minM mUp mcar mcam mahd magn mltr mbeg mcmd mcmM mpl msz mwr mlin mliM) := hD
        obtain ⟨zo8, hzo8, hF⟩ := z_bind hF
        refine z_calli (fun (_ : Unit) => []) [] (va_runS (As := [.int zo7]) (rest := [.ref q1]) ⟨hx, hb, hml, hown, hts⟩ (c_X11_at l g _ zo7 _ hzo8) (va_cwS 1 hts (gdS mU_1372 mU_1373 mU_75 mU_1374) rfl rfl rfl (by decide +kernel) ⟨Nat.le_of_ble_eq_true rfl, Nat.le_of_ble_eq_true rfl⟩) ⟨z_blind _ _ _ _, fun U hU hW => z_pre [] hP hD hK hB hS hA rfl rfl hU hW⟩ rfl rfl hl.1 rfl (lv_room (Nat.le_of_ble_eq_true rfl)) dX11_part_67 ⟨Nat.le_of_ble_eq_true rfl, Nat.le_of_ble_eq_true rfl⟩) hP hD hS hA rfl (fun _ => rfl) (fun r u H locs hw hP hD hS => ?_)
        subst hw
        have hP : va_P (gD g) zCl (wModel g q0 q1 q2 q3 q4 q5 q6 q7 q8 q9 q10 q11 q12 mm masd msav misS mpst mchg merr mfai zo1.2 minp minM mUp mcar mcam mahd magn mltr mbeg mcmd mcmM mpl msz mwr mlin mliM) H := hP
        have hD : va_D A (wModel g q0 q1 q2 q3 q4 q5 q6 q7 q8 q9 q10 q11 q12 mm masd msav misS mpst mchg merr mfai zo1.2 minp minM mUp mcar mcam mahd magn mltr mbeg mcmd mcmM mpl msz mwr mlin mliM) := hD
        refine lv_iconst (v := 2) hx hb dX11_part_70 (by decide) ?_
        refine lv_iadd hx hb dX11_part_71 ?_
        obtain ⟨zg9, hF⟩ := z_grd hF
        refine va_lald hx hb hK hP 1 2 rfl rfl zg9 dX11_part_72 ?_
        refine lv_l2i (v := (Int64.toInt32 (mm (Int32.toNatClampNeg (zo8 + 2))))) hx hb dX11_part_73 rfl ?_
        obtain ⟨zo10, hzo10, hF⟩ := z_bind hF
        refine z_calll (fun (_ : Unit) => []) [] (va_runS (As := [.int (Int64.toInt32 (mm (Int32.toNatClampNeg (zo8 + 2))))]) (rest := []) ⟨hx, hb, hml, hown, hts⟩ (c_X11_step l g _ (Int64.toInt32 (mm (Int32.toNatClampNeg (zo8 + 2)))) fu _ hzo10) (va_cwS 1 hts (gdS mU_1364 mU_1365 mU_75 mU_1366) rfl rfl rfl (by decide +kernel) ⟨Nat.le_of_ble_eq_true rfl, Nat.le_of_ble_eq_true rfl⟩) ⟨z_blind _ _ _ _, fun U hU hW => z_pre [] hP hD hK hB hS hA rfl rfl hU hW⟩ rfl rfl hl.1 rfl (lv_room (Nat.le_of_ble_eq_true rfl)) dX11_part_74 ⟨Nat.le_of_ble_eq_true rfl, Nat.le_of_ble_eq_true rfl⟩) hP hD hS hA rfl (fun _ => rfl) (fun r u H locs hw hP hD hS => ?_)
        subst hw
        have hP : va_P (gD g) zCl (wModel g q0 q1 q2 q3 q4 q5 q6 q7 q8 q9 q10 q11 q12 mm masd msav misS mpst mchg merr mfai zo1.2 minp minM mUp mcar mcam mahd magn mltr mbeg mcmd mcmM mpl msz mwr mlin mliM) H := hP
        have hD : va_D A (wModel g q0 q1 q2 q3 q4 q5 q6 q7 q8 q9 q10 q11 q12 mm masd msav misS mpst mchg merr mfai zo1.2 minp minM mUp mcar mcam mahd magn mltr mbeg mcmd mcmM mpl msz mwr mlin mliM) := hD
        refine lv_lstore (lv' := [(6, .long zo10), (4, .long zo1.1), (0, .ref q0), (1, .int p1), (2, .int p2), (3, .int p3)]) hx hb dX11_part_77 hl (by decide) rfl (fun ls hl => ?_)
        refine lv_lload hx hb dX11_part_79 (lv_at hl 1 rfl) ?_
        refine lv_lload hx hb dX11_part_81 (lv_at hl 0 rfl) ?_
        obtain ⟨zg11, hF⟩ := z_grd hF
        refine lv_ldiv hx hb dX11_part_83 zg11 ?_
        obtain ⟨zv12, ezv12, hF⟩ := z_let hF
        refine z_topl ezv12 ?_
        refine lv_lstore (lv' := [(8, .long zv12), (6, .long zo10), (4, .long zo1.1), (0, .ref q0), (1, .int p1), (2, .int p2), (3, .int p3)]) hx hb dX11_part_84 hl (by decide) rfl (fun ls hl => ?_)
        refine lv_lload hx hb dX11_part_86 (lv_at hl 1 rfl) ?_
        refine lv_lload hx hb dX11_part_88 (lv_at hl 0 rfl) ?_
        refine lv_iload_n hx hb dX11_part_90 rfl (lv_at hl 5 rfl) ?_
        refine lv_i2l (v := (Int32.toInt64 p2)) hx hb dX11_part_91 rfl ?_
        obtain ⟨zg13, hF⟩ := z_grd hF
        refine lv_ldiv hx hb dX11_part_92 zg13 ?_
        refine lv_iload_n hx hb dX11_part_93 rfl (lv_at hl 6 rfl) ?_
        refine lv_i2l (v := (Int32.toInt64 p3)) hx hb dX11_part_94 rfl ?_
        refine lv_lload hx hb dX11_part_95 (lv_at hl 0 rfl) ?_
        refine lv_iload_n hx hb dX11_part_97 rfl (lv_at hl 5 rfl) ?_
        refine lv_i2l (v := (Int32.toInt64 p2)) hx hb dX11_part_98 rfl ?_
        obtain ⟨zg14, hF⟩ := z_grd hF
        refine lv_lrem hx hb dX11_part_99 zg14 ?_
        refine z_lcmp_ge (tgt := 108) hx hb dX11_part_100 dX11_part_101 (by decide) (fun zc15 => ?_) (fun zc15 => ?_)
        · have hF := z_neg hF zc15
          refine lv_iconst (v := 0) hx hb dX11_part_108 (by decide) ?_
          refine lv_i2l (v := (Int32.toInt64 0)) hx hb dX11_part_109 rfl ?_
          refine lv_ladd hx hb dX11_part_110 ?_
          refine lv_lmul hx hb dX11_part_111 ?_
          have ho := (Option.some.inj hF).symm
          exact W.lret (v := (zo10 * ((zv12 / (Int32.toInt64 p2)) + (Int32.toInt64 0)))) hx hb hr (fun t ht hW => ⟨⟨(zo10 * ((zv12 / (Int32.toInt64 p2)) + (Int32.toInt64 0))), zo1.2, rfl, ⟨by rw [ho], by rw [ho]⟩, z_end ht hP⟩, hS.F ht⟩) hS.2.2 dX11_part_112
        · have hF := z_pos hF zc15
          refine lv_iconst (v := 1) hx hb dX11_part_104 (by decide) ?_
          refine lv_goto (tgt := 109) hx hb dX11_part_105 (by decide) ?_
          refine lv_i2l (v := (Int32.toInt64 1)) hx hb dX11_part_109 rfl ?_
          refine lv_ladd hx hb dX11_part_110 ?_
          refine lv_lmul hx hb dX11_part_111 ?_
          have ho := (Option.some.inj hF).symm
          exact W.lret (v := (zo10 * ((zv12 / (Int32.toInt64 p2)) + (Int32.toInt64 1)))) hx hb hr (fun t ht hW => ⟨⟨(zo10 * ((zv12 / (Int32.toInt64 p2)) + (Int32.toInt64 1))), zo1.2, rfl, ⟨by rw [ho], by rw [ho]⟩, z_end ht hP⟩, hS.F ht⟩) hS.2.2 dX11_part_112
      · have hF := z_pos hF zc6
        refine lv_aload_n hx hb dX11_part_51 rfl (lv_at hl 1 rfl) ?_
        refine lv_iconst (v := 3) hx hb dX11_part_52 (by decide) ?_
        obtain ⟨zo16, hzo16, hF⟩ := z_bind hF
        refine z_calliE (fun (u : Int32) => (wModel g q0 q1 q2 q3 q4 q5 q6 q7 q8 q9 q10 q11 q12 mm masd msav misS mpst mchg merr mfai u minp minM mUp mcar mcam mahd magn mltr mbeg mcmd mcmM mpl msz mwr mlin mliM)) (va_runV (As := [.int 3]) (rest := []) ⟨hx, hb, hml, hown, hts⟩ (c_X11_throwing l g q0 q1 q2 q3 q4 q5 q6 q7 q8 q9 q10 q11 q12 mm masd msav misS mpst mchg merr mfai zo1.2 minp minM mUp mcar mcam mahd magn mltr mbeg mcmd mcmM mpl msz mwr mlin mliM _ 3 _ hzo16) (cwV 1 hts (gdV mU_1352 mU_1354 mU_31 mU_75 mU_1355) rfl rfl rfl (by decide +kernel) ⟨Nat.le_of_ble_eq_true rfl, Nat.le_of_ble_eq_true rfl⟩) ⟨z_blind _ _ _ _, va_recv hK hP (ci := 7) (q0 := 0) rfl rfl, fun U hU hW => z_preE hP hD hK hB hS hA hU hW⟩ rfl rfl hl.1 rfl (lv_room (Nat.le_of_ble_eq_true rfl)) dX11_part_53 ⟨Nat.le_of_ble_eq_true rfl, Nat.le_of_ble_eq_true rfl⟩) hD hS hA (fun _ => rfl) (fun r u H locs hw hP hD hS => ?_)
        obtain ⟨rfl, rfl⟩ := hw
        have hP : va_P (gD g) zCl (wModel g q0 q1 q2 q3 q4 q5 q6 q7 q8 q9 q10 q11 q12 mm masd msav misS mpst mchg merr mfai zo16.2 minp minM mUp mcar mcam mahd magn mltr mbeg mcmd mcmM mpl msz mwr mlin mliM) H := hP
        have hD : va_D A (wModel g q0 q1 q2 q3 q4 q5 q6 q7 q8 q9 q10 q11 q12 mm masd msav misS mpst mchg merr mfai zo16.2 minp minM mUp mcar mcam mahd magn mltr mbeg mcmd mcmM mpl msz mwr mlin mliM) := hD
        refine lv_i2l (v := (Int32.toInt64 zo16.1)) hx hb dX11_part_56 rfl ?_
        have ho := (Option.some.inj hF).symm
        exact W.lret (v := (Int32.toInt64 zo16.1)) hx hb hr (fun t ht hW => ⟨⟨(Int32.toInt64 zo16.1), zo16.2, rfl, ⟨by rw [ho], by rw [ho]⟩, z_end ht hP⟩, hS.F ht⟩) hS.2.2 dX11_part_57
    · have hF := z_pos hF zc4
      refine lv_aload_n hx hb dX11_part_31 rfl (lv_at hl 1 rfl) ?_
      refine lv_iconst (v := 2) hx hb dX11_part_32 (by decide) ?_
      obtain ⟨zo17, hzo17, hF⟩ := z_bind hF
      refine z_calliE (fun (u : Int32) => (wModel g q0 q1 q2 q3 q4 q5 q6 q7 q8 q9 q10 q11 q12 mm masd msav misS mpst mchg merr mfai u minp minM mUp mcar mcam mahd magn mltr mbeg mcmd mcmM mpl msz mwr mlin mliM)) (va_runV (As := [.int 2]) (rest := []) ⟨hx, hb, hml, hown, hts⟩ (c_X11_throwing l g q0 q1 q2 q3 q4 q5 q6 q7 q8 q9 q10 q11 q12 mm masd msav misS mpst mchg merr mfai zo1.2 minp minM mUp mcar mcam mahd magn mltr mbeg mcmd mcmM mpl msz mwr mlin mliM _ 2 _ hzo17) (cwV 1 hts (gdV mU_1352 mU_1354 mU_31 mU_75 mU_1355) rfl rfl rfl (by decide +kernel) ⟨Nat.le_of_ble_eq_true rfl, Nat.le_of_ble_eq_true rfl⟩) ⟨z_blind _ _ _ _, va_recv hK hP (ci := 7) (q0 := 0) rfl rfl, fun U hU hW => z_preE hP hD hK hB hS hA hU hW⟩ rfl rfl hl.1 rfl (lv_room (Nat.le_of_ble_eq_true rfl)) dX11_part_33 ⟨Nat.le_of_ble_eq_true rfl, Nat.le_of_ble_eq_true rfl⟩) hD hS hA (fun _ => rfl) (fun r u H locs hw hP hD hS => ?_)
      obtain ⟨rfl, rfl⟩ := hw
      have hP : va_P (gD g) zCl (wModel g q0 q1 q2 q3 q4 q5 q6 q7 q8 q9 q10 q11 q12 mm masd msav misS mpst mchg merr mfai zo17.2 minp minM mUp mcar mcam mahd magn mltr mbeg mcmd mcmM mpl msz mwr mlin mliM) H := hP
      have hD : va_D A (wModel g q0 q1 q2 q3 q4 q5 q6 q7 q8 q9 q10 q11 q12 mm masd msav misS mpst mchg merr mfai zo17.2 minp minM mUp mcar mcam mahd magn mltr mbeg mcmd mcmM mpl msz mwr mlin mliM) := hD
      refine lv_i2l (v := (Int32.toInt64 zo17.1)) hx hb dX11_part_36 rfl ?_
      have ho := (Option.some.inj hF).symm
      exact W.lret (v := (Int32.toInt64 zo17.1)) hx hb hr (fun t ht hW => ⟨⟨(Int32.toInt64 zo17.1), zo17.2, rfl, ⟨by rw [ho], by rw [ho]⟩, z_end ht hP⟩, hS.F ht⟩) hS.2.2 dX11_part_37
  · have hF := z_neg hF zc2
    refine lv_ldc2 (v := (-1)) hx hb hown (hts _ mU_1514) dX11_part_15 ?_
    have ho := (Option.some.inj hF).symm
    exact W.lret (v := (-1)) hx hb hr (fun t ht hW => ⟨⟨(-1), zo1.2, rfl, ⟨by rw [ho], by rw [ho]⟩, z_end ht hP⟩, hS.F ht⟩) hS.2.2 dX11_part_18
abbrev w_X11_adds : List Cond := .code yX11_adds cX11_adds 9 none :: wU
abbrev r_X11_adds : Room := { frames := 3, cells := 0, slots := 0, locals := 64 }
abbrev q_X11_adds (g : GG) (q0 q1 q2 q3 q4 q5 q6 q7 q8 q9 q10 q11 q12 : Nat) (mm : Nat → Int64) (masd : Nat → Int64) (msav : Nat → Int64) (misS : Int32) (mpst : Nat → Int64) (mchg : Int32) (merr : Int32) (mfai : Int32) (mthr : Int32) (minp : Nat → Int32) (minM : Int32) (mUp : Nat → Int32) (mcar : Nat → Int32) (mcam : Nat → Int32) (mahd : Int32) (magn : Int32) (mltr : Nat → Int32) (mbeg : Nat → Int32) (mcmd : Nat → Int32) (mcmM : Int32) (mpl : Int32) (msz : Int32) (mwr : Int32) (mlin : Nat → Int32) (mliM : Int32) (o : Int32 × (Nat → Int32)) (A : Nat → Prop) := va_Qv (fun (u : Int32 × (Nat → Int32)) => o = u) (fun u t => va_P (gD g) zCl (wModel g q0 q1 q2 q3 q4 q5 q6 q7 q8 q9 q10 q11 q12 mm masd msav misS mpst mchg merr mfai u.1 minp minM mUp u.2 mcam mahd magn mltr mbeg mcmd mcmM mpl msz mwr mlin mliM) t.heap) A
set_option maxHeartbeats 4000000 in
set_option maxRecDepth 100000 in
theorem c_X11_adds (l : Launch) (g : GG) (q0 q1 q2 q3 q4 q5 q6 q7 q8 q9 q10 q11 q12 : Nat) (mm : Nat → Int64) (masd : Nat → Int64) (msav : Nat → Int64) (misS : Int32) (mpst : Nat → Int64) (mchg : Int32) (merr : Int32) (mfai : Int32) (mthr : Int32) (minp : Nat → Int32) (minM : Int32) (mUp : Nat → Int32) (mcar : Nat → Int32) (mcam : Nat → Int32) (mahd : Int32) (magn : Int32) (mltr : Nat → Int32) (mbeg : Nat → Int32) (mcmd : Nat → Int32) (mcmM : Int32) (mpl : Int32) (msz : Int32) (mwr : Int32) (mlin : Nat → Int32) (mliM : Int32) (sz : Nat) (p1 : Int32) (p2 : Int32) (p3 : Int32) (fu : Nat) (o : Int32 × (Nat → Int32)) (hF : F_X11_adds fu mm mthr mcar p1 p2 p3 = some o) : Met l yX11_adds w_X11_adds r_X11_adds (va_Pc [.ref q0, .int p1, .int p2, .int p3] (zP g (wModel g q0 q1 q2 q3 q4 q5 q6 q7 q8 q9 q10 q11 q12 mm masd msav misS mpst mchg merr mfai mthr minp minM mUp mcar mcam mahd magn mltr mbeg mcmd mcmM mpl msz mwr mlin mliM) sz)) (q_X11_adds g q0 q1 q2 q3 q4 q5 q6 q7 q8 q9 q10 q11 q12 mm masd msav misS mpst mchg merr mfai mthr minp minM mUp mcar mcam mahd magn mltr mbeg mcmd mcmM mpl msz mwr mlin mliM o (va_A (wModel g q0 q1 q2 q3 q4 q5 q6 q7 q8 q9 q10 q11 q12 mm masd msav misS mpst mchg merr mfai mthr minp minM mUp mcar mcam mahd magn mltr mbeg mcmd mcmM mpl msz mwr mlin mliM) sz)) 0 0 (va_A (wModel g q0 q1 q2 q3 q4 q5 q6 q7 q8 q9 q10 q11 q12 mm masd msav misS mpst mchg merr mfai mthr minp minM mUp mcar mcam mahd magn mltr mbeg mcmd mcmM mpl msz mwr mlin mliM) sz) := by
  refine Met.ofW (cc := cX11_adds) (maxL := 9) (ret := none) (by decide) rfl ?_
  intro p e s m args below meth c s₁ B hml hv
  obtain ⟨rfl, rfl, hP, hK, hD0, hB⟩ := hv
  have hx := B.exec
  have hb := B.bytes
  have hr := B.returns
  have hts : ∀ w ∈ wU, w.before _ s = true := fun w h => atoms_spec (ws := w_X11_adds) B.pre w (List.mem_cons_of_mem _ h)
  have hown : s.vm.findClass RX11 = some m.cls := findClass_of_methodNamed B.named
  have hlocks := B.notSynchronized
  have hD := hD0.self (sz := s.heap.size)
  generalize hAe : va_A (wModel g q0 q1 q2 q3 q4 q5 q6 q7 q8 q9 q10 q11 q12 mm masd msav misS mpst mchg merr mfai mthr minp minM mUp mcar mcam mahd magn mltr mbeg mcmd mcmM mpl msz mwr mlin mliM) s.heap.size = A at hD hB ⊢
  have hA : ∀ q : Nat, s.heap.size ≤ q → A q := fun q h => by rw [← hAe]; exact Or.inr h
  have hS : va_S A s.heap s.heap [] := va_S.rf
  have hl := lv_entry ([.ref q0, .int p1, .int p2, .int p3]) (n := 9) (Nat.le_of_ble_eq_true rfl)
  rw [lg_entry_eq]
  generalize (lg_sl ([.ref q0, .int p1, .int p2, .int p3]) ++ List.replicate (9 - (lg_sl ([.ref q0, .int p1, .int p2, .int p3])).length) Slot.unset).toArray = ls at hl ⊢
  have hl : lv_has ls 9 [(0, .ref q0), (1, .int p1), (2, .int p2), (3, .int p3)] := hl
  unfold F_X11_adds at hF
  have K42 : ∀ (n42 : Nat) (mthr : Int32) (mcar : Nat → Int32) (x4 : Int64) (x6 : Int32) (x7 : Int32), F_X11_adds_42 fu n42 mm mthr mcar p2 p3 x4 x6 x7 = some o → ∀ (H : Heap) (locs : List Loc) (ls : Array Slot), lv_has ls 9 [(0, .ref q0), (2, .int p2), (3, .int p3), (4, .long x4), (6, .int x6), (7, .int x7)] → va_P (gD g) zCl (wModel g q0 q1 q2 q3 q4 q5 q6 q7 q8 q9 q10 q11 q12 mm masd msav misS mpst mchg merr mfai mthr minp minM mUp mcar mcam mahd magn mltr mbeg mcmd mcmM mpl msz mwr mlin mliM) H → va_D A (wModel g q0 q1 q2 q3 q4 q5 q6 q7 q8 q9 q10 q11 q12 mm masd msav misS mpst mchg merr mfai mthr minp minM mUp mcar mcam mahd magn mltr mbeg mcmd mcmM mpl msz mwr mlin mliM) → va_S A s.heap H locs → W p l e (headSpec w_X11_adds r_X11_adds).room s m ([.ref q0, .int p1, .int p2, .int p3] : List Value).toArray below meth c H locs 0 0 (MQ below (q_X11_adds g q0 q1 q2 q3 q4 q5 q6 q7 q8 q9 q10 q11 q12 mm masd msav misS mpst mchg merr mfai mthr minp minM mUp mcar mcam mahd magn mltr mbeg mcmd mcmM mpl msz mwr mlin mliM o A) ([.ref q0, .int p1, .int p2, .int p3] : List Value).toArray s 0 0 A) (F0 m 42 ls []) := by
    intro n42
    induction n42 with
    | zero =>
      intro mthr mcar x4 x6 x7 hF
      exact absurd hF (by simp [F_X11_adds_42])
    | succ n42 ih42 =>
      have K94 : ∀ (_ : Unit) (mthr : Int32) (mcar : Nat → Int32) (x4 : Int64) (x7 : Int32) (x8 : Int32) (y1 : Int32) (y2 : Int32), F_X11_adds_94 (F_X11_adds_42 fu n42) fu mm mthr mcar p2 p3 x4 x7 x8 y1 y2 = some o → ∀ (H : Heap) (locs : List Loc) (ls : Array Slot), lv_has ls 9 [(0, .ref q0), (2, .int p2), (3, .int p3), (4, .long x4), (7, .int x7), (8, .int x8)] → va_P (gD g) zCl (wModel g q0 q1 q2 q3 q4 q5 q6 q7 q8 q9 q10 q11 q12 mm masd msav misS mpst mchg merr mfai mthr minp minM mUp mcar mcam mahd magn mltr mbeg mcmd mcmM mpl msz mwr mlin mliM) H → va_D A (wModel g q0 q1 q2 q3 q4 q5 q6 q7 q8 q9 q10 q11 q12 mm masd msav misS mpst mchg merr mfai mthr minp minM mUp mcar mcam mahd magn mltr mbeg mcmd mcmM mpl msz mwr mlin mliM) → va_S A s.heap H locs → W p l e (headSpec w_X11_adds r_X11_adds).room s m ([.ref q0, .int p1, .int p2, .int p3] : List Value).toArray below meth c H locs 0 0 (MQ below (q_X11_adds g q0 q1 q2 q3 q4 q5 q6 q7 q8 q9 q10 q11 q12 mm masd msav misS mpst mchg merr mfai mthr minp minM mUp mcar mcam mahd magn mltr mbeg mcmd mcmM mpl msz mwr mlin mliM o A) ([.ref q0, .int p1, .int p2, .int p3] : List Value).toArray s 0 0 A) (F0 m 94 ls [.int y2, .int y1, .ref q7]) := by
        intro _ mthr mcar x4 x7 x8 y1 y2 hF H locs ls hl hP hD hS
        unfold F_X11_adds_94 at hF
        obtain ⟨zg1, hF⟩ := z_grd hF
        refine va_zast hx hb hK hP hD hS 7 3 rfl rfl zg1 dX11_adds_94 (fun H locs hP hD hS => ?_)
        have hP : va_P (gD g) zCl (wModel g q0 q1 q2 q3 q4 q5 q6 q7 q8 q9 q10 q11 q12 mm masd msav misS mpst mchg merr mfai mthr minp minM mUp (upd mcar (Int32.toNatClampNeg y1) (vp_nar .boolean y2)) mcam mahd magn mltr mbeg mcmd mcmM mpl msz mwr mlin mliM) H := hP
        have hD : va_D A (wModel g q0 q1 q2 q3 q4 q5 q6 q7 q8 q9 q10 q11 q12 mm masd msav misS mpst mchg merr mfai mthr minp minM mUp (upd mcar (Int32.toNatClampNeg y1) (vp_nar .boolean y2)) mcam mahd magn mltr mbeg mcmd mcmM mpl msz mwr mlin mliM) := hD
        refine lv_iload hx hb dX11_adds_95 (lv_at hl 5 rfl) ?_
        refine lv_bipush (v := 9) hx hb dX11_adds_97 (by decide) ?_
        refine lv_icmp_le (tgt := 106) hx hb dX11_adds_99 (by decide) (fun zc2 => ?_) (fun zc2 => ?_)
        · have hF := z_pos hF zc2
          refine lv_iconst (v := 0) hx hb dX11_adds_106 (by decide) ?_
          refine lv_istore (lv' := [(6, .int 0), (0, .ref q0), (2, .int p2), (3, .int p3), (4, .long x4), (7, .int x7), (8, .int x8)]) hx hb dX11_adds_107 hl (by decide) rfl (fun ls hl => ?_)
          obtain ⟨zv3, ezv3, hF⟩ := z_let hF
          refine lv_iinc (v := zv3) (lv' := [(7, .int zv3), (6, .int 0), (0, .ref q0), (2, .int p2), (3, .int p3), (4, .long x4), (8, .int x8)]) hx hb dX11_adds_109 hl (k := 5) rfl (by rw [ezv3]; rfl) (by decide) rfl (fun ls hl => ?_)
          refine lv_goto (tgt := 42) hx hb dX11_adds_112 (by decide) ?_
          exact ih42 mthr (upd mcar (Int32.toNatClampNeg y1) (vp_nar .boolean y2)) x4 0 zv3 hF _ _ _ (lv_sub hl [2, 3, 4, 5, 1, 0] rfl) hP hD hS
        · have hF := z_neg hF zc2
          refine lv_iconst (v := 1) hx hb dX11_adds_102 (by decide) ?_
          refine lv_goto (tgt := 107) hx hb dX11_adds_103 (by decide) ?_
          refine lv_istore (lv' := [(6, .int 1), (0, .ref q0), (2, .int p2), (3, .int p3), (4, .long x4), (7, .int x7), (8, .int x8)]) hx hb dX11_adds_107 hl (by decide) rfl (fun ls hl => ?_)
          obtain ⟨zv4, ezv4, hF⟩ := z_let hF
          refine lv_iinc (v := zv4) (lv' := [(7, .int zv4), (6, .int 1), (0, .ref q0), (2, .int p2), (3, .int p3), (4, .long x4), (8, .int x8)]) hx hb dX11_adds_109 hl (k := 5) rfl (by rw [ezv4]; rfl) (by decide) rfl (fun ls hl => ?_)
          refine lv_goto (tgt := 42) hx hb dX11_adds_112 (by decide) ?_
          exact ih42 mthr (upd mcar (Int32.toNatClampNeg y1) (vp_nar .boolean y2)) x4 1 zv4 hF _ _ _ (lv_sub hl [2, 3, 4, 5, 1, 0] rfl) hP hD hS
      intro mthr mcar x4 x6 x7 hF H locs ls hl hP hD hS
      unfold F_X11_adds_42 at hF
      refine lv_iload hx hb dX11_adds_42 (lv_at hl 5 rfl) ?_
      refine lv_bipush (v := 10) hx hb dX11_adds_44 (by decide) ?_
      refine lv_icmp_ge (tgt := 115) hx hb dX11_adds_46 (by decide) (fun zc5 => ?_) (fun zc5 => ?_)
      · have hF := z_pos hF zc5
        have ho := (Option.some.inj hF).symm
        exact W.vret hx hb hr (fun t ht hW => ⟨⟨(mthr, mcar), rfl, ho, z_end ht hP⟩, hS.F ht⟩) hS.2.2 dX11_adds_115
      · have hF := z_neg hF zc5
        refine lv_lload hx hb dX11_adds_49 (lv_at hl 3 rfl) ?_
        refine lv_iload hx hb dX11_adds_51 (lv_at hl 5 rfl) ?_
        refine lv_iconst (v := 4) hx hb dX11_adds_53 (by decide) ?_
        refine lv_isub hx hb dX11_adds_54 ?_
        obtain ⟨zo6, hzo6, hF⟩ := z_bind hF
        refine z_calli (fun (_ : Unit) => []) [] (va_runS (As := [.long x4, .int (x7 - 4)]) (rest := []) ⟨hx, hb, hml, hown, hts⟩ (c_X11_digitAt l g _ x4 (x7 - 4) fu _ hzo6) (va_cwS 2 hts (gdS mU_1495 mU_1496 mU_75 mU_1497) rfl rfl rfl (by decide +kernel) ⟨Nat.le_of_ble_eq_true rfl, Nat.le_of_ble_eq_true rfl⟩) ⟨z_blind _ _ _ _, fun U hU hW => z_pre [] hP hD hK hB hS hA rfl rfl hU hW⟩ rfl rfl hl.1 rfl (lv_room (Nat.le_of_ble_eq_true rfl)) dX11_adds_55 ⟨Nat.le_of_ble_eq_true rfl, Nat.le_of_ble_eq_true rfl⟩) hP hD hS hA rfl (fun _ => rfl) (fun r u H locs hw hP hD hS => ?_)
        subst hw
        have hP : va_P (gD g) zCl (wModel g q0 q1 q2 q3 q4 q5 q6 q7 q8 q9 q10 q11 q12 mm masd msav misS mpst mchg merr mfai mthr minp minM mUp mcar mcam mahd magn mltr mbeg mcmd mcmM mpl msz mwr mlin mliM) H := hP
        have hD : va_D A (wModel g q0 q1 q2 q3 q4 q5 q6 q7 q8 q9 q10 q11 q12 mm masd msav misS mpst mchg merr mfai mthr minp minM mUp mcar mcam mahd magn mltr mbeg mcmd mcmM mpl msz mwr mlin mliM) := hD
        refine lv_iload_n hx hb dX11_adds_58 rfl (lv_at hl 1 rfl) ?_
        refine lv_iload_n hx hb dX11_adds_59 rfl (lv_at hl 2 rfl) ?_
        obtain ⟨zo7, hzo7, hF⟩ := z_bind hF
        refine z_calll (fun (_ : Unit) => []) [] (va_runS (As := [.int p2, .int p3]) (rest := [.int zo6]) ⟨hx, hb, hml, hown, hts⟩ (c_X11_units l g _ p2 p3 _ hzo7) (va_cwS 2 hts (gdS mU_1360 mU_1361 mU_75 mU_1362) rfl rfl rfl (by decide +kernel) ⟨Nat.le_of_ble_eq_true rfl, Nat.le_of_ble_eq_true rfl⟩) ⟨z_blind _ _ _ _, fun U hU hW => z_pre [] hP hD hK hB hS hA rfl rfl hU hW⟩ rfl rfl hl.1 rfl (lv_room (Nat.le_of_ble_eq_true rfl)) dX11_adds_60 ⟨Nat.le_of_ble_eq_true rfl, Nat.le_of_ble_eq_true rfl⟩) hP hD hS hA rfl (fun _ => rfl) (fun r u H locs hw hP hD hS => ?_)
        subst hw
        have hP : va_P (gD g) zCl (wModel g q0 q1 q2 q3 q4 q5 q6 q7 q8 q9 q10 q11 q12 mm masd msav misS mpst mchg merr mfai mthr minp minM mUp mcar mcam mahd magn mltr mbeg mcmd mcmM mpl msz mwr mlin mliM) H := hP
        have hD : va_D A (wModel g q0 q1 q2 q3 q4 q5 q6 q7 q8 q9 q10 q11 q12 mm masd msav misS mpst mchg merr mfai mthr minp minM mUp mcar mcam mahd magn mltr mbeg mcmd mcmM mpl msz mwr mlin mliM) := hD
        refine lv_iload hx hb dX11_adds_63 (lv_at hl 5 rfl) ?_
        refine lv_iconst (v := 4) hx hb dX11_adds_65 (by decide) ?_
        refine lv_isub hx hb dX11_adds_66 ?_
        obtain ⟨zo8, hzo8, hF⟩ := z_bind hF
        refine z_calli (fun (_ : Unit) => []) [] (va_runS (As := [.long zo7, .int (x7 - 4)]) (rest := [.int zo6]) ⟨hx, hb, hml, hown, hts⟩ (c_X11_digitAt l g _ zo7 (x7 - 4) fu _ hzo8) (va_cwS 2 hts (gdS mU_1495 mU_1496 mU_75 mU_1497) rfl rfl rfl (by decide +kernel) ⟨Nat.le_of_ble_eq_true rfl, Nat.le_of_ble_eq_true rfl⟩) ⟨z_blind _ _ _ _, fun U hU hW => z_pre [] hP hD hK hB hS hA rfl rfl hU hW⟩ rfl rfl hl.1 rfl (lv_room (Nat.le_of_ble_eq_true rfl)) dX11_adds_67 ⟨Nat.le_of_ble_eq_true rfl, Nat.le_of_ble_eq_true rfl⟩) hP hD hS hA rfl (fun _ => rfl) (fun r u H locs hw hP hD hS => ?_)
        subst hw
        have hP : va_P (gD g) zCl (wModel g q0 q1 q2 q3 q4 q5 q6 q7 q8 q9 q10 q11 q12 mm masd msav misS mpst mchg merr mfai mthr minp minM mUp mcar mcam mahd magn mltr mbeg mcmd mcmM mpl msz mwr mlin mliM) H := hP
        have hD : va_D A (wModel g q0 q1 q2 q3 q4 q5 q6 q7 q8 q9 q10 q11 q12 mm masd msav misS mpst mchg merr mfai mthr minp minM mUp mcar mcam mahd magn mltr mbeg mcmd mcmM mpl msz mwr mlin mliM) := hD
        refine lv_iadd hx hb dX11_adds_70 ?_
        refine lv_iload hx hb dX11_adds_71 (lv_at hl 4 rfl) ?_
        refine lv_iadd hx hb dX11_adds_73 ?_
        obtain ⟨zv9, ezv9, hF⟩ := z_let hF
        refine z_topi ezv9 ?_
        refine lv_istore (lv' := [(8, .int zv9), (0, .ref q0), (2, .int p2), (3, .int p3), (4, .long x4), (6, .int x6), (7, .int x7)]) hx hb dX11_adds_74 hl (by decide) rfl (fun ls hl => ?_)
        refine lv_aload_n hx hb dX11_adds_76 rfl (lv_at hl 1 rfl) ?_
        refine va_get (D := gD g) (ci := 7) (v := .ref q7) (C := RX11) (T := TX11) (N := 25) hx hb hts inX11 hown hK hP 0 rfl rfl 12 (by decide) (hts _ mU_1256) (fun _ h9 => h9) rfl dX11_adds_77 ?_
        refine lv_iload hx hb dX11_adds_80 (lv_at hl 6 rfl) ?_
        refine lv_iload hx hb dX11_adds_82 (lv_at hl 0 rfl) ?_
        refine lv_bipush (v := 9) hx hb dX11_adds_84 (by decide) ?_
        refine lv_icmp_le (tgt := 93) hx hb dX11_adds_86 (by decide) (fun zc10 => ?_) (fun zc10 => ?_)
        · have hF := z_pos hF zc10
          refine lv_iconst (v := 0) hx hb dX11_adds_93 (by decide) ?_
          exact K94 () mthr mcar x4 x7 zv9 x7 0 hF _ _ _ (lv_sub hl [1, 2, 3, 4, 6, 0] rfl) hP hD hS
        · have hF := z_neg hF zc10
          refine lv_iconst (v := 1) hx hb dX11_adds_89 (by decide) ?_
          refine lv_goto (tgt := 94) hx hb dX11_adds_90 (by decide) ?_
          exact K94 () mthr mcar x4 x7 zv9 x7 1 hF _ _ _ (lv_sub hl [1, 2, 3, 4, 6, 0] rfl) hP hD hS
  refine lv_aload_n hx hb dX11_adds_0 rfl (lv_at hl 0 rfl) ?_
  refine lv_iload_n hx hb dX11_adds_1 rfl (lv_at hl 1 rfl) ?_
  refine lv_iconst (v := 1) hx hb dX11_adds_2 (by decide) ?_
  obtain ⟨zo11, hzo11, hF⟩ := z_bind hF
  refine z_calllE (fun (u : Int32) => (wModel g q0 q1 q2 q3 q4 q5 q6 q7 q8 q9 q10 q11 q12 mm masd msav misS mpst mchg merr mfai u minp minM mUp mcar mcam mahd magn mltr mbeg mcmd mcmM mpl msz mwr mlin mliM)) (va_runV (As := [.int p1, .int 1]) (rest := []) ⟨hx, hb, hml, hown, hts⟩ (c_X11_ofNumber l g q0 q1 q2 q3 q4 q5 q6 q7 q8 q9 q10 q11 q12 mm masd msav misS mpst mchg merr mfai mthr minp minM mUp mcar mcam mahd magn mltr mbeg mcmd mcmM mpl msz mwr mlin mliM _ p1 1 fu _ hzo11) (cwV 2 hts (gdV mU_1477 mU_1479 mU_47 mU_75 mU_1480) rfl rfl rfl (by decide +kernel) ⟨Nat.le_of_ble_eq_true rfl, Nat.le_of_ble_eq_true rfl⟩) ⟨z_blind _ _ _ _, va_recv hK hP (ci := 7) (q0 := 0) rfl rfl, fun U hU hW => z_preE hP hD hK hB hS hA hU hW⟩ rfl rfl hl.1 rfl (lv_room (Nat.le_of_ble_eq_true rfl)) dX11_adds_3 ⟨Nat.le_of_ble_eq_true rfl, Nat.le_of_ble_eq_true rfl⟩) hD hS hA (fun _ => rfl) (fun r u H locs hw hP hD hS => ?_)
  obtain ⟨rfl, rfl⟩ := hw
  have hP : va_P (gD g) zCl (wModel g q0 q1 q2 q3 q4 q5 q6 q7 q8 q9 q10 q11 q12 mm masd msav misS mpst mchg merr mfai zo11.2 minp minM mUp mcar mcam mahd magn mltr mbeg mcmd mcmM mpl msz mwr mlin mliM) H := hP
  have hD : va_D A (wModel g q0 q1 q2 q3 q4 q5 q6 q7 q8 q9 q10 q11 q12 mm masd msav misS mpst mchg merr mfai zo11.2 minp minM mUp mcar mcam mahd magn mltr mbeg mcmd mcmM mpl msz mwr mlin mliM) := hD
  refine lv_lstore (lv' := [(4, .long zo11.1), (0, .ref q0), (1, .int p1), (2, .int p2), (3, .int p3)]) hx hb dX11_adds_6 hl (by decide) rfl (fun ls hl => ?_)
  refine lv_aload_n hx hb dX11_adds_8 rfl (lv_at hl 1 rfl) ?_
  refine va_get (D := gD g) (ci := 7) (v := .int zo11.2) (C := RX11) (T := TX11) (N := 25) hx hb hts inX11 hown hK hP 0 rfl rfl 8 (by decide) (hts _ mU_1252) (fun _ h9 => h9) rfl dX11_adds_9 ?_
  refine lv_if_ne (tgt := 29) hx hb dX11_adds_12 (by decide) (fun zc12 => ?_) (fun zc12 => ?_)
  · have hF := z_neg hF zc12
    refine lv_aload_n hx hb dX11_adds_29 rfl (lv_at hl 1 rfl) ?_
    refine va_get (D := gD g) (ci := 7) (v := .int zo11.2) (C := RX11) (T := TX11) (N := 25) hx hb hts inX11 hown hK hP 0 rfl rfl 8 (by decide) (hts _ mU_1252) (fun _ h9 => h9) rfl dX11_adds_30 ?_
    refine lv_if_ne (tgt := 115) hx hb dX11_adds_33 (by decide) (fun zc13 => ?_) (fun zc13 => ?_)
    · have hF := z_neg hF zc13
      have ho := (Option.some.inj hF).symm
      exact W.vret hx hb hr (fun t ht hW => ⟨⟨(zo11.2, mcar), rfl, ho, z_end ht hP⟩, hS.F ht⟩) hS.2.2 dX11_adds_115
    · have hF := z_pos hF zc13
      refine lv_iconst (v := 0) hx hb dX11_adds_36 (by decide) ?_
      refine lv_istore (lv' := [(6, .int 0), (4, .long zo11.1), (0, .ref q0), (1, .int p1), (2, .int p2), (3, .int p3)]) hx hb dX11_adds_37 hl (by decide) rfl (fun ls hl => ?_)
      refine lv_iconst (v := 0) hx hb dX11_adds_39 (by decide) ?_
      refine lv_istore (lv' := [(7, .int 0), (6, .int 0), (4, .long zo11.1), (0, .ref q0), (1, .int p1), (2, .int p2), (3, .int p3)]) hx hb dX11_adds_40 hl (by decide) rfl (fun ls hl => ?_)
      exact K42 fu zo11.2 mcar zo11.1 0 0 hF _ _ _ (lv_sub hl [3, 5, 6, 2, 1, 0] rfl) hP hD hS
  · have hF := z_pos hF zc12
    refine lv_iload_n hx hb dX11_adds_15 rfl (lv_at hl 3 rfl) ?_
    refine lv_iload_n hx hb dX11_adds_16 rfl (lv_at hl 4 rfl) ?_
    obtain ⟨zo14, hzo14, hF⟩ := z_bind hF
    refine z_calli (fun (_ : Unit) => []) [] (va_runS (As := [.int p2, .int p3]) (rest := []) ⟨hx, hb, hml, hown, hts⟩ (c_X11_isAmount l g _ p2 p3 _ hzo14) (va_cwS 2 hts (gdS mU_1337 mU_1338 mU_75 mU_1339) rfl rfl rfl (by decide +kernel) ⟨Nat.le_of_ble_eq_true rfl, Nat.le_of_ble_eq_true rfl⟩) ⟨z_blind _ _ _ _, fun U hU hW => z_pre [] hP hD hK hB hS hA rfl rfl hU hW⟩ rfl rfl hl.1 rfl (lv_room (Nat.le_of_ble_eq_true rfl)) dX11_adds_17 ⟨Nat.le_of_ble_eq_true rfl, Nat.le_of_ble_eq_true rfl⟩) hP hD hS hA rfl (fun _ => rfl) (fun r u H locs hw hP hD hS => ?_)
    subst hw
    have hP : va_P (gD g) zCl (wModel g q0 q1 q2 q3 q4 q5 q6 q7 q8 q9 q10 q11 q12 mm masd msav misS mpst mchg merr mfai zo11.2 minp minM mUp mcar mcam mahd magn mltr mbeg mcmd mcmM mpl msz mwr mlin mliM) H := hP
    have hD : va_D A (wModel g q0 q1 q2 q3 q4 q5 q6 q7 q8 q9 q10 q11 q12 mm masd msav misS mpst mchg merr mfai zo11.2 minp minM mUp mcar mcam mahd magn mltr mbeg mcmd mcmM mpl msz mwr mlin mliM) := hD
    refine lv_if_ne (tgt := 29) hx hb dX11_adds_20 (by decide) (fun zc15 => ?_) (fun zc15 => ?_)
    · have hF := z_neg hF zc15
      refine lv_aload_n hx hb dX11_adds_29 rfl (lv_at hl 1 rfl) ?_
      refine va_get (D := gD g) (ci := 7) (v := .int zo11.2) (C := RX11) (T := TX11) (N := 25) hx hb hts inX11 hown hK hP 0 rfl rfl 8 (by decide) (hts _ mU_1252) (fun _ h9 => h9) rfl dX11_adds_30 ?_
      refine lv_if_ne (tgt := 115) hx hb dX11_adds_33 (by decide) (fun zc16 => ?_) (fun zc16 => ?_)
      · have hF := z_neg hF zc16
        have ho := (Option.some.inj hF).symm
        exact W.vret hx hb hr (fun t ht hW => ⟨⟨(zo11.2, mcar), rfl, ho, z_end ht hP⟩, hS.F ht⟩) hS.2.2 dX11_adds_115
      · have hF := z_pos hF zc16
        refine lv_iconst (v := 0) hx hb dX11_adds_36 (by decide) ?_
        refine lv_istore (lv' := [(6, .int 0), (4, .long zo11.1), (0, .ref q0), (1, .int p1), (2, .int p2), (3, .int p3)]) hx hb dX11_adds_37 hl (by decide) rfl (fun ls hl => ?_)
        refine lv_iconst (v := 0) hx hb dX11_adds_39 (by decide) ?_
        refine lv_istore (lv' := [(7, .int 0), (6, .int 0), (4, .long zo11.1), (0, .ref q0), (1, .int p1), (2, .int p2), (3, .int p3)]) hx hb dX11_adds_40 hl (by decide) rfl (fun ls hl => ?_)
        exact K42 fu zo11.2 mcar zo11.1 0 0 hF _ _ _ (lv_sub hl [3, 5, 6, 2, 1, 0] rfl) hP hD hS
    · have hF := z_pos hF zc15
      refine lv_aload_n hx hb dX11_adds_23 rfl (lv_at hl 1 rfl) ?_
      refine lv_iconst (v := 2) hx hb dX11_adds_24 (by decide) ?_
      obtain ⟨zo17, hzo17, hF⟩ := z_bind hF
      refine z_calliE (fun (u : Int32) => (wModel g q0 q1 q2 q3 q4 q5 q6 q7 q8 q9 q10 q11 q12 mm masd msav misS mpst mchg merr mfai u minp minM mUp mcar mcam mahd magn mltr mbeg mcmd mcmM mpl msz mwr mlin mliM)) (va_runV (As := [.int 2]) (rest := []) ⟨hx, hb, hml, hown, hts⟩ (c_X11_throwing l g q0 q1 q2 q3 q4 q5 q6 q7 q8 q9 q10 q11 q12 mm masd msav misS mpst mchg merr mfai zo11.2 minp minM mUp mcar mcam mahd magn mltr mbeg mcmd mcmM mpl msz mwr mlin mliM _ 2 _ hzo17) (cwV 1 hts (gdV mU_1352 mU_1354 mU_31 mU_75 mU_1355) rfl rfl rfl (by decide +kernel) ⟨Nat.le_of_ble_eq_true rfl, Nat.le_of_ble_eq_true rfl⟩) ⟨z_blind _ _ _ _, va_recv hK hP (ci := 7) (q0 := 0) rfl rfl, fun U hU hW => z_preE hP hD hK hB hS hA hU hW⟩ rfl rfl hl.1 rfl (lv_room (Nat.le_of_ble_eq_true rfl)) dX11_adds_25 ⟨Nat.le_of_ble_eq_true rfl, Nat.le_of_ble_eq_true rfl⟩) hD hS hA (fun _ => rfl) (fun r u H locs hw hP hD hS => ?_)
      obtain ⟨rfl, rfl⟩ := hw
      have hP : va_P (gD g) zCl (wModel g q0 q1 q2 q3 q4 q5 q6 q7 q8 q9 q10 q11 q12 mm masd msav misS mpst mchg merr mfai zo17.2 minp minM mUp mcar mcam mahd magn mltr mbeg mcmd mcmM mpl msz mwr mlin mliM) H := hP
      have hD : va_D A (wModel g q0 q1 q2 q3 q4 q5 q6 q7 q8 q9 q10 q11 q12 mm masd msav misS mpst mchg merr mfai zo17.2 minp minM mUp mcar mcam mahd magn mltr mbeg mcmd mcmM mpl msz mwr mlin mliM) := hD
      refine lv_pop hx hb dX11_adds_28 rfl ?_
      refine lv_aload_n hx hb dX11_adds_29 rfl (lv_at hl 1 rfl) ?_
      refine va_get (D := gD g) (ci := 7) (v := .int zo17.2) (C := RX11) (T := TX11) (N := 25) hx hb hts inX11 hown hK hP 0 rfl rfl 8 (by decide) (hts _ mU_1252) (fun _ h9 => h9) rfl dX11_adds_30 ?_
      refine lv_if_ne (tgt := 115) hx hb dX11_adds_33 (by decide) (fun zc18 => ?_) (fun zc18 => ?_)
      · have hF := z_neg hF zc18
        have ho := (Option.some.inj hF).symm
        exact W.vret hx hb hr (fun t ht hW => ⟨⟨(zo17.2, mcar), rfl, ho, z_end ht hP⟩, hS.F ht⟩) hS.2.2 dX11_adds_115
      · have hF := z_pos hF zc18
        refine lv_iconst (v := 0) hx hb dX11_adds_36 (by decide) ?_
        refine lv_istore (lv' := [(6, .int 0), (4, .long zo11.1), (0, .ref q0), (1, .int p1), (2, .int p2), (3, .int p3)]) hx hb dX11_adds_37 hl (by decide) rfl (fun ls hl => ?_)
        refine lv_iconst (v := 0) hx hb dX11_adds_39 (by decide) ?_
        refine lv_istore (lv' := [(7, .int 0), (6, .int 0), (4, .long zo11.1), (0, .ref q0), (1, .int p1), (2, .int p2), (3, .int p3)]) hx hb dX11_adds_40 hl (by decide) rfl (fun ls hl => ?_)
        exact K42 fu zo17.2 mcar zo11.1 0 0 hF _ _ _ (lv_sub hl [3, 5, 6, 2, 1, 0] rfl) hP hD hS
abbrev w_X11_carries : List Cond := .code yX11_carries cX11_carries 6 (some .int) :: wU
abbrev r_X11_carries : Room := { frames := 4, cells := 0, slots := 0, locals := 92 }
abbrev q_X11_carries (g : GG) (q0 q1 q2 q3 q4 q5 q6 q7 q8 q9 q10 q11 q12 : Nat) (mm : Nat → Int64) (masd : Nat → Int64) (msav : Nat → Int64) (misS : Int32) (mpst : Nat → Int64) (mchg : Int32) (merr : Int32) (mfai : Int32) (mthr : Int32) (minp : Nat → Int32) (minM : Int32) (mUp : Nat → Int32) (mcar : Nat → Int32) (mcam : Nat → Int32) (mahd : Int32) (magn : Int32) (mltr : Nat → Int32) (mbeg : Nat → Int32) (mcmd : Nat → Int32) (mcmM : Int32) (mpl : Int32) (msz : Int32) (mwr : Int32) (mlin : Nat → Int32) (mliM : Int32) (o : Int32 × Int32 × (Nat → Int32)) (A : Nat → Prop) := va_Qi (fun (r : Int32) (u : Int32 × (Nat → Int32)) => o.1 = r ∧ o.2 = u) (fun u t => va_P (gD g) zCl (wModel g q0 q1 q2 q3 q4 q5 q6 q7 q8 q9 q10 q11 q12 mm masd msav misS mpst mchg merr mfai u.1 minp minM mUp u.2 mcam mahd magn mltr mbeg mcmd mcmM mpl msz mwr mlin mliM) t.heap) A
set_option maxHeartbeats 4000000 in
set_option maxRecDepth 100000 in
theorem c_X11_carries (l : Launch) (g : GG) (q0 q1 q2 q3 q4 q5 q6 q7 q8 q9 q10 q11 q12 : Nat) (mm : Nat → Int64) (masd : Nat → Int64) (msav : Nat → Int64) (misS : Int32) (mpst : Nat → Int64) (mchg : Int32) (merr : Int32) (mfai : Int32) (mthr : Int32) (minp : Nat → Int32) (minM : Int32) (mUp : Nat → Int32) (mcar : Nat → Int32) (mcam : Nat → Int32) (mahd : Int32) (magn : Int32) (mltr : Nat → Int32) (mbeg : Nat → Int32) (mcmd : Nat → Int32) (mcmM : Int32) (mpl : Int32) (msz : Int32) (mwr : Int32) (mlin : Nat → Int32) (mliM : Int32) (sz : Nat) (p1 : Int32) (p2 : Int32) (p3 : Int32) (fu : Nat) (o : Int32 × Int32 × (Nat → Int32)) (hF : F_X11_carries fu mm mthr mcar p1 p2 p3 = some o) : Met l yX11_carries w_X11_carries r_X11_carries (va_Pc [.ref q0, .int p1, .int p2, .int p3] (zP g (wModel g q0 q1 q2 q3 q4 q5 q6 q7 q8 q9 q10 q11 q12 mm masd msav misS mpst mchg merr mfai mthr minp minM mUp mcar mcam mahd magn mltr mbeg mcmd mcmM mpl msz mwr mlin mliM) sz)) (q_X11_carries g q0 q1 q2 q3 q4 q5 q6 q7 q8 q9 q10 q11 q12 mm masd msav misS mpst mchg merr mfai mthr minp minM mUp mcar mcam mahd magn mltr mbeg mcmd mcmM mpl msz mwr mlin mliM o (va_A (wModel g q0 q1 q2 q3 q4 q5 q6 q7 q8 q9 q10 q11 q12 mm masd msav misS mpst mchg merr mfai mthr minp minM mUp mcar mcam mahd magn mltr mbeg mcmd mcmM mpl msz mwr mlin mliM) sz)) 0 0 (va_A (wModel g q0 q1 q2 q3 q4 q5 q6 q7 q8 q9 q10 q11 q12 mm masd msav misS mpst mchg merr mfai mthr minp minM mUp mcar mcam mahd magn mltr mbeg mcmd mcmM mpl msz mwr mlin mliM) sz) := by
  refine Met.ofW (cc := cX11_carries) (maxL := 6) (ret := (some .int)) (by decide) rfl ?_
  intro p e s m args below meth c s₁ B hml hv
  obtain ⟨rfl, rfl, hP, hK, hD0, hB⟩ := hv
  have hx := B.exec
  have hb := B.bytes
  have hr := B.returns
  have hts : ∀ w ∈ wU, w.before _ s = true := fun w h => atoms_spec (ws := w_X11_carries) B.pre w (List.mem_cons_of_mem _ h)
  have hown : s.vm.findClass RX11 = some m.cls := findClass_of_methodNamed B.named
  have hlocks := B.notSynchronized
  have hD := hD0.self (sz := s.heap.size)
  generalize hAe : va_A (wModel g q0 q1 q2 q3 q4 q5 q6 q7 q8 q9 q10 q11 q12 mm masd msav misS mpst mchg merr mfai mthr minp minM mUp mcar mcam mahd magn mltr mbeg mcmd mcmM mpl msz mwr mlin mliM) s.heap.size = A at hD hB ⊢
  have hA : ∀ q : Nat, s.heap.size ≤ q → A q := fun q h => by rw [← hAe]; exact Or.inr h
  have hS : va_S A s.heap s.heap [] := va_S.rf
  have hl := lv_entry ([.ref q0, .int p1, .int p2, .int p3]) (n := 6) (Nat.le_of_ble_eq_true rfl)
  rw [lg_entry_eq]
  generalize (lg_sl ([.ref q0, .int p1, .int p2, .int p3]) ++ List.replicate (6 - (lg_sl ([.ref q0, .int p1, .int p2, .int p3])).length) Slot.unset).toArray = ls at hl ⊢
  have hl : lv_has ls 6 [(0, .ref q0), (1, .int p1), (2, .int p2), (3, .int p3)] := hl
  unfold F_X11_carries at hF
  have K24 : ∀ (n24 : Nat) (mthr : Int32) (mcar : Nat → Int32) (x4 : Int32) (x5 : Int32), F_X11_carries_24 fu n24 mm mthr mcar x4 x5 = some o → ∀ (H : Heap) (locs : List Loc) (ls : Array Slot), lv_has ls 6 [(0, .ref q0), (4, .int x4), (5, .int x5)] → va_P (gD g) zCl (wModel g q0 q1 q2 q3 q4 q5 q6 q7 q8 q9 q10 q11 q12 mm masd msav misS mpst mchg merr mfai mthr minp minM mUp mcar mcam mahd magn mltr mbeg mcmd mcmM mpl msz mwr mlin mliM) H → va_D A (wModel g q0 q1 q2 q3 q4 q5 q6 q7 q8 q9 q10 q11 q12 mm masd msav misS mpst mchg merr mfai mthr minp minM mUp mcar mcam mahd magn mltr mbeg mcmd mcmM mpl msz mwr mlin mliM) → va_S A s.heap H locs → W p l e (headSpec w_X11_carries r_X11_carries).room s m ([.ref q0, .int p1, .int p2, .int p3] : List Value).toArray below meth c H locs 0 0 (MQ below (q_X11_carries g q0 q1 q2 q3 q4 q5 q6 q7 q8 q9 q10 q11 q12 mm masd msav misS mpst mchg merr mfai mthr minp minM mUp mcar mcam mahd magn mltr mbeg mcmd mcmM mpl msz mwr mlin mliM o A) ([.ref q0, .int p1, .int p2, .int p3] : List Value).toArray s 0 0 A) (F0 m 24 ls []) := by
    intro n24
    induction n24 with
    | zero =>
      intro mthr mcar x4 x5 hF
      exact absurd hF (by simp [F_X11_carries_24])
    | succ n24 ih24 =>
      intro mthr mcar x4 x5 hF H locs ls hl hP hD hS
      unfold F_X11_carries_24 at hF
      refine lv_iload hx hb dX11_carries_24 (lv_at hl 2 rfl) ?_
      refine lv_bipush (v := 10) hx hb dX11_carries_26 (by decide) ?_
      refine lv_icmp_ge (tgt := 64) hx hb dX11_carries_28 (by decide) (fun zc1 => ?_) (fun zc1 => ?_)
      · have hF := z_pos hF zc1
        refine lv_iload hx hb dX11_carries_64 (lv_at hl 1 rfl) ?_
        have ho := (Option.some.inj hF).symm
        exact W.iret (v := x4) hx hb hr (fun t ht hW => ⟨⟨x4, (mthr, mcar), rfl, ⟨by rw [ho], by rw [ho]⟩, z_end ht hP⟩, hS.F ht⟩) hS.2.2 dX11_carries_66
      · have hF := z_neg hF zc1
        refine lv_aload_n hx hb dX11_carries_31 rfl (lv_at hl 0 rfl) ?_
        refine va_get (D := gD g) (ci := 7) (v := .int mthr) (C := RX11) (T := TX11) (N := 25) hx hb hts inX11 hown hK hP 0 rfl rfl 8 (by decide) (hts _ mU_1252) (fun _ h9 => h9) rfl dX11_carries_32 ?_
        refine lv_if_ne (tgt := 64) hx hb dX11_carries_35 (by decide) (fun zc2 => ?_) (fun zc2 => ?_)
        · have hF := z_neg hF zc2
          refine lv_iload hx hb dX11_carries_64 (lv_at hl 1 rfl) ?_
          have ho := (Option.some.inj hF).symm
          exact W.iret (v := x4) hx hb hr (fun t ht hW => ⟨⟨x4, (mthr, mcar), rfl, ⟨by rw [ho], by rw [ho]⟩, z_end ht hP⟩, hS.F ht⟩) hS.2.2 dX11_carries_66
        · have hF := z_pos hF zc2
          refine lv_iload hx hb dX11_carries_38 (lv_at hl 1 rfl) ?_
          refine lv_aload_n hx hb dX11_carries_40 rfl (lv_at hl 0 rfl) ?_
          refine va_get (D := gD g) (ci := 7) (v := .ref q7) (C := RX11) (T := TX11) (N := 25) hx hb hts inX11 hown hK hP 0 rfl rfl 12 (by decide) (hts _ mU_1256) (fun _ h9 => h9) rfl dX11_carries_41 ?_
          refine lv_iload hx hb dX11_carries_44 (lv_at hl 2 rfl) ?_
          obtain ⟨zg3, hF⟩ := z_grd hF
          refine va_zald hx hb hK hP 7 3 rfl rfl zg3 dX11_carries_46 ?_
          refine lv_if_eq (tgt := 54) hx hb dX11_carries_47 (by decide) (fun zc4 => ?_) (fun zc4 => ?_)
          · have hF := z_pos hF zc4
            refine lv_iconst (v := 0) hx hb dX11_carries_54 (by decide) ?_
            refine lv_iadd hx hb dX11_carries_55 ?_
            obtain ⟨zv5, ezv5, hF⟩ := z_let hF
            refine z_topi ezv5 ?_
            refine lv_istore (lv' := [(4, .int zv5), (0, .ref q0), (5, .int x5)]) hx hb dX11_carries_56 hl (by decide) rfl (fun ls hl => ?_)
            obtain ⟨zv6, ezv6, hF⟩ := z_let hF
            refine lv_iinc (v := zv6) (lv' := [(5, .int zv6), (4, .int zv5), (0, .ref q0)]) hx hb dX11_carries_58 hl (k := 2) rfl (by rw [ezv6]; rfl) (by decide) rfl (fun ls hl => ?_)
            refine lv_goto (tgt := 24) hx hb dX11_carries_61 (by decide) ?_
            exact ih24 mthr mcar zv5 zv6 hF _ _ _ (lv_sub hl [2, 1, 0] rfl) hP hD hS
          · have hF := z_neg hF zc4
            refine lv_iconst (v := 1) hx hb dX11_carries_50 (by decide) ?_
            refine lv_goto (tgt := 55) hx hb dX11_carries_51 (by decide) ?_
            refine lv_iadd hx hb dX11_carries_55 ?_
            obtain ⟨zv7, ezv7, hF⟩ := z_let hF
            refine z_topi ezv7 ?_
            refine lv_istore (lv' := [(4, .int zv7), (0, .ref q0), (5, .int x5)]) hx hb dX11_carries_56 hl (by decide) rfl (fun ls hl => ?_)
            obtain ⟨zv8, ezv8, hF⟩ := z_let hF
            refine lv_iinc (v := zv8) (lv' := [(5, .int zv8), (4, .int zv7), (0, .ref q0)]) hx hb dX11_carries_58 hl (k := 2) rfl (by rw [ezv8]; rfl) (by decide) rfl (fun ls hl => ?_)
            refine lv_goto (tgt := 24) hx hb dX11_carries_61 (by decide) ?_
            exact ih24 mthr mcar zv7 zv8 hF _ _ _ (lv_sub hl [2, 1, 0] rfl) hP hD hS
  refine lv_aload_n hx hb dX11_carries_0 rfl (lv_at hl 0 rfl) ?_
  refine lv_iload_n hx hb dX11_carries_1 rfl (lv_at hl 1 rfl) ?_
  refine lv_iload_n hx hb dX11_carries_2 rfl (lv_at hl 2 rfl) ?_
  refine lv_iload_n hx hb dX11_carries_3 rfl (lv_at hl 3 rfl) ?_
  obtain ⟨zo9, hzo9, hF⟩ := z_bind hF
  refine z_callvE (fun (u : Int32 × (Nat → Int32)) => (wModel g q0 q1 q2 q3 q4 q5 q6 q7 q8 q9 q10 q11 q12 mm masd msav misS mpst mchg merr mfai u.1 minp minM mUp u.2 mcam mahd magn mltr mbeg mcmd mcmM mpl msz mwr mlin mliM)) (va_runV (As := [.int p1, .int p2, .int p3]) (rest := []) ⟨hx, hb, hml, hown, hts⟩ (c_X11_adds l g q0 q1 q2 q3 q4 q5 q6 q7 q8 q9 q10 q11 q12 mm masd msav misS mpst mchg merr mfai mthr minp minM mUp mcar mcam mahd magn mltr mbeg mcmd mcmM mpl msz mwr mlin mliM _ p1 p2 p3 fu _ hzo9) (cwV 3 hts (gdV mU_1524 mU_1526 mU_49 mU_75 mU_1527) rfl rfl rfl (by decide +kernel) ⟨Nat.le_of_ble_eq_true rfl, Nat.le_of_ble_eq_true rfl⟩) ⟨z_blind _ _ _ _, va_recv hK hP (ci := 7) (q0 := 0) rfl rfl, fun U hU hW => z_preE hP hD hK hB hS hA hU hW⟩ rfl rfl hl.1 rfl (lv_room (Nat.le_of_ble_eq_true rfl)) dX11_carries_4 ⟨Nat.le_of_ble_eq_true rfl, Nat.le_of_ble_eq_true rfl⟩) hD hS hA (fun _ => rfl) (fun u H locs hw hP hD hS => ?_)
  subst hw
  have hP : va_P (gD g) zCl (wModel g q0 q1 q2 q3 q4 q5 q6 q7 q8 q9 q10 q11 q12 mm masd msav misS mpst mchg merr mfai zo9.1 minp minM mUp zo9.2 mcam mahd magn mltr mbeg mcmd mcmM mpl msz mwr mlin mliM) H := hP
  have hD : va_D A (wModel g q0 q1 q2 q3 q4 q5 q6 q7 q8 q9 q10 q11 q12 mm masd msav misS mpst mchg merr mfai zo9.1 minp minM mUp zo9.2 mcam mahd magn mltr mbeg mcmd mcmM mpl msz mwr mlin mliM) := hD
  refine lv_aload_n hx hb dX11_carries_7 rfl (lv_at hl 0 rfl) ?_
  refine va_get (D := gD g) (ci := 7) (v := .int zo9.1) (C := RX11) (T := TX11) (N := 25) hx hb hts inX11 hown hK hP 0 rfl rfl 8 (by decide) (hts _ mU_1252) (fun _ h9 => h9) rfl dX11_carries_8 ?_
  refine lv_if_le (tgt := 18) hx hb dX11_carries_11 (by decide) (fun zc10 => ?_) (fun zc10 => ?_)
  · have hF := z_pos hF zc10
    refine lv_iconst (v := 0) hx hb dX11_carries_18 (by decide) ?_
    refine lv_istore (lv' := [(4, .int 0), (0, .ref q0), (1, .int p1), (2, .int p2), (3, .int p3)]) hx hb dX11_carries_19 hl (by decide) rfl (fun ls hl => ?_)
    refine lv_iconst (v := 0) hx hb dX11_carries_21 (by decide) ?_
    refine lv_istore (lv' := [(5, .int 0), (4, .int 0), (0, .ref q0), (1, .int p1), (2, .int p2), (3, .int p3)]) hx hb dX11_carries_22 hl (by decide) rfl (fun ls hl => ?_)
    exact K24 fu zo9.1 zo9.2 0 0 hF _ _ _ (lv_sub hl [2, 1, 0] rfl) hP hD hS
  · have hF := z_neg hF zc10
    refine lv_iconst (v := (-1)) hx hb dX11_carries_14 (by decide) ?_
    refine lv_goto (tgt := 19) hx hb dX11_carries_15 (by decide) ?_
    refine lv_istore (lv' := [(4, .int (-1)), (0, .ref q0), (1, .int p1), (2, .int p2), (3, .int p3)]) hx hb dX11_carries_19 hl (by decide) rfl (fun ls hl => ?_)
    refine lv_iconst (v := 0) hx hb dX11_carries_21 (by decide) ?_
    refine lv_istore (lv' := [(5, .int 0), (4, .int (-1)), (0, .ref q0), (1, .int p1), (2, .int p2), (3, .int p3)]) hx hb dX11_carries_22 hl (by decide) rfl (fun ls hl => ?_)
    exact K24 fu zo9.1 zo9.2 (-1) 0 hF _ _ _ (lv_sub hl [2, 1, 0] rfl) hP hD hS
abbrev w_X11_carriesBySums : List Cond := .code yX11_carriesBySums cX11_carriesBySums 4 (some .int) :: wU
abbrev r_X11_carriesBySums : Room := { frames := 5, cells := 0, slots := 0, locals := 117 }
abbrev q_X11_carriesBySums (g : GG) (q0 q1 q2 q3 q4 q5 q6 q7 q8 q9 q10 q11 q12 : Nat) (mm : Nat → Int64) (masd : Nat → Int64) (msav : Nat → Int64) (misS : Int32) (mpst : Nat → Int64) (mchg : Int32) (merr : Int32) (mfai : Int32) (mthr : Int32) (minp : Nat → Int32) (minM : Int32) (mUp : Nat → Int32) (mcar : Nat → Int32) (mcam : Nat → Int32) (mahd : Int32) (magn : Int32) (mltr : Nat → Int32) (mbeg : Nat → Int32) (mcmd : Nat → Int32) (mcmM : Int32) (mpl : Int32) (msz : Int32) (mwr : Int32) (mlin : Nat → Int32) (mliM : Int32) (o : Int32 × Int32 × (Nat → Int32)) (A : Nat → Prop) := va_Qi (fun (r : Int32) (u : Int32 × (Nat → Int32)) => o.1 = r ∧ o.2 = u) (fun u t => va_P (gD g) zCl (wModel g q0 q1 q2 q3 q4 q5 q6 q7 q8 q9 q10 q11 q12 mm masd msav misS mpst mchg merr mfai u.1 minp minM mUp u.2 mcam mahd magn mltr mbeg mcmd mcmM mpl msz mwr mlin mliM) t.heap) A
set_option maxHeartbeats 4000000 in
set_option maxRecDepth 100000 in
theorem c_X11_carriesBySums (l : Launch) (g : GG) (q0 q1 q2 q3 q4 q5 q6 q7 q8 q9 q10 q11 q12 : Nat) (mm : Nat → Int64) (masd : Nat → Int64) (msav : Nat → Int64) (misS : Int32) (mpst : Nat → Int64) (mchg : Int32) (merr : Int32) (mfai : Int32) (mthr : Int32) (minp : Nat → Int32) (minM : Int32) (mUp : Nat → Int32) (mcar : Nat → Int32) (mcam : Nat → Int32) (mahd : Int32) (magn : Int32) (mltr : Nat → Int32) (mbeg : Nat → Int32) (mcmd : Nat → Int32) (mcmM : Int32) (mpl : Int32) (msz : Int32) (mwr : Int32) (mlin : Nat → Int32) (mliM : Int32) (sz : Nat) (p1 : Int32) (p2 : Int32) (p3 : Int32) (fu : Nat) (o : Int32 × Int32 × (Nat → Int32)) (hF : F_X11_carriesBySums fu mm mthr mcar p1 p2 p3 = some o) : Met l yX11_carriesBySums w_X11_carriesBySums r_X11_carriesBySums (va_Pc [.ref q0, .int p1, .int p2, .int p3] (zP g (wModel g q0 q1 q2 q3 q4 q5 q6 q7 q8 q9 q10 q11 q12 mm masd msav misS mpst mchg merr mfai mthr minp minM mUp mcar mcam mahd magn mltr mbeg mcmd mcmM mpl msz mwr mlin mliM) sz)) (q_X11_carriesBySums g q0 q1 q2 q3 q4 q5 q6 q7 q8 q9 q10 q11 q12 mm masd msav misS mpst mchg merr mfai mthr minp minM mUp mcar mcam mahd magn mltr mbeg mcmd mcmM mpl msz mwr mlin mliM o (va_A (wModel g q0 q1 q2 q3 q4 q5 q6 q7 q8 q9 q10 q11 q12 mm masd msav misS mpst mchg merr mfai mthr minp minM mUp mcar mcam mahd magn mltr mbeg mcmd mcmM mpl msz mwr mlin mliM) sz)) 0 0 (va_A (wModel g q0 q1 q2 q3 q4 q5 q6 q7 q8 q9 q10 q11 q12 mm masd msav misS mpst mchg merr mfai mthr minp minM mUp mcar mcam mahd magn mltr mbeg mcmd mcmM mpl msz mwr mlin mliM) sz) := by
  refine Met.ofW (cc := cX11_carriesBySums) (maxL := 4) (ret := (some .int)) (by decide) rfl ?_
  intro p e s m args below meth c s₁ B hml hv
  obtain ⟨rfl, rfl, hP, hK, hD0, hB⟩ := hv
  have hx := B.exec
  have hb := B.bytes
  have hr := B.returns
  have hts : ∀ w ∈ wU, w.before _ s = true := fun w h => atoms_spec (ws := w_X11_carriesBySums) B.pre w (List.mem_cons_of_mem _ h)
  have hown : s.vm.findClass RX11 = some m.cls := findClass_of_methodNamed B.named
  have hlocks := B.notSynchronized
  have hD := hD0.self (sz := s.heap.size)
  generalize hAe : va_A (wModel g q0 q1 q2 q3 q4 q5 q6 q7 q8 q9 q10 q11 q12 mm masd msav misS mpst mchg merr mfai mthr minp minM mUp mcar mcam mahd magn mltr mbeg mcmd mcmM mpl msz mwr mlin mliM) s.heap.size = A at hD hB ⊢
  have hA : ∀ q : Nat, s.heap.size ≤ q → A q := fun q h => by rw [← hAe]; exact Or.inr h
  have hS : va_S A s.heap s.heap [] := va_S.rf
  have hl := lv_entry ([.ref q0, .int p1, .int p2, .int p3]) (n := 4) (Nat.le_of_ble_eq_true rfl)
  rw [lg_entry_eq]
  generalize (lg_sl ([.ref q0, .int p1, .int p2, .int p3]) ++ List.replicate (4 - (lg_sl ([.ref q0, .int p1, .int p2, .int p3])).length) Slot.unset).toArray = ls at hl ⊢
  have hl : lv_has ls 4 [(0, .ref q0), (1, .int p1), (2, .int p2), (3, .int p3)] := hl
  unfold F_X11_carriesBySums at hF
  refine lv_aload_n hx hb dX11_carriesBySums_0 rfl (lv_at hl 0 rfl) ?_
  refine lv_iload_n hx hb dX11_carriesBySums_1 rfl (lv_at hl 1 rfl) ?_
  refine lv_iload_n hx hb dX11_carriesBySums_2 rfl (lv_at hl 2 rfl) ?_
  refine lv_iload_n hx hb dX11_carriesBySums_3 rfl (lv_at hl 3 rfl) ?_
  obtain ⟨zo1, hzo1, hF⟩ := z_bind hF
  refine z_calliE (fun (u : Int32 × (Nat → Int32)) => (wModel g q0 q1 q2 q3 q4 q5 q6 q7 q8 q9 q10 q11 q12 mm masd msav misS mpst mchg merr mfai u.1 minp minM mUp u.2 mcam mahd magn mltr mbeg mcmd mcmM mpl msz mwr mlin mliM)) (va_runV (As := [.int p1, .int p2, .int p3]) (rest := []) ⟨hx, hb, hml, hown, hts⟩ (c_X11_carries l g q0 q1 q2 q3 q4 q5 q6 q7 q8 q9 q10 q11 q12 mm masd msav misS mpst mchg merr mfai mthr minp minM mUp mcar mcam mahd magn mltr mbeg mcmd mcmM mpl msz mwr mlin mliM _ p1 p2 p3 fu _ hzo1) (cwV 3 hts (gdV mU_1532 mU_1521 mU_1522 mU_75 mU_1523) rfl rfl rfl (by decide +kernel) ⟨Nat.le_of_ble_eq_true rfl, Nat.le_of_ble_eq_true rfl⟩) ⟨z_blind _ _ _ _, va_recv hK hP (ci := 7) (q0 := 0) rfl rfl, fun U hU hW => z_preE hP hD hK hB hS hA hU hW⟩ rfl rfl hl.1 rfl (lv_room (Nat.le_of_ble_eq_true rfl)) dX11_carriesBySums_4 ⟨Nat.le_of_ble_eq_true rfl, Nat.le_of_ble_eq_true rfl⟩) hD hS hA (fun _ => rfl) (fun r u H locs hw hP hD hS => ?_)
  obtain ⟨rfl, rfl⟩ := hw
  have hP : va_P (gD g) zCl (wModel g q0 q1 q2 q3 q4 q5 q6 q7 q8 q9 q10 q11 q12 mm masd msav misS mpst mchg merr mfai zo1.2.1 minp minM mUp zo1.2.2 mcam mahd magn mltr mbeg mcmd mcmM mpl msz mwr mlin mliM) H := hP
  have hD : va_D A (wModel g q0 q1 q2 q3 q4 q5 q6 q7 q8 q9 q10 q11 q12 mm masd msav misS mpst mchg merr mfai zo1.2.1 minp minM mUp zo1.2.2 mcam mahd magn mltr mbeg mcmd mcmM mpl msz mwr mlin mliM) := hD
  have ho := (Option.some.inj hF).symm
  exact W.iret (v := zo1.1) hx hb hr (fun t ht hW => ⟨⟨zo1.1, (zo1.2.1, zo1.2.2), rfl, ⟨by rw [ho], by rw [ho]⟩, z_end ht hP⟩, hS.F ht⟩) hS.2.2 dX11_carriesBySums_7
abbrev w_X11_longestCarry : List Cond := .code yX11_longestCarry cX11_longestCarry 7 (some .int) :: wU
abbrev r_X11_longestCarry : Room := { frames := 4, cells := 0, slots := 0, locals := 92 }
abbrev q_X11_longestCarry (g : GG) (q0 q1 q2 q3 q4 q5 q6 q7 q8 q9 q10 q11 q12 : Nat) (mm : Nat → Int64) (masd : Nat → Int64) (msav : Nat → Int64) (misS : Int32) (mpst : Nat → Int64) (mchg : Int32) (merr : Int32) (mfai : Int32) (mthr : Int32) (minp : Nat → Int32) (minM : Int32) (mUp : Nat → Int32) (mcar : Nat → Int32) (mcam : Nat → Int32) (mahd : Int32) (magn : Int32) (mltr : Nat → Int32) (mbeg : Nat → Int32) (mcmd : Nat → Int32) (mcmM : Int32) (mpl : Int32) (msz : Int32) (mwr : Int32) (mlin : Nat → Int32) (mliM : Int32) (o : Int32 × Int32 × (Nat → Int32)) (A : Nat → Prop) := va_Qi (fun (r : Int32) (u : Int32 × (Nat → Int32)) => o.1 = r ∧ o.2 = u) (fun u t => va_P (gD g) zCl (wModel g q0 q1 q2 q3 q4 q5 q6 q7 q8 q9 q10 q11 q12 mm masd msav misS mpst mchg merr mfai u.1 minp minM mUp u.2 mcam mahd magn mltr mbeg mcmd mcmM mpl msz mwr mlin mliM) t.heap) A
set_option maxHeartbeats 4000000 in
set_option maxRecDepth 100000 in
theorem c_X11_longestCarry (l : Launch) (g : GG) (q0 q1 q2 q3 q4 q5 q6 q7 q8 q9 q10 q11 q12 : Nat) (mm : Nat → Int64) (masd : Nat → Int64) (msav : Nat → Int64) (misS : Int32) (mpst : Nat → Int64) (mchg : Int32) (merr : Int32) (mfai : Int32) (mthr : Int32) (minp : Nat → Int32) (minM : Int32) (mUp : Nat → Int32) (mcar : Nat → Int32) (mcam : Nat → Int32) (mahd : Int32) (magn : Int32) (mltr : Nat → Int32) (mbeg : Nat → Int32) (mcmd : Nat → Int32) (mcmM : Int32) (mpl : Int32) (msz : Int32) (mwr : Int32) (mlin : Nat → Int32) (mliM : Int32) (sz : Nat) (p1 : Int32) (p2 : Int32) (p3 : Int32) (fu : Nat) (o : Int32 × Int32 × (Nat → Int32)) (hF : F_X11_longestCarry fu mm mthr mcar p1 p2 p3 = some o) : Met l yX11_longestCarry w_X11_longestCarry r_X11_longestCarry (va_Pc [.ref q0, .int p1, .int p2, .int p3] (zP g (wModel g q0 q1 q2 q3 q4 q5 q6 q7 q8 q9 q10 q11 q12 mm masd msav misS mpst mchg merr mfai mthr minp minM mUp mcar mcam mahd magn mltr mbeg mcmd mcmM mpl msz mwr mlin mliM) sz)) (q_X11_longestCarry g q0 q1 q2 q3 q4 q5 q6 q7 q8 q9 q10 q11 q12 mm masd msav misS mpst mchg merr mfai mthr minp minM mUp mcar mcam mahd magn mltr mbeg mcmd mcmM mpl msz mwr mlin mliM o (va_A (wModel g q0 q1 q2 q3 q4 q5 q6 q7 q8 q9 q10 q11 q12 mm masd msav misS mpst mchg merr mfai mthr minp minM mUp mcar mcam mahd magn mltr mbeg mcmd mcmM mpl msz mwr mlin mliM) sz)) 0 0 (va_A (wModel g q0 q1 q2 q3 q4 q5 q6 q7 q8 q9 q10 q11 q12 mm masd msav misS mpst mchg merr mfai mthr minp minM mUp mcar mcam mahd magn mltr mbeg mcmd mcmM mpl msz mwr mlin mliM) sz) := by
  refine Met.ofW (cc := cX11_longestCarry) (maxL := 7) (ret := (some .int)) (by decide) rfl ?_
  intro p e s m args below meth c s₁ B hml hv
  obtain ⟨rfl, rfl, hP, hK, hD0, hB⟩ := hv
  have hx := B.exec
  have hb := B.bytes
  have hr := B.returns
  have hts : ∀ w ∈ wU, w.before _ s = true := fun w h => atoms_spec (ws := w_X11_longestCarry) B.pre w (List.mem_cons_of_mem _ h)
  have hown : s.vm.findClass RX11 = some m.cls := findClass_of_methodNamed B.named
  have hlocks := B.notSynchronized
  have hD := hD0.self (sz := s.heap.size)
  generalize hAe : va_A (wModel g q0 q1 q2 q3 q4 q5 q6 q7 q8 q9 q10 q11 q12 mm masd msav misS mpst mchg merr mfai mthr minp minM mUp mcar mcam mahd magn mltr mbeg mcmd mcmM mpl msz mwr mlin mliM) s.heap.size = A at hD hB ⊢
  have hA : ∀ q : Nat, s.heap.size ≤ q → A q := fun q h => by rw [← hAe]; exact Or.inr h
  have hS : va_S A s.heap s.heap [] := va_S.rf
  have hl := lv_entry ([.ref q0, .int p1, .int p2, .int p3]) (n := 7) (Nat.le_of_ble_eq_true rfl)
  rw [lg_entry_eq]
  generalize (lg_sl ([.ref q0, .int p1, .int p2, .int p3]) ++ List.replicate (7 - (lg_sl ([.ref q0, .int p1, .int p2, .int p3])).length) Slot.unset).toArray = ls at hl ⊢
  have hl : lv_has ls 7 [(0, .ref q0), (1, .int p1), (2, .int p2), (3, .int p3)] := hl
  unfold F_X11_longestCarry at hF
  have K27 : ∀ (n27 : Nat) (mthr : Int32) (mcar : Nat → Int32) (x4 : Int32) (x5 : Int32) (x6 : Int32), F_X11_longestCarry_27 fu n27 mm mthr mcar x4 x5 x6 = some o → ∀ (H : Heap) (locs : List Loc) (ls : Array Slot), lv_has ls 7 [(0, .ref q0), (4, .int x4), (5, .int x5), (6, .int x6)] → va_P (gD g) zCl (wModel g q0 q1 q2 q3 q4 q5 q6 q7 q8 q9 q10 q11 q12 mm masd msav misS mpst mchg merr mfai mthr minp minM mUp mcar mcam mahd magn mltr mbeg mcmd mcmM mpl msz mwr mlin mliM) H → va_D A (wModel g q0 q1 q2 q3 q4 q5 q6 q7 q8 q9 q10 q11 q12 mm masd msav misS mpst mchg merr mfai mthr minp minM mUp mcar mcam mahd magn mltr mbeg mcmd mcmM mpl msz mwr mlin mliM) → va_S A s.heap H locs → W p l e (headSpec w_X11_longestCarry r_X11_longestCarry).room s m ([.ref q0, .int p1, .int p2, .int p3] : List Value).toArray below meth c H locs 0 0 (MQ below (q_X11_longestCarry g q0 q1 q2 q3 q4 q5 q6 q7 q8 q9 q10 q11 q12 mm masd msav misS mpst mchg merr mfai mthr minp minM mUp mcar mcam mahd magn mltr mbeg mcmd mcmM mpl msz mwr mlin mliM o A) ([.ref q0, .int p1, .int p2, .int p3] : List Value).toArray s 0 0 A) (F0 m 27 ls []) := by
    intro n27
    induction n27 with
    | zero =>
      intro mthr mcar x4 x5 x6 hF
      exact absurd hF (by simp [F_X11_longestCarry_27])
    | succ n27 ih27 =>
      intro mthr mcar x4 x5 x6 hF H locs ls hl hP hD hS
      unfold F_X11_longestCarry_27 at hF
      refine lv_iload hx hb dX11_longestCarry_27 (lv_at hl 3 rfl) ?_
      refine lv_bipush (v := 10) hx hb dX11_longestCarry_29 (by decide) ?_
      refine lv_icmp_ge (tgt := 76) hx hb dX11_longestCarry_31 (by decide) (fun zc1 => ?_) (fun zc1 => ?_)
      · have hF := z_pos hF zc1
        refine lv_iload hx hb dX11_longestCarry_76 (lv_at hl 1 rfl) ?_
        have ho := (Option.some.inj hF).symm
        exact W.iret (v := x4) hx hb hr (fun t ht hW => ⟨⟨x4, (mthr, mcar), rfl, ⟨by rw [ho], by rw [ho]⟩, z_end ht hP⟩, hS.F ht⟩) hS.2.2 dX11_longestCarry_78
      · have hF := z_neg hF zc1
        refine lv_aload_n hx hb dX11_longestCarry_34 rfl (lv_at hl 0 rfl) ?_
        refine va_get (D := gD g) (ci := 7) (v := .int mthr) (C := RX11) (T := TX11) (N := 25) hx hb hts inX11 hown hK hP 0 rfl rfl 8 (by decide) (hts _ mU_1252) (fun _ h9 => h9) rfl dX11_longestCarry_35 ?_
        refine lv_if_ne (tgt := 76) hx hb dX11_longestCarry_38 (by decide) (fun zc2 => ?_) (fun zc2 => ?_)
        · have hF := z_neg hF zc2
          refine lv_iload hx hb dX11_longestCarry_76 (lv_at hl 1 rfl) ?_
          have ho := (Option.some.inj hF).symm
          exact W.iret (v := x4) hx hb hr (fun t ht hW => ⟨⟨x4, (mthr, mcar), rfl, ⟨by rw [ho], by rw [ho]⟩, z_end ht hP⟩, hS.F ht⟩) hS.2.2 dX11_longestCarry_78
        · have hF := z_pos hF zc2
          refine lv_aload_n hx hb dX11_longestCarry_41 rfl (lv_at hl 0 rfl) ?_
          refine va_get (D := gD g) (ci := 7) (v := .ref q7) (C := RX11) (T := TX11) (N := 25) hx hb hts inX11 hown hK hP 0 rfl rfl 12 (by decide) (hts _ mU_1256) (fun _ h9 => h9) rfl dX11_longestCarry_42 ?_
          refine lv_iload hx hb dX11_longestCarry_45 (lv_at hl 3 rfl) ?_
          obtain ⟨zg3, hF⟩ := z_grd hF
          refine va_zald hx hb hK hP 7 3 rfl rfl zg3 dX11_longestCarry_47 ?_
          refine lv_if_eq (tgt := 58) hx hb dX11_longestCarry_48 (by decide) (fun zc4 => ?_) (fun zc4 => ?_)
          · have hF := z_pos hF zc4
            refine lv_iconst (v := 0) hx hb dX11_longestCarry_58 (by decide) ?_
            refine lv_istore (lv' := [(5, .int 0), (0, .ref q0), (4, .int x4), (6, .int x6)]) hx hb dX11_longestCarry_59 hl (by decide) rfl (fun ls hl => ?_)
            refine lv_iload hx hb dX11_longestCarry_61 (lv_at hl 2 rfl) ?_
            refine lv_iload hx hb dX11_longestCarry_63 (lv_at hl 0 rfl) ?_
            refine va_mmax hx hb (hml.trans hl.1.symm) hown (hts _ mU_1537) (hts _ mU_565) (hts _ mU_83) (hts _ mU_566) (Nat.le_of_ble_eq_true rfl) (Nat.le_of_ble_eq_true rfl) (Nat.le_of_ble_eq_true rfl) (Nat.le_of_ble_eq_true rfl) dX11_longestCarry_65 ?_
            obtain ⟨zv5, ezv5, hF⟩ := z_let hF
            refine z_topi ezv5 ?_
            refine lv_istore (lv' := [(4, .int zv5), (5, .int 0), (0, .ref q0), (6, .int x6)]) hx hb dX11_longestCarry_68 hl (by decide) rfl (fun ls hl => ?_)
            obtain ⟨zv6, ezv6, hF⟩ := z_let hF
            refine lv_iinc (v := zv6) (lv' := [(6, .int zv6), (4, .int zv5), (5, .int 0), (0, .ref q0)]) hx hb dX11_longestCarry_70 hl (k := 3) rfl (by rw [ezv6]; rfl) (by decide) rfl (fun ls hl => ?_)
            refine lv_goto (tgt := 27) hx hb dX11_longestCarry_73 (by decide) ?_
            exact ih27 mthr mcar zv5 0 zv6 hF _ _ _ (lv_sub hl [3, 1, 2, 0] rfl) hP hD hS
          · have hF := z_neg hF zc4
            refine lv_iload hx hb dX11_longestCarry_51 (lv_at hl 2 rfl) ?_
            refine lv_iconst (v := 1) hx hb dX11_longestCarry_53 (by decide) ?_
            refine lv_iadd hx hb dX11_longestCarry_54 ?_
            refine lv_goto (tgt := 59) hx hb dX11_longestCarry_55 (by decide) ?_
            obtain ⟨zv7, ezv7, hF⟩ := z_let hF
            refine z_topi ezv7 ?_
            refine lv_istore (lv' := [(5, .int zv7), (0, .ref q0), (4, .int x4), (6, .int x6)]) hx hb dX11_longestCarry_59 hl (by decide) rfl (fun ls hl => ?_)
            refine lv_iload hx hb dX11_longestCarry_61 (lv_at hl 2 rfl) ?_
            refine lv_iload hx hb dX11_longestCarry_63 (lv_at hl 0 rfl) ?_
            refine va_mmax hx hb (hml.trans hl.1.symm) hown (hts _ mU_1537) (hts _ mU_565) (hts _ mU_83) (hts _ mU_566) (Nat.le_of_ble_eq_true rfl) (Nat.le_of_ble_eq_true rfl) (Nat.le_of_ble_eq_true rfl) (Nat.le_of_ble_eq_true rfl) dX11_longestCarry_65 ?_
            obtain ⟨zv8, ezv8, hF⟩ := z_let hF
            refine z_topi ezv8 ?_
            refine lv_istore (lv' := [(4, .int zv8), (5, .int zv7), (0, .ref q0), (6, .int x6)]) hx hb dX11_longestCarry_68 hl (by decide) rfl (fun ls hl => ?_)
            obtain ⟨zv9, ezv9, hF⟩ := z_let hF
            refine lv_iinc (v := zv9) (lv' := [(6, .int zv9), (4, .int zv8), (5, .int zv7), (0, .ref q0)]) hx hb dX11_longestCarry_70 hl (k := 3) rfl (by rw [ezv9]; rfl) (by decide) rfl (fun ls hl => ?_)
            refine lv_goto (tgt := 27) hx hb dX11_longestCarry_73 (by decide) ?_
            exact ih27 mthr mcar zv8 zv7 zv9 hF _ _ _ (lv_sub hl [3, 1, 2, 0] rfl) hP hD hS
  refine lv_aload_n hx hb dX11_longestCarry_0 rfl (lv_at hl 0 rfl) ?_
  refine lv_iload_n hx hb dX11_longestCarry_1 rfl (lv_at hl 1 rfl) ?_
  refine lv_iload_n hx hb dX11_longestCarry_2 rfl (lv_at hl 2 rfl) ?_
  refine lv_iload_n hx hb dX11_longestCarry_3 rfl (lv_at hl 3 rfl) ?_
  obtain ⟨zo10, hzo10, hF⟩ := z_bind hF
  refine z_callvE (fun (u : Int32 × (Nat → Int32)) => (wModel g q0 q1 q2 q3 q4 q5 q6 q7 q8 q9 q10 q11 q12 mm masd msav misS mpst mchg merr mfai u.1 minp minM mUp u.2 mcam mahd magn mltr mbeg mcmd mcmM mpl msz mwr mlin mliM)) (va_runV (As := [.int p1, .int p2, .int p3]) (rest := []) ⟨hx, hb, hml, hown, hts⟩ (c_X11_adds l g q0 q1 q2 q3 q4 q5 q6 q7 q8 q9 q10 q11 q12 mm masd msav misS mpst mchg merr mfai mthr minp minM mUp mcar mcam mahd magn mltr mbeg mcmd mcmM mpl msz mwr mlin mliM _ p1 p2 p3 fu _ hzo10) (cwV 3 hts (gdV mU_1524 mU_1526 mU_49 mU_75 mU_1527) rfl rfl rfl (by decide +kernel) ⟨Nat.le_of_ble_eq_true rfl, Nat.le_of_ble_eq_true rfl⟩) ⟨z_blind _ _ _ _, va_recv hK hP (ci := 7) (q0 := 0) rfl rfl, fun U hU hW => z_preE hP hD hK hB hS hA hU hW⟩ rfl rfl hl.1 rfl (lv_room (Nat.le_of_ble_eq_true rfl)) dX11_longestCarry_4 ⟨Nat.le_of_ble_eq_true rfl, Nat.le_of_ble_eq_true rfl⟩) hD hS hA (fun _ => rfl) (fun u H locs hw hP hD hS => ?_)
  subst hw
  have hP : va_P (gD g) zCl (wModel g q0 q1 q2 q3 q4 q5 q6 q7 q8 q9 q10 q11 q12 mm masd msav misS mpst mchg merr mfai zo10.1 minp minM mUp zo10.2 mcam mahd magn mltr mbeg mcmd mcmM mpl msz mwr mlin mliM) H := hP
  have hD : va_D A (wModel g q0 q1 q2 q3 q4 q5 q6 q7 q8 q9 q10 q11 q12 mm masd msav misS mpst mchg merr mfai zo10.1 minp minM mUp zo10.2 mcam mahd magn mltr mbeg mcmd mcmM mpl msz mwr mlin mliM) := hD
  refine lv_aload_n hx hb dX11_longestCarry_7 rfl (lv_at hl 0 rfl) ?_
  refine va_get (D := gD g) (ci := 7) (v := .int zo10.1) (C := RX11) (T := TX11) (N := 25) hx hb hts inX11 hown hK hP 0 rfl rfl 8 (by decide) (hts _ mU_1252) (fun _ h9 => h9) rfl dX11_longestCarry_8 ?_
  refine lv_if_le (tgt := 18) hx hb dX11_longestCarry_11 (by decide) (fun zc11 => ?_) (fun zc11 => ?_)
  · have hF := z_pos hF zc11
    refine lv_iconst (v := 0) hx hb dX11_longestCarry_18 (by decide) ?_
    refine lv_istore (lv' := [(4, .int 0), (0, .ref q0), (1, .int p1), (2, .int p2), (3, .int p3)]) hx hb dX11_longestCarry_19 hl (by decide) rfl (fun ls hl => ?_)
    refine lv_iconst (v := 0) hx hb dX11_longestCarry_21 (by decide) ?_
    refine lv_istore (lv' := [(5, .int 0), (4, .int 0), (0, .ref q0), (1, .int p1), (2, .int p2), (3, .int p3)]) hx hb dX11_longestCarry_22 hl (by decide) rfl (fun ls hl => ?_)
    refine lv_iconst (v := 0) hx hb dX11_longestCarry_24 (by decide) ?_
    refine lv_istore (lv' := [(6, .int 0), (5, .int 0), (4, .int 0), (0, .ref q0), (1, .int p1), (2, .int p2), (3, .int p3)]) hx hb dX11_longestCarry_25 hl (by decide) rfl (fun ls hl => ?_)
    exact K27 fu zo10.1 zo10.2 0 0 0 hF _ _ _ (lv_sub hl [3, 2, 1, 0] rfl) hP hD hS
  · have hF := z_neg hF zc11
    refine lv_iconst (v := (-1)) hx hb dX11_longestCarry_14 (by decide) ?_
    refine lv_goto (tgt := 19) hx hb dX11_longestCarry_15 (by decide) ?_
    refine lv_istore (lv' := [(4, .int (-1)), (0, .ref q0), (1, .int p1), (2, .int p2), (3, .int p3)]) hx hb dX11_longestCarry_19 hl (by decide) rfl (fun ls hl => ?_)
    refine lv_iconst (v := 0) hx hb dX11_longestCarry_21 (by decide) ?_
    refine lv_istore (lv' := [(5, .int 0), (4, .int (-1)), (0, .ref q0), (1, .int p1), (2, .int p2), (3, .int p3)]) hx hb dX11_longestCarry_22 hl (by decide) rfl (fun ls hl => ?_)
    refine lv_iconst (v := 0) hx hb dX11_longestCarry_24 (by decide) ?_
    refine lv_istore (lv' := [(6, .int 0), (5, .int 0), (4, .int (-1)), (0, .ref q0), (1, .int p1), (2, .int p2), (3, .int p3)]) hx hb dX11_longestCarry_25 hl (by decide) rfl (fun ls hl => ?_)
    exact K27 fu zo10.1 zo10.2 (-1) 0 0 hF _ _ _ (lv_sub hl [3, 2, 1, 0] rfl) hP hD hS
abbrev w_X11_togetherError : List Cond := .code yX11_togetherError cX11_togetherError 5 (some .long) :: wU
abbrev r_X11_togetherError : Room := { frames := 3, cells := 0, slots := 0, locals := 79 }
abbrev q_X11_togetherError (g : GG) (q0 q1 q2 q3 q4 q5 q6 q7 q8 q9 q10 q11 q12 : Nat) (mm : Nat → Int64) (masd : Nat → Int64) (msav : Nat → Int64) (misS : Int32) (mpst : Nat → Int64) (mchg : Int32) (merr : Int32) (mfai : Int32) (mthr : Int32) (minp : Nat → Int32) (minM : Int32) (mUp : Nat → Int32) (mcar : Nat → Int32) (mcam : Nat → Int32) (mahd : Int32) (magn : Int32) (mltr : Nat → Int32) (mbeg : Nat → Int32) (mcmd : Nat → Int32) (mcmM : Int32) (mpl : Int32) (msz : Int32) (mwr : Int32) (mlin : Nat → Int32) (mliM : Int32) (o : Int64 × Int32 × (Nat → Int32)) (A : Nat → Prop) := va_Ql (fun (r : Int64) (u : Int32 × (Nat → Int32)) => o.1 = r ∧ o.2 = u) (fun u t => va_P (gD g) zCl (wModel g q0 q1 q2 q3 q4 q5 q6 q7 q8 q9 q10 q11 q12 mm masd msav misS mpst mchg merr mfai u.1 minp minM u.2 mcar mcam mahd magn mltr mbeg mcmd mcmM mpl msz mwr mlin mliM) t.heap) A
set_option maxHeartbeats 4000000 in
set_option maxRecDepth 100000 in
theorem c_X11_togetherError (l : Launch) (g : GG) (q0 q1 q2 q3 q4 q5 q6 q7 q8 q9 q10 q11 q12 : Nat) (mm : Nat → Int64) (masd : Nat → Int64) (msav : Nat → Int64) (misS : Int32) (mpst : Nat → Int64) (mchg : Int32) (merr : Int32) (mfai : Int32) (mthr : Int32) (minp : Nat → Int32) (minM : Int32) (mUp : Nat → Int32) (mcar : Nat → Int32) (mcam : Nat → Int32) (mahd : Int32) (magn : Int32) (mltr : Nat → Int32) (mbeg : Nat → Int32) (mcmd : Nat → Int32) (mcmM : Int32) (mpl : Int32) (msz : Int32) (mwr : Int32) (mlin : Nat → Int32) (mliM : Int32) (sz : Nat) (p1 : Int32) (fu : Nat) (o : Int64 × Int32 × (Nat → Int32)) (hF : F_X11_togetherError fu mm mthr mUp p1 = some o) : Met l yX11_togetherError w_X11_togetherError r_X11_togetherError (va_Pc [.ref q0, .int p1] (zP g (wModel g q0 q1 q2 q3 q4 q5 q6 q7 q8 q9 q10 q11 q12 mm masd msav misS mpst mchg merr mfai mthr minp minM mUp mcar mcam mahd magn mltr mbeg mcmd mcmM mpl msz mwr mlin mliM) sz)) (q_X11_togetherError g q0 q1 q2 q3 q4 q5 q6 q7 q8 q9 q10 q11 q12 mm masd msav misS mpst mchg merr mfai mthr minp minM mUp mcar mcam mahd magn mltr mbeg mcmd mcmM mpl msz mwr mlin mliM o (va_A (wModel g q0 q1 q2 q3 q4 q5 q6 q7 q8 q9 q10 q11 q12 mm masd msav misS mpst mchg merr mfai mthr minp minM mUp mcar mcam mahd magn mltr mbeg mcmd mcmM mpl msz mwr mlin mliM) sz)) 0 0 (va_A (wModel g q0 q1 q2 q3 q4 q5 q6 q7 q8 q9 q10 q11 q12 mm masd msav misS mpst mchg merr mfai mthr minp minM mUp mcar mcam mahd magn mltr mbeg mcmd mcmM mpl msz mwr mlin mliM) sz) := by
  refine Met.ofW (cc := cX11_togetherError) (maxL := 5) (ret := (some .long)) (by decide) rfl ?_
  intro p e s m args below meth c s₁ B hml hv
  obtain ⟨rfl, rfl, hP, hK, hD0, hB⟩ := hv
  have hx := B.exec
  have hb := B.bytes
  have hr := B.returns
  have hts : ∀ w ∈ wU, w.before _ s = true := fun w h => atoms_spec (ws := w_X11_togetherError) B.pre w (List.mem_cons_of_mem _ h)
  have hown : s.vm.findClass RX11 = some m.cls := findClass_of_methodNamed B.named
  have hlocks := B.notSynchronized
  have hD := hD0.self (sz := s.heap.size)
  generalize hAe : va_A (wModel g q0 q1 q2 q3 q4 q5 q6 q7 q8 q9 q10 q11 q12 mm masd msav misS mpst mchg merr mfai mthr minp minM mUp mcar mcam mahd magn mltr mbeg mcmd mcmM mpl msz mwr mlin mliM) s.heap.size = A at hD hB ⊢
  have hA : ∀ q : Nat, s.heap.size ≤ q → A q := fun q h => by rw [← hAe]; exact Or.inr h
  have hS : va_S A s.heap s.heap [] := va_S.rf
  have hl := lv_entry ([.ref q0, .int p1]) (n := 5) (Nat.le_of_ble_eq_true rfl)
  rw [lg_entry_eq]
  generalize (lg_sl ([.ref q0, .int p1]) ++ List.replicate (5 - (lg_sl ([.ref q0, .int p1])).length) Slot.unset).toArray = ls at hl ⊢
  have hl : lv_has ls 5 [(0, .ref q0), (1, .int p1)] := hl
  unfold F_X11_togetherError at hF
  have K30 : ∀ (n30 : Nat) (mthr : Int32) (mUp : Nat → Int32) (x2 : Int64) (x4 : Int32), F_X11_togetherError_30 fu n30 mm mthr mUp p1 x2 x4 = some o → ∀ (H : Heap) (locs : List Loc) (ls : Array Slot), lv_has ls 5 [(0, .ref q0), (1, .int p1), (2, .long x2), (4, .int x4)] → va_P (gD g) zCl (wModel g q0 q1 q2 q3 q4 q5 q6 q7 q8 q9 q10 q11 q12 mm masd msav misS mpst mchg merr mfai mthr minp minM mUp mcar mcam mahd magn mltr mbeg mcmd mcmM mpl msz mwr mlin mliM) H → va_D A (wModel g q0 q1 q2 q3 q4 q5 q6 q7 q8 q9 q10 q11 q12 mm masd msav misS mpst mchg merr mfai mthr minp minM mUp mcar mcam mahd magn mltr mbeg mcmd mcmM mpl msz mwr mlin mliM) → va_S A s.heap H locs → W p l e (headSpec w_X11_togetherError r_X11_togetherError).room s m ([.ref q0, .int p1] : List Value).toArray below meth c H locs 0 0 (MQ below (q_X11_togetherError g q0 q1 q2 q3 q4 q5 q6 q7 q8 q9 q10 q11 q12 mm masd msav misS mpst mchg merr mfai mthr minp minM mUp mcar mcam mahd magn mltr mbeg mcmd mcmM mpl msz mwr mlin mliM o A) ([.ref q0, .int p1] : List Value).toArray s 0 0 A) (F0 m 30 ls []) := by
    intro n30
    induction n30 with
    | zero =>
      intro mthr mUp x2 x4 hF
      exact absurd hF (by simp [F_X11_togetherError_30])
    | succ n30 ih30 =>
      intro mthr mUp x2 x4 hF H locs ls hl hP hD hS
      unfold F_X11_togetherError_30 at hF
      refine lv_iload hx hb dX11_togetherError_30 (lv_at hl 3 rfl) ?_
      refine lv_aload_n hx hb dX11_togetherError_32 rfl (lv_at hl 0 rfl) ?_
      obtain ⟨zo1, hzo1, hF⟩ := z_bind hF
      refine z_calliE (fun (_ : Unit) => (wModel g q0 q1 q2 q3 q4 q5 q6 q7 q8 q9 q10 q11 q12 mm masd msav misS mpst mchg merr mfai mthr minp minM mUp mcar mcam mahd magn mltr mbeg mcmd mcmM mpl msz mwr mlin mliM)) (va_runV (As := []) (rest := [.int x4]) ⟨hx, hb, hml, hown, hts⟩ (c_X11_many l g q0 q1 q2 q3 q4 q5 q6 q7 q8 q9 q10 q11 q12 mm masd msav misS mpst mchg merr mfai mthr minp minM mUp mcar mcam mahd magn mltr mbeg mcmd mcmM mpl msz mwr mlin mliM _ _ hzo1) (cwV 0 hts (gdV mU_1356 mU_1358 mU_32 mU_75 mU_1359) rfl rfl rfl (by decide +kernel) ⟨Nat.le_of_ble_eq_true rfl, Nat.le_of_ble_eq_true rfl⟩) ⟨z_blind _ _ _ _, va_recv hK hP (ci := 7) (q0 := 0) rfl rfl, fun U hU hW => z_preE hP hD hK hB hS hA hU hW⟩ rfl rfl hl.1 rfl (lv_room (Nat.le_of_ble_eq_true rfl)) dX11_togetherError_33 ⟨Nat.le_of_ble_eq_true rfl, Nat.le_of_ble_eq_true rfl⟩) hD hS hA (fun _ => rfl) (fun r u H locs hw hP hD hS => ?_)
      subst hw
      have hP : va_P (gD g) zCl (wModel g q0 q1 q2 q3 q4 q5 q6 q7 q8 q9 q10 q11 q12 mm masd msav misS mpst mchg merr mfai mthr minp minM mUp mcar mcam mahd magn mltr mbeg mcmd mcmM mpl msz mwr mlin mliM) H := hP
      have hD : va_D A (wModel g q0 q1 q2 q3 q4 q5 q6 q7 q8 q9 q10 q11 q12 mm masd msav misS mpst mchg merr mfai mthr minp minM mUp mcar mcam mahd magn mltr mbeg mcmd mcmM mpl msz mwr mlin mliM) := hD
      refine lv_icmp_ge (tgt := 80) hx hb dX11_togetherError_36 (by decide) (fun zc2 => ?_) (fun zc2 => ?_)
      · have hF := z_pos hF zc2
        refine lv_lload_n hx hb dX11_togetherError_80 rfl (lv_at hl 2 rfl) ?_
        have ho := (Option.some.inj hF).symm
        exact W.lret (v := x2) hx hb hr (fun t ht hW => ⟨⟨x2, (mthr, mUp), rfl, ⟨by rw [ho], by rw [ho]⟩, z_end ht hP⟩, hS.F ht⟩) hS.2.2 dX11_togetherError_81
      · have hF := z_neg hF zc2
        refine lv_lload_n hx hb dX11_togetherError_39 rfl (lv_at hl 2 rfl) ?_
        refine lv_aload_n hx hb dX11_togetherError_40 rfl (lv_at hl 0 rfl) ?_
        refine va_get (D := gD g) (ci := 7) (v := .ref q6) (C := RX11) (T := TX11) (N := 25) hx hb hts inX11 hown hK hP 0 rfl rfl 11 (by decide) (hts _ mU_1255) (fun _ h9 => h9) rfl dX11_togetherError_41 ?_
        refine lv_iload hx hb dX11_togetherError_44 (lv_at hl 3 rfl) ?_
        obtain ⟨zg3, hF⟩ := z_grd hF
        refine va_zald hx hb hK hP 6 3 rfl rfl zg3 dX11_togetherError_46 ?_
        refine lv_if_eq (tgt := 65) hx hb dX11_togetherError_47 (by decide) (fun zc4 => ?_) (fun zc4 => ?_)
        · have hF := z_pos hF zc4
          refine lv_aload_n hx hb dX11_togetherError_65 rfl (lv_at hl 0 rfl) ?_
          refine lv_iload hx hb dX11_togetherError_66 (lv_at hl 3 rfl) ?_
          refine lv_iload_n hx hb dX11_togetherError_68 rfl (lv_at hl 1 rfl) ?_
          obtain ⟨zo5, hzo5, hF⟩ := z_bind hF
          refine z_calllE (fun (_ : Unit) => (wModel g q0 q1 q2 q3 q4 q5 q6 q7 q8 q9 q10 q11 q12 mm masd msav misS mpst mchg merr mfai mthr minp minM mUp mcar mcam mahd magn mltr mbeg mcmd mcmM mpl msz mwr mlin mliM)) (va_runV (As := [.int x4, .int p1]) (rest := [.long x2]) ⟨hx, hb, hml, hown, hts⟩ (c_X11_rest l g q0 q1 q2 q3 q4 q5 q6 q7 q8 q9 q10 q11 q12 mm masd msav misS mpst mchg merr mfai mthr minp minM mUp mcar mcam mahd magn mltr mbeg mcmd mcmM mpl msz mwr mlin mliM _ x4 p1 fu _ hzo5) (cwV 2 hts (gdV mU_1456 mU_1458 mU_45 mU_75 mU_1459) rfl rfl rfl (by decide +kernel) ⟨Nat.le_of_ble_eq_true rfl, Nat.le_of_ble_eq_true rfl⟩) ⟨z_blind _ _ _ _, va_recv hK hP (ci := 7) (q0 := 0) rfl rfl, fun U hU hW => z_preE hP hD hK hB hS hA hU hW⟩ rfl rfl hl.1 rfl (lv_room (Nat.le_of_ble_eq_true rfl)) dX11_togetherError_69 ⟨Nat.le_of_ble_eq_true rfl, Nat.le_of_ble_eq_true rfl⟩) hD hS hA (fun _ => rfl) (fun r u H locs hw hP hD hS => ?_)
          subst hw
          have hP : va_P (gD g) zCl (wModel g q0 q1 q2 q3 q4 q5 q6 q7 q8 q9 q10 q11 q12 mm masd msav misS mpst mchg merr mfai mthr minp minM mUp mcar mcam mahd magn mltr mbeg mcmd mcmM mpl msz mwr mlin mliM) H := hP
          have hD : va_D A (wModel g q0 q1 q2 q3 q4 q5 q6 q7 q8 q9 q10 q11 q12 mm masd msav misS mpst mchg merr mfai mthr minp minM mUp mcar mcam mahd magn mltr mbeg mcmd mcmM mpl msz mwr mlin mliM) := hD
          refine lv_ladd hx hb dX11_togetherError_72 ?_
          obtain ⟨zv6, ezv6, hF⟩ := z_let hF
          refine z_topl ezv6 ?_
          refine lv_lstore_n (lv' := [(2, .long zv6), (0, .ref q0), (1, .int p1), (4, .int x4)]) hx hb dX11_togetherError_73 rfl hl (by decide) rfl (fun ls hl => ?_)
          obtain ⟨zv7, ezv7, hF⟩ := z_let hF
          refine lv_iinc (v := zv7) (lv' := [(4, .int zv7), (2, .long zv6), (0, .ref q0), (1, .int p1)]) hx hb dX11_togetherError_74 hl (k := 3) rfl (by rw [ezv7]; rfl) (by decide) rfl (fun ls hl => ?_)
          refine lv_goto (tgt := 30) hx hb dX11_togetherError_77 (by decide) ?_
          exact ih30 mthr mUp zv6 zv7 hF _ _ _ (lv_sub hl [2, 3, 1, 0] rfl) hP hD hS
        · have hF := z_neg hF zc4
          refine lv_iload_n hx hb dX11_togetherError_50 rfl (lv_at hl 1 rfl) ?_
          obtain ⟨zo8, hzo8, hF⟩ := z_bind hF
          refine z_calll (fun (_ : Unit) => []) [] (va_runS (As := [.int p1]) (rest := [.long x2]) ⟨hx, hb, hml, hown, hts⟩ (c_X11_step l g _ p1 fu _ hzo8) (va_cwS 1 hts (gdS mU_1364 mU_1365 mU_75 mU_1366) rfl rfl rfl (by decide +kernel) ⟨Nat.le_of_ble_eq_true rfl, Nat.le_of_ble_eq_true rfl⟩) ⟨z_blind _ _ _ _, fun U hU hW => z_pre [] hP hD hK hB hS hA rfl rfl hU hW⟩ rfl rfl hl.1 rfl (lv_room (Nat.le_of_ble_eq_true rfl)) dX11_togetherError_51 ⟨Nat.le_of_ble_eq_true rfl, Nat.le_of_ble_eq_true rfl⟩) hP hD hS hA rfl (fun _ => rfl) (fun r u H locs hw hP hD hS => ?_)
          subst hw
          have hP : va_P (gD g) zCl (wModel g q0 q1 q2 q3 q4 q5 q6 q7 q8 q9 q10 q11 q12 mm masd msav misS mpst mchg merr mfai mthr minp minM mUp mcar mcam mahd magn mltr mbeg mcmd mcmM mpl msz mwr mlin mliM) H := hP
          have hD : va_D A (wModel g q0 q1 q2 q3 q4 q5 q6 q7 q8 q9 q10 q11 q12 mm masd msav misS mpst mchg merr mfai mthr minp minM mUp mcar mcam mahd magn mltr mbeg mcmd mcmM mpl msz mwr mlin mliM) := hD
          refine lv_aload_n hx hb dX11_togetherError_54 rfl (lv_at hl 0 rfl) ?_
          refine lv_iload hx hb dX11_togetherError_55 (lv_at hl 3 rfl) ?_
          refine lv_iload_n hx hb dX11_togetherError_57 rfl (lv_at hl 1 rfl) ?_
          obtain ⟨zo9, hzo9, hF⟩ := z_bind hF
          refine z_calllE (fun (_ : Unit) => (wModel g q0 q1 q2 q3 q4 q5 q6 q7 q8 q9 q10 q11 q12 mm masd msav misS mpst mchg merr mfai mthr minp minM mUp mcar mcam mahd magn mltr mbeg mcmd mcmM mpl msz mwr mlin mliM)) (va_runV (As := [.int x4, .int p1]) (rest := [.long zo8, .long x2]) ⟨hx, hb, hml, hown, hts⟩ (c_X11_rest l g q0 q1 q2 q3 q4 q5 q6 q7 q8 q9 q10 q11 q12 mm masd msav misS mpst mchg merr mfai mthr minp minM mUp mcar mcam mahd magn mltr mbeg mcmd mcmM mpl msz mwr mlin mliM _ x4 p1 fu _ hzo9) (cwV 2 hts (gdV mU_1456 mU_1458 mU_45 mU_75 mU_1459) rfl rfl rfl (by decide +kernel) ⟨Nat.le_of_ble_eq_true rfl, Nat.le_of_ble_eq_true rfl⟩) ⟨z_blind _ _ _ _, va_recv hK hP (ci := 7) (q0 := 0) rfl rfl, fun U hU hW => z_preE hP hD hK hB hS hA hU hW⟩ rfl rfl hl.1 rfl (lv_room (Nat.le_of_ble_eq_true rfl)) dX11_togetherError_58 ⟨Nat.le_of_ble_eq_true rfl, Nat.le_of_ble_eq_true rfl⟩) hD hS hA (fun _ => rfl) (fun r u H locs hw hP hD hS => ?_)
          subst hw
          have hP : va_P (gD g) zCl (wModel g q0 q1 q2 q3 q4 q5 q6 q7 q8 q9 q10 q11 q12 mm masd msav misS mpst mchg merr mfai mthr minp minM mUp mcar mcam mahd magn mltr mbeg mcmd mcmM mpl msz mwr mlin mliM) H := hP
          have hD : va_D A (wModel g q0 q1 q2 q3 q4 q5 q6 q7 q8 q9 q10 q11 q12 mm masd msav misS mpst mchg merr mfai mthr minp minM mUp mcar mcam mahd magn mltr mbeg mcmd mcmM mpl msz mwr mlin mliM) := hD
          refine lv_lsub hx hb dX11_togetherError_61 ?_
          refine lv_goto (tgt := 72) hx hb dX11_togetherError_62 (by decide) ?_
          refine lv_ladd hx hb dX11_togetherError_72 ?_
          obtain ⟨zv10, ezv10, hF⟩ := z_let hF
          refine z_topl ezv10 ?_
          refine lv_lstore_n (lv' := [(2, .long zv10), (0, .ref q0), (1, .int p1), (4, .int x4)]) hx hb dX11_togetherError_73 rfl hl (by decide) rfl (fun ls hl => ?_)
          obtain ⟨zv11, ezv11, hF⟩ := z_let hF
          refine lv_iinc (v := zv11) (lv' := [(4, .int zv11), (2, .long zv10), (0, .ref q0), (1, .int p1)]) hx hb dX11_togetherError_74 hl (k := 3) rfl (by rw [ezv11]; rfl) (by decide) rfl (fun ls hl => ?_)
          refine lv_goto (tgt := 30) hx hb dX11_togetherError_77 (by decide) ?_
          exact ih30 mthr mUp zv10 zv11 hF _ _ _ (lv_sub hl [2, 3, 1, 0] rfl) hP hD hS
  refine lv_aload_n hx hb dX11_togetherError_0 rfl (lv_at hl 0 rfl) ?_
  refine lv_iconst (v := 0) hx hb dX11_togetherError_1 (by decide) ?_
  refine va_put (D := gD g) (ci := 7) (v := .int 0) (ty := .int) (C := RX11) (T := TX11) (N := 25) hx hb hts inX11 tyX11 tyX11_ok nmX11 hown hK hP hD hS 0 rfl rfl 8 (by decide) (hts _ mU_1252) (fun _ h9 => h9) rfl (by decide +kernel) rfl rfl (Nat.le_of_ble_eq_true rfl) dX11_togetherError_2 (fun H locs hP hD hS => ?_)
  have hP : va_P (gD g) zCl (wModel g q0 q1 q2 q3 q4 q5 q6 q7 q8 q9 q10 q11 q12 mm masd msav misS mpst mchg merr mfai 0 minp minM mUp mcar mcam mahd magn mltr mbeg mcmd mcmM mpl msz mwr mlin mliM) H := hP
  have hD : va_D A (wModel g q0 q1 q2 q3 q4 q5 q6 q7 q8 q9 q10 q11 q12 mm masd msav misS mpst mchg merr mfai 0 minp minM mUp mcar mcam mahd magn mltr mbeg mcmd mcmM mpl msz mwr mlin mliM) := hD
  refine lv_iload_n hx hb dX11_togetherError_5 rfl (lv_at hl 1 rfl) ?_
  obtain ⟨zo12, hzo12, hF⟩ := z_bind hF
  refine z_calli (fun (_ : Unit) => []) [] (va_runS (As := [.int p1]) (rest := []) ⟨hx, hb, hml, hown, hts⟩ (c_X11_isScale l g _ p1 _ hzo12) (va_cwS 1 hts (gdS mU_1345 mU_1346 mU_75 mU_1347) rfl rfl rfl (by decide +kernel) ⟨Nat.le_of_ble_eq_true rfl, Nat.le_of_ble_eq_true rfl⟩) ⟨z_blind _ _ _ _, fun U hU hW => z_pre [] hP hD hK hB hS hA rfl rfl hU hW⟩ rfl rfl hl.1 rfl (lv_room (Nat.le_of_ble_eq_true rfl)) dX11_togetherError_6 ⟨Nat.le_of_ble_eq_true rfl, Nat.le_of_ble_eq_true rfl⟩) hP hD hS hA rfl (fun _ => rfl) (fun r u H locs hw hP hD hS => ?_)
  subst hw
  have hP : va_P (gD g) zCl (wModel g q0 q1 q2 q3 q4 q5 q6 q7 q8 q9 q10 q11 q12 mm masd msav misS mpst mchg merr mfai 0 minp minM mUp mcar mcam mahd magn mltr mbeg mcmd mcmM mpl msz mwr mlin mliM) H := hP
  have hD : va_D A (wModel g q0 q1 q2 q3 q4 q5 q6 q7 q8 q9 q10 q11 q12 mm masd msav misS mpst mchg merr mfai 0 minp minM mUp mcar mcam mahd magn mltr mbeg mcmd mcmM mpl msz mwr mlin mliM) := hD
  refine lv_if_ne (tgt := 19) hx hb dX11_togetherError_9 (by decide) (fun zc13 => ?_) (fun zc13 => ?_)
  · have hF := z_neg hF zc13
    refine lv_aload_n hx hb dX11_togetherError_19 rfl (lv_at hl 0 rfl) ?_
    refine lv_iload_n hx hb dX11_togetherError_20 rfl (lv_at hl 1 rfl) ?_
    obtain ⟨zo14, hzo14, hF⟩ := z_bind hF
    refine z_calliE (fun (u : (Nat → Int32)) => (wModel g q0 q1 q2 q3 q4 q5 q6 q7 q8 q9 q10 q11 q12 mm masd msav misS mpst mchg merr mfai 0 minp minM u mcar mcam mahd magn mltr mbeg mcmd mcmM mpl msz mwr mlin mliM)) (va_runV (As := [.int p1]) (rest := []) ⟨hx, hb, hml, hown, hts⟩ (c_X11_chooses l g q0 q1 q2 q3 q4 q5 q6 q7 q8 q9 q10 q11 q12 mm masd msav misS mpst mchg merr mfai 0 minp minM mUp mcar mcam mahd magn mltr mbeg mcmd mcmM mpl msz mwr mlin mliM _ p1 fu _ hzo14) (cwV 1 hts (gdV mU_1452 mU_1454 mU_44 mU_75 mU_1455) rfl rfl rfl (by decide +kernel) ⟨Nat.le_of_ble_eq_true rfl, Nat.le_of_ble_eq_true rfl⟩) ⟨z_blind _ _ _ _, va_recv hK hP (ci := 7) (q0 := 0) rfl rfl, fun U hU hW => z_preE hP hD hK hB hS hA hU hW⟩ rfl rfl hl.1 rfl (lv_room (Nat.le_of_ble_eq_true rfl)) dX11_togetherError_21 ⟨Nat.le_of_ble_eq_true rfl, Nat.le_of_ble_eq_true rfl⟩) hD hS hA (fun _ => rfl) (fun r u H locs hw hP hD hS => ?_)
    obtain ⟨rfl, rfl⟩ := hw
    have hP : va_P (gD g) zCl (wModel g q0 q1 q2 q3 q4 q5 q6 q7 q8 q9 q10 q11 q12 mm masd msav misS mpst mchg merr mfai 0 minp minM zo14.2 mcar mcam mahd magn mltr mbeg mcmd mcmM mpl msz mwr mlin mliM) H := hP
    have hD : va_D A (wModel g q0 q1 q2 q3 q4 q5 q6 q7 q8 q9 q10 q11 q12 mm masd msav misS mpst mchg merr mfai 0 minp minM zo14.2 mcar mcam mahd magn mltr mbeg mcmd mcmM mpl msz mwr mlin mliM) := hD
    refine lv_pop hx hb dX11_togetherError_24 rfl ?_
    refine lv_lconst (v := 0) hx hb dX11_togetherError_25 (by decide) ?_
    refine lv_lstore_n (lv' := [(2, .long 0), (0, .ref q0), (1, .int p1)]) hx hb dX11_togetherError_26 rfl hl (by decide) rfl (fun ls hl => ?_)
    refine lv_iconst (v := 0) hx hb dX11_togetherError_27 (by decide) ?_
    refine lv_istore (lv' := [(4, .int 0), (2, .long 0), (0, .ref q0), (1, .int p1)]) hx hb dX11_togetherError_28 hl (by decide) rfl (fun ls hl => ?_)
    exact K30 fu 0 zo14.2 0 0 hF _ _ _ (lv_sub hl [2, 3, 1, 0] rfl) hP hD hS
  · have hF := z_pos hF zc13
    refine lv_aload_n hx hb dX11_togetherError_12 rfl (lv_at hl 0 rfl) ?_
    refine lv_iconst (v := 1) hx hb dX11_togetherError_13 (by decide) ?_
    obtain ⟨zo15, hzo15, hF⟩ := z_bind hF
    refine z_calliE (fun (u : Int32) => (wModel g q0 q1 q2 q3 q4 q5 q6 q7 q8 q9 q10 q11 q12 mm masd msav misS mpst mchg merr mfai u minp minM mUp mcar mcam mahd magn mltr mbeg mcmd mcmM mpl msz mwr mlin mliM)) (va_runV (As := [.int 1]) (rest := []) ⟨hx, hb, hml, hown, hts⟩ (c_X11_throwing l g q0 q1 q2 q3 q4 q5 q6 q7 q8 q9 q10 q11 q12 mm masd msav misS mpst mchg merr mfai 0 minp minM mUp mcar mcam mahd magn mltr mbeg mcmd mcmM mpl msz mwr mlin mliM _ 1 _ hzo15) (cwV 1 hts (gdV mU_1352 mU_1354 mU_31 mU_75 mU_1355) rfl rfl rfl (by decide +kernel) ⟨Nat.le_of_ble_eq_true rfl, Nat.le_of_ble_eq_true rfl⟩) ⟨z_blind _ _ _ _, va_recv hK hP (ci := 7) (q0 := 0) rfl rfl, fun U hU hW => z_preE hP hD hK hB hS hA hU hW⟩ rfl rfl hl.1 rfl (lv_room (Nat.le_of_ble_eq_true rfl)) dX11_togetherError_14 ⟨Nat.le_of_ble_eq_true rfl, Nat.le_of_ble_eq_true rfl⟩) hD hS hA (fun _ => rfl) (fun r u H locs hw hP hD hS => ?_)
    obtain ⟨rfl, rfl⟩ := hw
    have hP : va_P (gD g) zCl (wModel g q0 q1 q2 q3 q4 q5 q6 q7 q8 q9 q10 q11 q12 mm masd msav misS mpst mchg merr mfai zo15.2 minp minM mUp mcar mcam mahd magn mltr mbeg mcmd mcmM mpl msz mwr mlin mliM) H := hP
    have hD : va_D A (wModel g q0 q1 q2 q3 q4 q5 q6 q7 q8 q9 q10 q11 q12 mm masd msav misS mpst mchg merr mfai zo15.2 minp minM mUp mcar mcam mahd magn mltr mbeg mcmd mcmM mpl msz mwr mlin mliM) := hD
    refine lv_i2l (v := (Int32.toInt64 zo15.1)) hx hb dX11_togetherError_17 rfl ?_
    have ho := (Option.some.inj hF).symm
    exact W.lret (v := (Int32.toInt64 zo15.1)) hx hb hr (fun t ht hW => ⟨⟨(Int32.toInt64 zo15.1), (zo15.2, mUp), rfl, ⟨by rw [ho], by rw [ho]⟩, z_end ht hP⟩, hS.F ht⟩) hS.2.2 dX11_togetherError_18
abbrev w_X11_togetherErrorBySets : List Cond := .code yX11_togetherErrorBySets cX11_togetherErrorBySets 2 (some .long) :: wU
abbrev r_X11_togetherErrorBySets : Room := { frames := 4, cells := 0, slots := 0, locals := 103 }
abbrev q_X11_togetherErrorBySets (g : GG) (q0 q1 q2 q3 q4 q5 q6 q7 q8 q9 q10 q11 q12 : Nat) (mm : Nat → Int64) (masd : Nat → Int64) (msav : Nat → Int64) (misS : Int32) (mpst : Nat → Int64) (mchg : Int32) (merr : Int32) (mfai : Int32) (mthr : Int32) (minp : Nat → Int32) (minM : Int32) (mUp : Nat → Int32) (mcar : Nat → Int32) (mcam : Nat → Int32) (mahd : Int32) (magn : Int32) (mltr : Nat → Int32) (mbeg : Nat → Int32) (mcmd : Nat → Int32) (mcmM : Int32) (mpl : Int32) (msz : Int32) (mwr : Int32) (mlin : Nat → Int32) (mliM : Int32) (o : Int64 × Int32 × (Nat → Int32)) (A : Nat → Prop) := va_Ql (fun (r : Int64) (u : Int32 × (Nat → Int32)) => o.1 = r ∧ o.2 = u) (fun u t => va_P (gD g) zCl (wModel g q0 q1 q2 q3 q4 q5 q6 q7 q8 q9 q10 q11 q12 mm masd msav misS mpst mchg merr mfai u.1 minp minM u.2 mcar mcam mahd magn mltr mbeg mcmd mcmM mpl msz mwr mlin mliM) t.heap) A
set_option maxHeartbeats 4000000 in
set_option maxRecDepth 100000 in
theorem c_X11_togetherErrorBySets (l : Launch) (g : GG) (q0 q1 q2 q3 q4 q5 q6 q7 q8 q9 q10 q11 q12 : Nat) (mm : Nat → Int64) (masd : Nat → Int64) (msav : Nat → Int64) (misS : Int32) (mpst : Nat → Int64) (mchg : Int32) (merr : Int32) (mfai : Int32) (mthr : Int32) (minp : Nat → Int32) (minM : Int32) (mUp : Nat → Int32) (mcar : Nat → Int32) (mcam : Nat → Int32) (mahd : Int32) (magn : Int32) (mltr : Nat → Int32) (mbeg : Nat → Int32) (mcmd : Nat → Int32) (mcmM : Int32) (mpl : Int32) (msz : Int32) (mwr : Int32) (mlin : Nat → Int32) (mliM : Int32) (sz : Nat) (p1 : Int32) (fu : Nat) (o : Int64 × Int32 × (Nat → Int32)) (hF : F_X11_togetherErrorBySets fu mm mthr mUp p1 = some o) : Met l yX11_togetherErrorBySets w_X11_togetherErrorBySets r_X11_togetherErrorBySets (va_Pc [.ref q0, .int p1] (zP g (wModel g q0 q1 q2 q3 q4 q5 q6 q7 q8 q9 q10 q11 q12 mm masd msav misS mpst mchg merr mfai mthr minp minM mUp mcar mcam mahd magn mltr mbeg mcmd mcmM mpl msz mwr mlin mliM) sz)) (q_X11_togetherErrorBySets g q0 q1 q2 q3 q4 q5 q6 q7 q8 q9 q10 q11 q12 mm masd msav misS mpst mchg merr mfai mthr minp minM mUp mcar mcam mahd magn mltr mbeg mcmd mcmM mpl msz mwr mlin mliM o (va_A (wModel g q0 q1 q2 q3 q4 q5 q6 q7 q8 q9 q10 q11 q12 mm masd msav misS mpst mchg merr mfai mthr minp minM mUp mcar mcam mahd magn mltr mbeg mcmd mcmM mpl msz mwr mlin mliM) sz)) 0 0 (va_A (wModel g q0 q1 q2 q3 q4 q5 q6 q7 q8 q9 q10 q11 q12 mm masd msav misS mpst mchg merr mfai mthr minp minM mUp mcar mcam mahd magn mltr mbeg mcmd mcmM mpl msz mwr mlin mliM) sz) := by
  refine Met.ofW (cc := cX11_togetherErrorBySets) (maxL := 2) (ret := (some .long)) (by decide) rfl ?_
  intro p e s m args below meth c s₁ B hml hv
  obtain ⟨rfl, rfl, hP, hK, hD0, hB⟩ := hv
  have hx := B.exec
  have hb := B.bytes
  have hr := B.returns
  have hts : ∀ w ∈ wU, w.before _ s = true := fun w h => atoms_spec (ws := w_X11_togetherErrorBySets) B.pre w (List.mem_cons_of_mem _ h)
  have hown : s.vm.findClass RX11 = some m.cls := findClass_of_methodNamed B.named
  have hlocks := B.notSynchronized
  have hD := hD0.self (sz := s.heap.size)
  generalize hAe : va_A (wModel g q0 q1 q2 q3 q4 q5 q6 q7 q8 q9 q10 q11 q12 mm masd msav misS mpst mchg merr mfai mthr minp minM mUp mcar mcam mahd magn mltr mbeg mcmd mcmM mpl msz mwr mlin mliM) s.heap.size = A at hD hB ⊢
  have hA : ∀ q : Nat, s.heap.size ≤ q → A q := fun q h => by rw [← hAe]; exact Or.inr h
  have hS : va_S A s.heap s.heap [] := va_S.rf
  have hl := lv_entry ([.ref q0, .int p1]) (n := 2) (Nat.le_of_ble_eq_true rfl)
  rw [lg_entry_eq]
  generalize (lg_sl ([.ref q0, .int p1]) ++ List.replicate (2 - (lg_sl ([.ref q0, .int p1])).length) Slot.unset).toArray = ls at hl ⊢
  have hl : lv_has ls 2 [(0, .ref q0), (1, .int p1)] := hl
  unfold F_X11_togetherErrorBySets at hF
  refine lv_aload_n hx hb dX11_togetherErrorBySets_0 rfl (lv_at hl 0 rfl) ?_
  refine lv_iload_n hx hb dX11_togetherErrorBySets_1 rfl (lv_at hl 1 rfl) ?_
  obtain ⟨zo1, hzo1, hF⟩ := z_bind hF
  refine z_calllE (fun (u : Int32 × (Nat → Int32)) => (wModel g q0 q1 q2 q3 q4 q5 q6 q7 q8 q9 q10 q11 q12 mm masd msav misS mpst mchg merr mfai u.1 minp minM u.2 mcar mcam mahd magn mltr mbeg mcmd mcmM mpl msz mwr mlin mliM)) (va_runV (As := [.int p1]) (rest := []) ⟨hx, hb, hml, hown, hts⟩ (c_X11_togetherError l g q0 q1 q2 q3 q4 q5 q6 q7 q8 q9 q10 q11 q12 mm masd msav misS mpst mchg merr mfai mthr minp minM mUp mcar mcam mahd magn mltr mbeg mcmd mcmM mpl msz mwr mlin mliM _ p1 fu _ hzo1) (cwV 1 hts (gdV mU_1546 mU_1539 mU_1540 mU_75 mU_1541) rfl rfl rfl (by decide +kernel) ⟨Nat.le_of_ble_eq_true rfl, Nat.le_of_ble_eq_true rfl⟩) ⟨z_blind _ _ _ _, va_recv hK hP (ci := 7) (q0 := 0) rfl rfl, fun U hU hW => z_preE hP hD hK hB hS hA hU hW⟩ rfl rfl hl.1 rfl (lv_room (Nat.le_of_ble_eq_true rfl)) dX11_togetherErrorBySets_2 ⟨Nat.le_of_ble_eq_true rfl, Nat.le_of_ble_eq_true rfl⟩) hD hS hA (fun _ => rfl) (fun r u H locs hw hP hD hS => ?_)
  obtain ⟨rfl, rfl⟩ := hw
  have hP : va_P (gD g) zCl (wModel g q0 q1 q2 q3 q4 q5 q6 q7 q8 q9 q10 q11 q12 mm masd msav misS mpst mchg merr mfai zo1.2.1 minp minM zo1.2.2 mcar mcam mahd magn mltr mbeg mcmd mcmM mpl msz mwr mlin mliM) H := hP
  have hD : va_D A (wModel g q0 q1 q2 q3 q4 q5 q6 q7 q8 q9 q10 q11 q12 mm masd msav misS mpst mchg merr mfai zo1.2.1 minp minM zo1.2.2 mcar mcam mahd magn mltr mbeg mcmd mcmM mpl msz mwr mlin mliM) := hD
  have ho := (Option.some.inj hF).symm
  exact W.lret (v := zo1.1) hx hb hr (fun t ht hW => ⟨⟨zo1.1, (zo1.2.1, zo1.2.2), rfl, ⟨by rw [ho], by rw [ho]⟩, z_end ht hP⟩, hS.F ht⟩) hS.2.2 dX11_togetherErrorBySets_5
abbrev w_X11_goesUp : List Cond := .code yX11_goesUp cX11_goesUp 3 (some .boolean) :: wU
abbrev r_X11_goesUp : Room := { frames := 3, cells := 0, slots := 0, locals := 79 }
abbrev q_X11_goesUp (g : GG) (q0 q1 q2 q3 q4 q5 q6 q7 q8 q9 q10 q11 q12 : Nat) (mm : Nat → Int64) (masd : Nat → Int64) (msav : Nat → Int64) (misS : Int32) (mpst : Nat → Int64) (mchg : Int32) (merr : Int32) (mfai : Int32) (mthr : Int32) (minp : Nat → Int32) (minM : Int32) (mUp : Nat → Int32) (mcar : Nat → Int32) (mcam : Nat → Int32) (mahd : Int32) (magn : Int32) (mltr : Nat → Int32) (mbeg : Nat → Int32) (mcmd : Nat → Int32) (mcmM : Int32) (mpl : Int32) (msz : Int32) (mwr : Int32) (mlin : Nat → Int32) (mliM : Int32) (o : Int32 × Int32 × (Nat → Int32)) (A : Nat → Prop) := va_Qi (fun (r : Int32) (u : Int32 × (Nat → Int32)) => o.1 = r ∧ o.2 = u) (fun u t => va_P (gD g) zCl (wModel g q0 q1 q2 q3 q4 q5 q6 q7 q8 q9 q10 q11 q12 mm masd msav misS mpst mchg merr mfai u.1 minp minM u.2 mcar mcam mahd magn mltr mbeg mcmd mcmM mpl msz mwr mlin mliM) t.heap) A
set_option maxHeartbeats 4000000 in
set_option maxRecDepth 100000 in
theorem c_X11_goesUp (l : Launch) (g : GG) (q0 q1 q2 q3 q4 q5 q6 q7 q8 q9 q10 q11 q12 : Nat) (mm : Nat → Int64) (masd : Nat → Int64) (msav : Nat → Int64) (misS : Int32) (mpst : Nat → Int64) (mchg : Int32) (merr : Int32) (mfai : Int32) (mthr : Int32) (minp : Nat → Int32) (minM : Int32) (mUp : Nat → Int32) (mcar : Nat → Int32) (mcam : Nat → Int32) (mahd : Int32) (magn : Int32) (mltr : Nat → Int32) (mbeg : Nat → Int32) (mcmd : Nat → Int32) (mcmM : Int32) (mpl : Int32) (msz : Int32) (mwr : Int32) (mlin : Nat → Int32) (mliM : Int32) (sz : Nat) (p1 : Int32) (p2 : Int32) (fu : Nat) (o : Int32 × Int32 × (Nat → Int32)) (hF : F_X11_goesUp fu mm mthr mUp p1 p2 = some o) : Met l yX11_goesUp w_X11_goesUp r_X11_goesUp (va_Pc [.ref q0, .int p1, .int p2] (zP g (wModel g q0 q1 q2 q3 q4 q5 q6 q7 q8 q9 q10 q11 q12 mm masd msav misS mpst mchg merr mfai mthr minp minM mUp mcar mcam mahd magn mltr mbeg mcmd mcmM mpl msz mwr mlin mliM) sz)) (q_X11_goesUp g q0 q1 q2 q3 q4 q5 q6 q7 q8 q9 q10 q11 q12 mm masd msav misS mpst mchg merr mfai mthr minp minM mUp mcar mcam mahd magn mltr mbeg mcmd mcmM mpl msz mwr mlin mliM o (va_A (wModel g q0 q1 q2 q3 q4 q5 q6 q7 q8 q9 q10 q11 q12 mm masd msav misS mpst mchg merr mfai mthr minp minM mUp mcar mcam mahd magn mltr mbeg mcmd mcmM mpl msz mwr mlin mliM) sz)) 0 0 (va_A (wModel g q0 q1 q2 q3 q4 q5 q6 q7 q8 q9 q10 q11 q12 mm masd msav misS mpst mchg merr mfai mthr minp minM mUp mcar mcam mahd magn mltr mbeg mcmd mcmM mpl msz mwr mlin mliM) sz) := by
  refine Met.ofW (cc := cX11_goesUp) (maxL := 3) (ret := (some .boolean)) (by decide) rfl ?_
  intro p e s m args below meth c s₁ B hml hv
  obtain ⟨rfl, rfl, hP, hK, hD0, hB⟩ := hv
  have hx := B.exec
  have hb := B.bytes
  have hr := B.returns
  have hts : ∀ w ∈ wU, w.before _ s = true := fun w h => atoms_spec (ws := w_X11_goesUp) B.pre w (List.mem_cons_of_mem _ h)
  have hown : s.vm.findClass RX11 = some m.cls := findClass_of_methodNamed B.named
  have hlocks := B.notSynchronized
  have hD := hD0.self (sz := s.heap.size)
  generalize hAe : va_A (wModel g q0 q1 q2 q3 q4 q5 q6 q7 q8 q9 q10 q11 q12 mm masd msav misS mpst mchg merr mfai mthr minp minM mUp mcar mcam mahd magn mltr mbeg mcmd mcmM mpl msz mwr mlin mliM) s.heap.size = A at hD hB ⊢
  have hA : ∀ q : Nat, s.heap.size ≤ q → A q := fun q h => by rw [← hAe]; exact Or.inr h
  have hS : va_S A s.heap s.heap [] := va_S.rf
  have hl := lv_entry ([.ref q0, .int p1, .int p2]) (n := 3) (Nat.le_of_ble_eq_true rfl)
  rw [lg_entry_eq]
  generalize (lg_sl ([.ref q0, .int p1, .int p2]) ++ List.replicate (3 - (lg_sl ([.ref q0, .int p1, .int p2])).length) Slot.unset).toArray = ls at hl ⊢
  have hl : lv_has ls 3 [(0, .ref q0), (1, .int p1), (2, .int p2)] := hl
  unfold F_X11_goesUp at hF
  have K45 : ∀ (_ : Unit) (mthr : Int32) (mUp : Nat → Int32), F_X11_goesUp_45 fu mm mthr mUp p1 = some o → ∀ (H : Heap) (locs : List Loc) (ls : Array Slot), lv_has ls 3 [(0, .ref q0), (1, .int p1)] → va_P (gD g) zCl (wModel g q0 q1 q2 q3 q4 q5 q6 q7 q8 q9 q10 q11 q12 mm masd msav misS mpst mchg merr mfai mthr minp minM mUp mcar mcam mahd magn mltr mbeg mcmd mcmM mpl msz mwr mlin mliM) H → va_D A (wModel g q0 q1 q2 q3 q4 q5 q6 q7 q8 q9 q10 q11 q12 mm masd msav misS mpst mchg merr mfai mthr minp minM mUp mcar mcam mahd magn mltr mbeg mcmd mcmM mpl msz mwr mlin mliM) → va_S A s.heap H locs → W p l e (headSpec w_X11_goesUp r_X11_goesUp).room s m ([.ref q0, .int p1, .int p2] : List Value).toArray below meth c H locs 0 0 (MQ below (q_X11_goesUp g q0 q1 q2 q3 q4 q5 q6 q7 q8 q9 q10 q11 q12 mm masd msav misS mpst mchg merr mfai mthr minp minM mUp mcar mcam mahd magn mltr mbeg mcmd mcmM mpl msz mwr mlin mliM o A) ([.ref q0, .int p1, .int p2] : List Value).toArray s 0 0 A) (F0 m 45 ls []) := by
    intro _ mthr mUp hF H locs ls hl hP hD hS
    unfold F_X11_goesUp_45 at hF
    refine lv_aload_n hx hb dX11_goesUp_45 rfl (lv_at hl 0 rfl) ?_
    refine va_get (D := gD g) (ci := 7) (v := .int mthr) (C := RX11) (T := TX11) (N := 25) hx hb hts inX11 hown hK hP 0 rfl rfl 8 (by decide) (hts _ mU_1252) (fun _ h9 => h9) rfl dX11_goesUp_46 ?_
    refine lv_if_ne (tgt := 69) hx hb dX11_goesUp_49 (by decide) (fun zc1 => ?_) (fun zc1 => ?_)
    · have hF := z_neg hF zc1
      refine lv_iconst (v := 0) hx hb dX11_goesUp_69 (by decide) ?_
      have ho := (Option.some.inj hF).symm
      exact W.zret (v := 0) hx hb hr rfl (fun t ht hW => ⟨⟨0, (mthr, mUp), rfl, ⟨by rw [ho], by rw [ho]⟩, z_end ht hP⟩, hS.F ht⟩) hS.2.2 dX11_goesUp_70
    · have hF := z_pos hF zc1
      refine lv_aload_n hx hb dX11_goesUp_52 rfl (lv_at hl 0 rfl) ?_
      refine va_get (D := gD g) (ci := 7) (v := .ref q6) (C := RX11) (T := TX11) (N := 25) hx hb hts inX11 hown hK hP 0 rfl rfl 11 (by decide) (hts _ mU_1255) (fun _ h9 => h9) rfl dX11_goesUp_53 ?_
      refine lv_aload_n hx hb dX11_goesUp_56 rfl (lv_at hl 0 rfl) ?_
      refine lv_iload_n hx hb dX11_goesUp_57 rfl (lv_at hl 1 rfl) ?_
      obtain ⟨zo2, hzo2, hF⟩ := z_bind hF
      refine z_calliE (fun (_ : Unit) => (wModel g q0 q1 q2 q3 q4 q5 q6 q7 q8 q9 q10 q11 q12 mm masd msav misS mpst mchg merr mfai mthr minp minM mUp mcar mcam mahd magn mltr mbeg mcmd mcmM mpl msz mwr mlin mliM)) (va_runV (As := [.int p1]) (rest := [.ref q6]) ⟨hx, hb, hml, hown, hts⟩ (c_X11_find l g q0 q1 q2 q3 q4 q5 q6 q7 q8 q9 q10 q11 q12 mm masd msav misS mpst mchg merr mfai mthr minp minM mUp mcar mcam mahd magn mltr mbeg mcmd mcmM mpl msz mwr mlin mliM _ p1 fu _ hzo2) (cwV 1 hts (gdV mU_1400 mU_1402 mU_37 mU_75 mU_1403) rfl rfl rfl (by decide +kernel) ⟨Nat.le_of_ble_eq_true rfl, Nat.le_of_ble_eq_true rfl⟩) ⟨z_blind _ _ _ _, va_recv hK hP (ci := 7) (q0 := 0) rfl rfl, fun U hU hW => z_preE hP hD hK hB hS hA hU hW⟩ rfl rfl hl.1 rfl (lv_room (Nat.le_of_ble_eq_true rfl)) dX11_goesUp_58 ⟨Nat.le_of_ble_eq_true rfl, Nat.le_of_ble_eq_true rfl⟩) hD hS hA (fun _ => rfl) (fun r u H locs hw hP hD hS => ?_)
      subst hw
      have hP : va_P (gD g) zCl (wModel g q0 q1 q2 q3 q4 q5 q6 q7 q8 q9 q10 q11 q12 mm masd msav misS mpst mchg merr mfai mthr minp minM mUp mcar mcam mahd magn mltr mbeg mcmd mcmM mpl msz mwr mlin mliM) H := hP
      have hD : va_D A (wModel g q0 q1 q2 q3 q4 q5 q6 q7 q8 q9 q10 q11 q12 mm masd msav misS mpst mchg merr mfai mthr minp minM mUp mcar mcam mahd magn mltr mbeg mcmd mcmM mpl msz mwr mlin mliM) := hD
      obtain ⟨zg3, hF⟩ := z_grd hF
      refine va_zald hx hb hK hP 6 3 rfl rfl zg3 dX11_goesUp_61 ?_
      refine lv_if_eq (tgt := 69) hx hb dX11_goesUp_62 (by decide) (fun zc4 => ?_) (fun zc4 => ?_)
      · have hF := z_pos hF zc4
        refine lv_iconst (v := 0) hx hb dX11_goesUp_69 (by decide) ?_
        have ho := (Option.some.inj hF).symm
        exact W.zret (v := 0) hx hb hr rfl (fun t ht hW => ⟨⟨0, (mthr, mUp), rfl, ⟨by rw [ho], by rw [ho]⟩, z_end ht hP⟩, hS.F ht⟩) hS.2.2 dX11_goesUp_70
      · have hF := z_neg hF zc4
        refine lv_iconst (v := 1) hx hb dX11_goesUp_65 (by decide) ?_
        refine lv_goto (tgt := 70) hx hb dX11_goesUp_66 (by decide) ?_
        have ho := (Option.some.inj hF).symm
        exact W.zret (v := 1) hx hb hr rfl (fun t ht hW => ⟨⟨1, (mthr, mUp), rfl, ⟨by rw [ho], by rw [ho]⟩, z_end ht hP⟩, hS.F ht⟩) hS.2.2 dX11_goesUp_70
  refine lv_aload_n hx hb dX11_goesUp_0 rfl (lv_at hl 0 rfl) ?_
  refine lv_iconst (v := 0) hx hb dX11_goesUp_1 (by decide) ?_
  refine va_put (D := gD g) (ci := 7) (v := .int 0) (ty := .int) (C := RX11) (T := TX11) (N := 25) hx hb hts inX11 tyX11 tyX11_ok nmX11 hown hK hP hD hS 0 rfl rfl 8 (by decide) (hts _ mU_1252) (fun _ h9 => h9) rfl (by decide +kernel) rfl rfl (Nat.le_of_ble_eq_true rfl) dX11_goesUp_2 (fun H locs hP hD hS => ?_)
  have hP : va_P (gD g) zCl (wModel g q0 q1 q2 q3 q4 q5 q6 q7 q8 q9 q10 q11 q12 mm masd msav misS mpst mchg merr mfai 0 minp minM mUp mcar mcam mahd magn mltr mbeg mcmd mcmM mpl msz mwr mlin mliM) H := hP
  have hD : va_D A (wModel g q0 q1 q2 q3 q4 q5 q6 q7 q8 q9 q10 q11 q12 mm masd msav misS mpst mchg merr mfai 0 minp minM mUp mcar mcam mahd magn mltr mbeg mcmd mcmM mpl msz mwr mlin mliM) := hD
  refine lv_aload_n hx hb dX11_goesUp_5 rfl (lv_at hl 0 rfl) ?_
  refine lv_iload_n hx hb dX11_goesUp_6 rfl (lv_at hl 1 rfl) ?_
  obtain ⟨zo5, hzo5, hF⟩ := z_bind hF
  refine z_calliE (fun (_ : Unit) => (wModel g q0 q1 q2 q3 q4 q5 q6 q7 q8 q9 q10 q11 q12 mm masd msav misS mpst mchg merr mfai 0 minp minM mUp mcar mcam mahd magn mltr mbeg mcmd mcmM mpl msz mwr mlin mliM)) (va_runV (As := [.int p1]) (rest := []) ⟨hx, hb, hml, hown, hts⟩ (c_X11_find l g q0 q1 q2 q3 q4 q5 q6 q7 q8 q9 q10 q11 q12 mm masd msav misS mpst mchg merr mfai 0 minp minM mUp mcar mcam mahd magn mltr mbeg mcmd mcmM mpl msz mwr mlin mliM _ p1 fu _ hzo5) (cwV 1 hts (gdV mU_1400 mU_1402 mU_37 mU_75 mU_1403) rfl rfl rfl (by decide +kernel) ⟨Nat.le_of_ble_eq_true rfl, Nat.le_of_ble_eq_true rfl⟩) ⟨z_blind _ _ _ _, va_recv hK hP (ci := 7) (q0 := 0) rfl rfl, fun U hU hW => z_preE hP hD hK hB hS hA hU hW⟩ rfl rfl hl.1 rfl (lv_room (Nat.le_of_ble_eq_true rfl)) dX11_goesUp_7 ⟨Nat.le_of_ble_eq_true rfl, Nat.le_of_ble_eq_true rfl⟩) hD hS hA (fun _ => rfl) (fun r u H locs hw hP hD hS => ?_)
  subst hw
  have hP : va_P (gD g) zCl (wModel g q0 q1 q2 q3 q4 q5 q6 q7 q8 q9 q10 q11 q12 mm masd msav misS mpst mchg merr mfai 0 minp minM mUp mcar mcam mahd magn mltr mbeg mcmd mcmM mpl msz mwr mlin mliM) H := hP
  have hD : va_D A (wModel g q0 q1 q2 q3 q4 q5 q6 q7 q8 q9 q10 q11 q12 mm masd msav misS mpst mchg merr mfai 0 minp minM mUp mcar mcam mahd magn mltr mbeg mcmd mcmM mpl msz mwr mlin mliM) := hD
  refine lv_iconst (v := (-1)) hx hb dX11_goesUp_10 (by decide) ?_
  refine lv_icmp_ne (tgt := 23) hx hb dX11_goesUp_11 (by decide) (fun zc6 => ?_) (fun zc6 => ?_)
  · have hF := z_neg hF zc6
    refine lv_iload_n hx hb dX11_goesUp_23 rfl (lv_at hl 2 rfl) ?_
    obtain ⟨zo7, hzo7, hF⟩ := z_bind hF
    refine z_calli (fun (_ : Unit) => []) [] (va_runS (As := [.int p2]) (rest := []) ⟨hx, hb, hml, hown, hts⟩ (c_X11_isScale l g _ p2 _ hzo7) (va_cwS 1 hts (gdS mU_1345 mU_1346 mU_75 mU_1347) rfl rfl rfl (by decide +kernel) ⟨Nat.le_of_ble_eq_true rfl, Nat.le_of_ble_eq_true rfl⟩) ⟨z_blind _ _ _ _, fun U hU hW => z_pre [] hP hD hK hB hS hA rfl rfl hU hW⟩ rfl rfl hl.1 rfl (lv_room (Nat.le_of_ble_eq_true rfl)) dX11_goesUp_24 ⟨Nat.le_of_ble_eq_true rfl, Nat.le_of_ble_eq_true rfl⟩) hP hD hS hA rfl (fun _ => rfl) (fun r u H locs hw hP hD hS => ?_)
    subst hw
    have hP : va_P (gD g) zCl (wModel g q0 q1 q2 q3 q4 q5 q6 q7 q8 q9 q10 q11 q12 mm masd msav misS mpst mchg merr mfai 0 minp minM mUp mcar mcam mahd magn mltr mbeg mcmd mcmM mpl msz mwr mlin mliM) H := hP
    have hD : va_D A (wModel g q0 q1 q2 q3 q4 q5 q6 q7 q8 q9 q10 q11 q12 mm masd msav misS mpst mchg merr mfai 0 minp minM mUp mcar mcam mahd magn mltr mbeg mcmd mcmM mpl msz mwr mlin mliM) := hD
    refine lv_if_ne (tgt := 39) hx hb dX11_goesUp_27 (by decide) (fun zc8 => ?_) (fun zc8 => ?_)
    · have hF := z_neg hF zc8
      refine lv_aload_n hx hb dX11_goesUp_39 rfl (lv_at hl 0 rfl) ?_
      refine lv_iload_n hx hb dX11_goesUp_40 rfl (lv_at hl 2 rfl) ?_
      obtain ⟨zo9, hzo9, hF⟩ := z_bind hF
      refine z_calliE (fun (u : (Nat → Int32)) => (wModel g q0 q1 q2 q3 q4 q5 q6 q7 q8 q9 q10 q11 q12 mm masd msav misS mpst mchg merr mfai 0 minp minM u mcar mcam mahd magn mltr mbeg mcmd mcmM mpl msz mwr mlin mliM)) (va_runV (As := [.int p2]) (rest := []) ⟨hx, hb, hml, hown, hts⟩ (c_X11_chooses l g q0 q1 q2 q3 q4 q5 q6 q7 q8 q9 q10 q11 q12 mm masd msav misS mpst mchg merr mfai 0 minp minM mUp mcar mcam mahd magn mltr mbeg mcmd mcmM mpl msz mwr mlin mliM _ p2 fu _ hzo9) (cwV 1 hts (gdV mU_1452 mU_1454 mU_44 mU_75 mU_1455) rfl rfl rfl (by decide +kernel) ⟨Nat.le_of_ble_eq_true rfl, Nat.le_of_ble_eq_true rfl⟩) ⟨z_blind _ _ _ _, va_recv hK hP (ci := 7) (q0 := 0) rfl rfl, fun U hU hW => z_preE hP hD hK hB hS hA hU hW⟩ rfl rfl hl.1 rfl (lv_room (Nat.le_of_ble_eq_true rfl)) dX11_goesUp_41 ⟨Nat.le_of_ble_eq_true rfl, Nat.le_of_ble_eq_true rfl⟩) hD hS hA (fun _ => rfl) (fun r u H locs hw hP hD hS => ?_)
      obtain ⟨rfl, rfl⟩ := hw
      have hP : va_P (gD g) zCl (wModel g q0 q1 q2 q3 q4 q5 q6 q7 q8 q9 q10 q11 q12 mm masd msav misS mpst mchg merr mfai 0 minp minM zo9.2 mcar mcam mahd magn mltr mbeg mcmd mcmM mpl msz mwr mlin mliM) H := hP
      have hD : va_D A (wModel g q0 q1 q2 q3 q4 q5 q6 q7 q8 q9 q10 q11 q12 mm masd msav misS mpst mchg merr mfai 0 minp minM zo9.2 mcar mcam mahd magn mltr mbeg mcmd mcmM mpl msz mwr mlin mliM) := hD
      refine lv_pop hx hb dX11_goesUp_44 rfl ?_
      exact K45 () 0 zo9.2 hF _ _ _ (lv_sub hl [0, 1] rfl) hP hD hS
    · have hF := z_pos hF zc8
      refine lv_aload_n hx hb dX11_goesUp_30 rfl (lv_at hl 0 rfl) ?_
      refine lv_iconst (v := 2) hx hb dX11_goesUp_31 (by decide) ?_
      obtain ⟨zo10, hzo10, hF⟩ := z_bind hF
      refine z_calliE (fun (u : Int32) => (wModel g q0 q1 q2 q3 q4 q5 q6 q7 q8 q9 q10 q11 q12 mm masd msav misS mpst mchg merr mfai u minp minM mUp mcar mcam mahd magn mltr mbeg mcmd mcmM mpl msz mwr mlin mliM)) (va_runV (As := [.int 2]) (rest := []) ⟨hx, hb, hml, hown, hts⟩ (c_X11_throwing l g q0 q1 q2 q3 q4 q5 q6 q7 q8 q9 q10 q11 q12 mm masd msav misS mpst mchg merr mfai 0 minp minM mUp mcar mcam mahd magn mltr mbeg mcmd mcmM mpl msz mwr mlin mliM _ 2 _ hzo10) (cwV 1 hts (gdV mU_1352 mU_1354 mU_31 mU_75 mU_1355) rfl rfl rfl (by decide +kernel) ⟨Nat.le_of_ble_eq_true rfl, Nat.le_of_ble_eq_true rfl⟩) ⟨z_blind _ _ _ _, va_recv hK hP (ci := 7) (q0 := 0) rfl rfl, fun U hU hW => z_preE hP hD hK hB hS hA hU hW⟩ rfl rfl hl.1 rfl (lv_room (Nat.le_of_ble_eq_true rfl)) dX11_goesUp_32 ⟨Nat.le_of_ble_eq_true rfl, Nat.le_of_ble_eq_true rfl⟩) hD hS hA (fun _ => rfl) (fun r u H locs hw hP hD hS => ?_)
      obtain ⟨rfl, rfl⟩ := hw
      have hP : va_P (gD g) zCl (wModel g q0 q1 q2 q3 q4 q5 q6 q7 q8 q9 q10 q11 q12 mm masd msav misS mpst mchg merr mfai zo10.2 minp minM mUp mcar mcam mahd magn mltr mbeg mcmd mcmM mpl msz mwr mlin mliM) H := hP
      have hD : va_D A (wModel g q0 q1 q2 q3 q4 q5 q6 q7 q8 q9 q10 q11 q12 mm masd msav misS mpst mchg merr mfai zo10.2 minp minM mUp mcar mcam mahd magn mltr mbeg mcmd mcmM mpl msz mwr mlin mliM) := hD
      refine lv_pop hx hb dX11_goesUp_35 rfl ?_
      refine lv_goto (tgt := 45) hx hb dX11_goesUp_36 (by decide) ?_
      exact K45 () zo10.2 mUp hF _ _ _ (lv_sub hl [0, 1] rfl) hP hD hS
  · have hF := z_pos hF zc6
    refine lv_aload_n hx hb dX11_goesUp_14 rfl (lv_at hl 0 rfl) ?_
    refine lv_iconst (v := 1) hx hb dX11_goesUp_15 (by decide) ?_
    obtain ⟨zo11, hzo11, hF⟩ := z_bind hF
    refine z_calliE (fun (u : Int32) => (wModel g q0 q1 q2 q3 q4 q5 q6 q7 q8 q9 q10 q11 q12 mm masd msav misS mpst mchg merr mfai u minp minM mUp mcar mcam mahd magn mltr mbeg mcmd mcmM mpl msz mwr mlin mliM)) (va_runV (As := [.int 1]) (rest := []) ⟨hx, hb, hml, hown, hts⟩ (c_X11_throwing l g q0 q1 q2 q3 q4 q5 q6 q7 q8 q9 q10 q11 q12 mm masd msav misS mpst mchg merr mfai 0 minp minM mUp mcar mcam mahd magn mltr mbeg mcmd mcmM mpl msz mwr mlin mliM _ 1 _ hzo11) (cwV 1 hts (gdV mU_1352 mU_1354 mU_31 mU_75 mU_1355) rfl rfl rfl (by decide +kernel) ⟨Nat.le_of_ble_eq_true rfl, Nat.le_of_ble_eq_true rfl⟩) ⟨z_blind _ _ _ _, va_recv hK hP (ci := 7) (q0 := 0) rfl rfl, fun U hU hW => z_preE hP hD hK hB hS hA hU hW⟩ rfl rfl hl.1 rfl (lv_room (Nat.le_of_ble_eq_true rfl)) dX11_goesUp_16 ⟨Nat.le_of_ble_eq_true rfl, Nat.le_of_ble_eq_true rfl⟩) hD hS hA (fun _ => rfl) (fun r u H locs hw hP hD hS => ?_)
    obtain ⟨rfl, rfl⟩ := hw
    have hP : va_P (gD g) zCl (wModel g q0 q1 q2 q3 q4 q5 q6 q7 q8 q9 q10 q11 q12 mm masd msav misS mpst mchg merr mfai zo11.2 minp minM mUp mcar mcam mahd magn mltr mbeg mcmd mcmM mpl msz mwr mlin mliM) H := hP
    have hD : va_D A (wModel g q0 q1 q2 q3 q4 q5 q6 q7 q8 q9 q10 q11 q12 mm masd msav misS mpst mchg merr mfai zo11.2 minp minM mUp mcar mcam mahd magn mltr mbeg mcmd mcmM mpl msz mwr mlin mliM) := hD
    refine lv_pop hx hb dX11_goesUp_19 rfl ?_
    refine lv_goto (tgt := 45) hx hb dX11_goesUp_20 (by decide) ?_
    exact K45 () zo11.2 mUp hF _ _ _ (lv_sub hl [0, 1] rfl) hP hD hS
abbrev w_X11_isQuotient : List Cond := .code yX11_isQuotient cX11_isQuotient 2 (some .boolean) :: wU
abbrev r_X11_isQuotient : Room := { frames := 1, cells := 0, slots := 0, locals := 25 }
abbrev q_X11_isQuotient (g : GG) (o : Int32) (A : Nat → Prop) := va_Qi (fun (r : Int32) (u : Unit) => o = r) (fun u t => va_P (gD g) zCl [] t.heap) A
set_option maxHeartbeats 4000000 in
set_option maxRecDepth 100000 in
theorem c_X11_isQuotient (l : Launch) (g : GG) (sz : Nat) (p0 : Int32) (p1 : Int32) (o : Int32) (hF : F_X11_isQuotient p0 p1 = some o) : Met l yX11_isQuotient w_X11_isQuotient r_X11_isQuotient (va_Pc [.int p0, .int p1] (zP g [] sz)) (q_X11_isQuotient g o (va_A [] sz)) 0 0 (va_A [] sz) := by
  refine Met.ofW (cc := cX11_isQuotient) (maxL := 2) (ret := (some .boolean)) (by decide) rfl ?_
  intro p e s m args below meth c s₁ B hml hv
  obtain ⟨rfl, rfl, hP, hK, hD0, hB⟩ := hv
  have hx := B.exec
  have hb := B.bytes
  have hr := B.returns
  have hts : ∀ w ∈ wU, w.before _ s = true := fun w h => atoms_spec (ws := w_X11_isQuotient) B.pre w (List.mem_cons_of_mem _ h)
  have hown : s.vm.findClass RX11 = some m.cls := findClass_of_methodNamed B.named
  have hlocks := B.notSynchronized
  have hD := hD0.self (sz := s.heap.size)
  generalize hAe : va_A [] s.heap.size = A at hD hB ⊢
  have hA : ∀ q : Nat, s.heap.size ≤ q → A q := fun q h => by rw [← hAe]; exact Or.inr h
  have hS : va_S A s.heap s.heap [] := va_S.rf
  have hl := lv_entry ([.int p0, .int p1]) (n := 2) (Nat.le_of_ble_eq_true rfl)
  rw [lg_entry_eq]
  generalize (lg_sl ([.int p0, .int p1]) ++ List.replicate (2 - (lg_sl ([.int p0, .int p1])).length) Slot.unset).toArray = ls at hl ⊢
  have hl : lv_has ls 2 [(0, .int p0), (1, .int p1)] := hl
  unfold F_X11_isQuotient at hF
  refine lv_iload_n hx hb dX11_isQuotient_0 rfl (lv_at hl 0 rfl) ?_
  refine lv_i2l (v := (Int32.toInt64 p0)) hx hb dX11_isQuotient_1 rfl ?_
  refine lv_lconst (v := 0) hx hb dX11_isQuotient_2 (by decide) ?_
  refine lv_ldc2 (v := 9999) hx hb hown (hts _ mU_1344) dX11_isQuotient_3 ?_
  obtain ⟨zo1, hzo1, hF⟩ := z_bind hF
  refine z_calliE (fun (_ : Unit) => []) (va_runS (As := [.long (Int32.toInt64 p0), .long 0, .long 9999]) (rest := []) ⟨hx, hb, hml, hown, hts⟩ (c_X11_in l g _ (Int32.toInt64 p0) 0 9999 _ hzo1) (va_cwS 3 hts (gdS mU_1341 mU_1342 mU_75 mU_1343) rfl rfl rfl (by decide +kernel) ⟨Nat.le_of_ble_eq_true rfl, Nat.le_of_ble_eq_true rfl⟩) ⟨z_blind _ _ _ _, fun U hU hW => z_preE hP hD hK hB hS hA hU hW⟩ rfl rfl hl.1 rfl (lv_room (Nat.le_of_ble_eq_true rfl)) dX11_isQuotient_6 ⟨Nat.le_of_ble_eq_true rfl, Nat.le_of_ble_eq_true rfl⟩) hD hS hA (fun _ => rfl) (fun r u H locs hw hP hD hS => ?_)
  subst hw
  have hP : va_P (gD g) zCl [] H := hP
  have hD : va_D A [] := hD
  refine lv_if_eq (tgt := 28) hx hb dX11_isQuotient_9 (by decide) (fun zc2 => ?_) (fun zc2 => ?_)
  · have hF := z_pos hF zc2
    refine lv_iconst (v := 0) hx hb dX11_isQuotient_28 (by decide) ?_
    have ho := (Option.some.inj hF).symm
    exact W.zret (v := 0) hx hb hr rfl (fun t ht hW => ⟨⟨0, (), rfl, ho, z_end ht hP⟩, hS.F ht⟩) hS.2.2 dX11_isQuotient_29
  · have hF := z_neg hF zc2
    refine lv_iload_n hx hb dX11_isQuotient_12 rfl (lv_at hl 1 rfl) ?_
    refine lv_i2l (v := (Int32.toInt64 p1)) hx hb dX11_isQuotient_13 rfl ?_
    refine lv_lconst (v := 1) hx hb dX11_isQuotient_14 (by decide) ?_
    refine lv_ldc2 (v := 999) hx hb hown (hts _ mU_1387) dX11_isQuotient_15 ?_
    obtain ⟨zo3, hzo3, hF⟩ := z_bind hF
    refine z_calliE (fun (_ : Unit) => []) (va_runS (As := [.long (Int32.toInt64 p1), .long 1, .long 999]) (rest := []) ⟨hx, hb, hml, hown, hts⟩ (c_X11_in l g _ (Int32.toInt64 p1) 1 999 _ hzo3) (va_cwS 3 hts (gdS mU_1341 mU_1342 mU_75 mU_1343) rfl rfl rfl (by decide +kernel) ⟨Nat.le_of_ble_eq_true rfl, Nat.le_of_ble_eq_true rfl⟩) ⟨z_blind _ _ _ _, fun U hU hW => z_preE hP hD hK hB hS hA hU hW⟩ rfl rfl hl.1 rfl (lv_room (Nat.le_of_ble_eq_true rfl)) dX11_isQuotient_18 ⟨Nat.le_of_ble_eq_true rfl, Nat.le_of_ble_eq_true rfl⟩) hD hS hA (fun _ => rfl) (fun r u H locs hw hP hD hS => ?_)
    subst hw
    have hP : va_P (gD g) zCl [] H := hP
    have hD : va_D A [] := hD
    refine lv_if_eq (tgt := 28) hx hb dX11_isQuotient_21 (by decide) (fun zc4 => ?_) (fun zc4 => ?_)
    · have hF := z_pos hF zc4
      refine lv_iconst (v := 0) hx hb dX11_isQuotient_28 (by decide) ?_
      have ho := (Option.some.inj hF).symm
      exact W.zret (v := 0) hx hb hr rfl (fun t ht hW => ⟨⟨0, (), rfl, ho, z_end ht hP⟩, hS.F ht⟩) hS.2.2 dX11_isQuotient_29
    · have hF := z_neg hF zc4
      refine lv_iconst (v := 1) hx hb dX11_isQuotient_24 (by decide) ?_
      refine lv_goto (tgt := 29) hx hb dX11_isQuotient_25 (by decide) ?_
      have ho := (Option.some.inj hF).symm
      exact W.zret (v := 1) hx hb hr rfl (fun t ht hW => ⟨⟨1, (), rfl, ho, z_end ht hP⟩, hS.F ht⟩) hS.2.2 dX11_isQuotient_29
