abbrev w_X11_digitOf : List Cond := .code yX11_digitOf cX11_digitOf 5 (some .int) :: wU
abbrev r_X11_digitOf : Room := { frames := 0, cells := 0, slots := 0, locals := 0 }
abbrev q_X11_digitOf (g : GG) (o : Int32) (A : Nat → Prop) := va_Qi (fun (r : Int32) (u : Unit) => o = r) (fun u t => va_P (gD g) zCl [] t.heap) A
set_option maxHeartbeats 4000000 in
set_option maxRecDepth 100000 in
theorem c_X11_digitOf (l : Launch) (g : GG) (sz : Nat) (p0 : Int32) (p1 : Int32) (p2 : Int32) (fu : Nat) (o : Int32) (hF : F_X11_digitOf fu p0 p1 p2 = some o) : Met l yX11_digitOf w_X11_digitOf r_X11_digitOf (va_Pc [.int p0, .int p1, .int p2] (zP g [] sz)) (q_X11_digitOf g o (va_A [] sz)) 0 0 (va_A [] sz) := by
  refine Met.ofW (cc := cX11_digitOf) (maxL := 5) (ret := (some .int)) (by decide) rfl ?_
  intro p e s m args below meth c s₁ B hml hv
  obtain ⟨rfl, rfl, hP, hK, hD0, hB⟩ := hv
  have hx := B.exec
  have hb := B.bytes
  have hr := B.returns
  have hts : ∀ w ∈ wU, w.before _ s = true := fun w h => atoms_spec (ws := w_X11_digitOf) B.pre w (List.mem_cons_of_mem _ h)
  have hown : s.vm.findClass RX11 = some m.cls := findClass_of_methodNamed B.named
  have hlocks := B.notSynchronized
  have hD := hD0.self (sz := s.heap.size)
  generalize hAe : va_A [] s.heap.size = A at hD hB ⊢
  have hA : ∀ q : Nat, s.heap.size ≤ q → A q := fun q h => by rw [← hAe]; exact Or.inr h
  have hS : va_S A s.heap s.heap [] := va_S.rf
  have hl := lv_entry ([.int p0, .int p1, .int p2]) (n := 5) (Nat.le_of_ble_eq_true rfl)
  rw [lg_entry_eq]
  generalize (lg_sl ([.int p0, .int p1, .int p2]) ++ List.replicate (5 - (lg_sl ([.int p0, .int p1, .int p2])).length) Slot.unset).toArray = ls at hl ⊢
  have hl : lv_has ls 5 [(0, .int p0), (1, .int p1), (2, .int p2)] := hl
  unfold F_X11_digitOf at hF
  have K7 : ∀ (n7 : Nat) (x3 : Int32) (x4 : Int32), F_X11_digitOf_7 fu n7 p1 p2 x3 x4 = some o → ∀ (H : Heap) (locs : List Loc) (ls : Array Slot), lv_has ls 5 [(1, .int p1), (2, .int p2), (3, .int x3), (4, .int x4)] → va_P (gD g) zCl [] H → va_D A [] → va_S A s.heap H locs → W p l e (headSpec w_X11_digitOf r_X11_digitOf).room s m ([.int p0, .int p1, .int p2] : List Value).toArray below meth c H locs 0 0 (MQ below (q_X11_digitOf g o A) ([.int p0, .int p1, .int p2] : List Value).toArray s 0 0 A) (F0 m 7 ls []) := by
    intro n7
    induction n7 with
    | zero =>
      intro x3 x4 hF
      exact absurd hF (by simp [F_X11_digitOf_7])
    | succ n7 ih7 =>
      intro x3 x4 hF H locs ls hl hP hD hS
      unfold F_X11_digitOf_7 at hF
      refine lv_iload hx hb dX11_digitOf_7 (lv_at hl 3 rfl) ?_
      refine lv_iload_n hx hb dX11_digitOf_9 rfl (lv_at hl 1 rfl) ?_
      refine lv_icmp_ge (tgt := 26) hx hb dX11_digitOf_10 (by decide) (fun zc1 => ?_) (fun zc1 => ?_)
      · have hF := z_pos hF zc1
        refine lv_bipush (v := 10) hx hb dX11_digitOf_26 (by decide) ?_
        refine lv_iload_n hx hb dX11_digitOf_28 rfl (lv_at hl 2 rfl) ?_
        refine lv_imul hx hb dX11_digitOf_29 ?_
        refine lv_iload_n hx hb dX11_digitOf_30 rfl (lv_at hl 0 rfl) ?_
        obtain ⟨zg2, hF⟩ := z_grd hF
        refine lv_idiv hx hb dX11_digitOf_31 zg2 ?_
        have ho := (Option.some.inj hF).symm
        exact W.iret (v := ((10 * x3) / p1)) hx hb hr (fun t ht hW => ⟨⟨((10 * x3) / p1), (), rfl, ho, z_end ht hP⟩, hS.F ht⟩) hS.2.2 dX11_digitOf_32
      · have hF := z_neg hF zc1
        refine lv_bipush (v := 10) hx hb dX11_digitOf_13 (by decide) ?_
        refine lv_iload_n hx hb dX11_digitOf_15 rfl (lv_at hl 2 rfl) ?_
        refine lv_imul hx hb dX11_digitOf_16 ?_
        refine lv_iload_n hx hb dX11_digitOf_17 rfl (lv_at hl 0 rfl) ?_
        obtain ⟨zg3, hF⟩ := z_grd hF
        refine lv_irem hx hb dX11_digitOf_18 zg3 ?_
        obtain ⟨zv4, ezv4, hF⟩ := z_let hF
        refine z_topi ezv4 ?_
        refine lv_istore_n (lv' := [(3, .int zv4), (1, .int p1), (2, .int p2), (4, .int x4)]) hx hb dX11_digitOf_19 rfl hl (by decide) rfl (fun ls hl => ?_)
        obtain ⟨zv5, ezv5, hF⟩ := z_let hF
        refine lv_iinc (v := zv5) (lv' := [(4, .int zv5), (3, .int zv4), (1, .int p1), (2, .int p2)]) hx hb dX11_digitOf_20 hl (k := 3) rfl (by rw [ezv5]; rfl) (by decide) rfl (fun ls hl => ?_)
        refine lv_goto (tgt := 7) hx hb dX11_digitOf_23 (by decide) ?_
        exact ih7 zv4 zv5 hF _ _ _ (lv_sub hl [2, 3, 1, 0] rfl) hP hD hS
  refine lv_iload_n hx hb dX11_digitOf_0 rfl (lv_at hl 0 rfl) ?_
  refine lv_iload_n hx hb dX11_digitOf_1 rfl (lv_at hl 1 rfl) ?_
  obtain ⟨zg6, hF⟩ := z_grd hF
  refine lv_irem hx hb dX11_digitOf_2 zg6 ?_
  obtain ⟨zv7, ezv7, hF⟩ := z_let hF
  refine z_topi ezv7 ?_
  refine lv_istore_n (lv' := [(3, .int zv7), (0, .int p0), (1, .int p1), (2, .int p2)]) hx hb dX11_digitOf_3 rfl hl (by decide) rfl (fun ls hl => ?_)
  refine lv_iconst (v := 1) hx hb dX11_digitOf_4 (by decide) ?_
  refine lv_istore (lv' := [(4, .int 1), (3, .int zv7), (0, .int p0), (1, .int p1), (2, .int p2)]) hx hb dX11_digitOf_5 hl (by decide) rfl (fun ls hl => ?_)
  exact K7 fu zv7 1 hF _ _ _ (lv_sub hl [3, 4, 1, 0] rfl) hP hD hS
abbrev w_X11_quotientDigit : List Cond := .code yX11_quotientDigit cX11_quotientDigit 4 (some .int) :: wU
abbrev r_X11_quotientDigit : Room := { frames := 2, cells := 0, slots := 0, locals := 46 }
abbrev q_X11_quotientDigit (g : GG) (q0 q1 q2 q3 q4 q5 q6 q7 q8 q9 q10 q11 q12 : Nat) (mm : Nat → Int64) (masd : Nat → Int64) (msav : Nat → Int64) (misS : Int32) (mpst : Nat → Int64) (mchg : Int32) (merr : Int32) (mfai : Int32) (mthr : Int32) (minp : Nat → Int32) (minM : Int32) (mUp : Nat → Int32) (mcar : Nat → Int32) (mcam : Nat → Int32) (mahd : Int32) (magn : Int32) (mltr : Nat → Int32) (mbeg : Nat → Int32) (mcmd : Nat → Int32) (mcmM : Int32) (mpl : Int32) (msz : Int32) (mwr : Int32) (mlin : Nat → Int32) (mliM : Int32) (o : Int32 × Int32) (A : Nat → Prop) := va_Qi (fun (r : Int32) (u : Int32) => o.1 = r ∧ o.2 = u) (fun u t => va_P (gD g) zCl (wModel g q0 q1 q2 q3 q4 q5 q6 q7 q8 q9 q10 q11 q12 mm masd msav misS mpst mchg merr mfai u minp minM mUp mcar mcam mahd magn mltr mbeg mcmd mcmM mpl msz mwr mlin mliM) t.heap) A
set_option maxHeartbeats 4000000 in
set_option maxRecDepth 100000 in
theorem c_X11_quotientDigit (l : Launch) (g : GG) (q0 q1 q2 q3 q4 q5 q6 q7 q8 q9 q10 q11 q12 : Nat) (mm : Nat → Int64) (masd : Nat → Int64) (msav : Nat → Int64) (misS : Int32) (mpst : Nat → Int64) (mchg : Int32) (merr : Int32) (mfai : Int32) (mthr : Int32) (minp : Nat → Int32) (minM : Int32) (mUp : Nat → Int32) (mcar : Nat → Int32) (mcam : Nat → Int32) (mahd : Int32) (magn : Int32) (mltr : Nat → Int32) (mbeg : Nat → Int32) (mcmd : Nat → Int32) (mcmM : Int32) (mpl : Int32) (msz : Int32) (mwr : Int32) (mlin : Nat → Int32) (mliM : Int32) (sz : Nat) (p1 : Int32) (p2 : Int32) (p3 : Int32) (fu : Nat) (o : Int32 × Int32) (hF : F_X11_quotientDigit fu mthr p1 p2 p3 = some o) : Met l yX11_quotientDigit w_X11_quotientDigit r_X11_quotientDigit (va_Pc [.ref q0, .int p1, .int p2, .int p3] (zP g (wModel g q0 q1 q2 q3 q4 q5 q6 q7 q8 q9 q10 q11 q12 mm masd msav misS mpst mchg merr mfai mthr minp minM mUp mcar mcam mahd magn mltr mbeg mcmd mcmM mpl msz mwr mlin mliM) sz)) (q_X11_quotientDigit g q0 q1 q2 q3 q4 q5 q6 q7 q8 q9 q10 q11 q12 mm masd msav misS mpst mchg merr mfai mthr minp minM mUp mcar mcam mahd magn mltr mbeg mcmd mcmM mpl msz mwr mlin mliM o (va_A (wModel g q0 q1 q2 q3 q4 q5 q6 q7 q8 q9 q10 q11 q12 mm masd msav misS mpst mchg merr mfai mthr minp minM mUp mcar mcam mahd magn mltr mbeg mcmd mcmM mpl msz mwr mlin mliM) sz)) 0 0 (va_A (wModel g q0 q1 q2 q3 q4 q5 q6 q7 q8 q9 q10 q11 q12 mm masd msav misS mpst mchg merr mfai mthr minp minM mUp mcar mcam mahd magn mltr mbeg mcmd mcmM mpl msz mwr mlin mliM) sz) := by
  refine Met.ofW (cc := cX11_quotientDigit) (maxL := 4) (ret := (some .int)) (by decide) rfl ?_
  intro p e s m args below meth c s₁ B hml hv
  obtain ⟨rfl, rfl, hP, hK, hD0, hB⟩ := hv
  have hx := B.exec
  have hb := B.bytes
  have hr := B.returns
  have hts : ∀ w ∈ wU, w.before _ s = true := fun w h => atoms_spec (ws := w_X11_quotientDigit) B.pre w (List.mem_cons_of_mem _ h)
  have hown : s.vm.findClass RX11 = some m.cls := findClass_of_methodNamed B.named
  have hlocks := B.notSynchronized
  have hD := hD0.self (sz := s.heap.size)
  generalize hAe : va_A (wModel g q0 q1 q2 q3 q4 q5 q6 q7 q8 q9 q10 q11 q12 mm masd msav misS mpst mchg merr mfai mthr minp minM mUp mcar mcam mahd magn mltr mbeg mcmd mcmM mpl msz mwr mlin mliM) s.heap.size = A at hD hB ⊢
  have hA : ∀ q : Nat, s.heap.size ≤ q → A q := fun q h => by rw [← hAe]; exact Or.inr h
  have hS : va_S A s.heap s.heap [] := va_S.rf
  have hl := lv_entry ([.ref q0, .int p1, .int p2, .int p3]) (n := 4) (Nat.le_of_ble_eq_true rfl)
  rw [lg_entry_eq]
  generalize (lg_sl ([.ref q0, .int p1, .int p2, .int p3]) ++ List.replicate (4 - (lg_sl ([.ref q0, .int p1, .int p2, .int p3])).length) Slot.unset).toArray = ls at hl ⊢
  have hl : lv_has ls 4 [(0, .ref q0), (1, .int p1), (2, .int p2), (3, .int p3)] := hl
  unfold F_X11_quotientDigit at hF
  refine lv_aload_n hx hb dX11_quotientDigit_0 rfl (lv_at hl 0 rfl) ?_
  refine lv_iconst (v := 0) hx hb dX11_quotientDigit_1 (by decide) ?_
  refine va_put (D := gD g) (ci := 7) (v := .int 0) (ty := .int) (C := RX11) (T := TX11) (N := 25) hx hb hts inX11 tyX11 tyX11_ok nmX11 hown hK hP hD hS 0 rfl rfl 8 (by decide) (hts _ mU_1252) (fun _ h9 => h9) rfl (by decide +kernel) rfl rfl (Nat.le_of_ble_eq_true rfl) dX11_quotientDigit_2 (fun H locs hP hD hS => ?_)
  have hP : va_P (gD g) zCl (wModel g q0 q1 q2 q3 q4 q5 q6 q7 q8 q9 q10 q11 q12 mm masd msav misS mpst mchg merr mfai 0 minp minM mUp mcar mcam mahd magn mltr mbeg mcmd mcmM mpl msz mwr mlin mliM) H := hP
  have hD : va_D A (wModel g q0 q1 q2 q3 q4 q5 q6 q7 q8 q9 q10 q11 q12 mm masd msav misS mpst mchg merr mfai 0 minp minM mUp mcar mcam mahd magn mltr mbeg mcmd mcmM mpl msz mwr mlin mliM) := hD
  refine lv_iload_n hx hb dX11_quotientDigit_5 rfl (lv_at hl 1 rfl) ?_
  refine lv_iload_n hx hb dX11_quotientDigit_6 rfl (lv_at hl 2 rfl) ?_
  obtain ⟨zo1, hzo1, hF⟩ := z_bind hF
  refine z_calli (fun (_ : Unit) => []) [] (va_runS (As := [.int p1, .int p2]) (rest := []) ⟨hx, hb, hml, hown, hts⟩ (c_X11_isQuotient l g _ p1 p2 _ hzo1) (va_cwS 2 hts (gdS mU_1555 mU_1556 mU_75 mU_1557) rfl rfl rfl (by decide +kernel) ⟨Nat.le_of_ble_eq_true rfl, Nat.le_of_ble_eq_true rfl⟩) ⟨z_blind _ _ _ _, fun U hU hW => z_pre [] hP hD hK hB hS hA rfl rfl hU hW⟩ rfl rfl hl.1 rfl (lv_room (Nat.le_of_ble_eq_true rfl)) dX11_quotientDigit_7 ⟨Nat.le_of_ble_eq_true rfl, Nat.le_of_ble_eq_true rfl⟩) hP hD hS hA rfl (fun _ => rfl) (fun r u H locs hw hP hD hS => ?_)
  subst hw
  have hP : va_P (gD g) zCl (wModel g q0 q1 q2 q3 q4 q5 q6 q7 q8 q9 q10 q11 q12 mm masd msav misS mpst mchg merr mfai 0 minp minM mUp mcar mcam mahd magn mltr mbeg mcmd mcmM mpl msz mwr mlin mliM) H := hP
  have hD : va_D A (wModel g q0 q1 q2 q3 q4 q5 q6 q7 q8 q9 q10 q11 q12 mm masd msav misS mpst mchg merr mfai 0 minp minM mUp mcar mcam mahd magn mltr mbeg mcmd mcmM mpl msz mwr mlin mliM) := hD
  refine lv_if_ne (tgt := 19) hx hb dX11_quotientDigit_10 (by decide) (fun zc2 => ?_) (fun zc2 => ?_)
  · have hF := z_neg hF zc2
    refine lv_iload_n hx hb dX11_quotientDigit_19 rfl (lv_at hl 3 rfl) ?_
    refine lv_i2l (v := (Int32.toInt64 p3)) hx hb dX11_quotientDigit_20 rfl ?_
    refine lv_lconst (v := 1) hx hb dX11_quotientDigit_21 (by decide) ?_
    refine lv_ldc2 (v := 9999) hx hb hown (hts _ mU_1344) dX11_quotientDigit_22 ?_
    obtain ⟨zo3, hzo3, hF⟩ := z_bind hF
    refine z_calli (fun (_ : Unit) => []) [] (va_runS (As := [.long (Int32.toInt64 p3), .long 1, .long 9999]) (rest := []) ⟨hx, hb, hml, hown, hts⟩ (c_X11_in l g _ (Int32.toInt64 p3) 1 9999 _ hzo3) (va_cwS 3 hts (gdS mU_1341 mU_1342 mU_75 mU_1343) rfl rfl rfl (by decide +kernel) ⟨Nat.le_of_ble_eq_true rfl, Nat.le_of_ble_eq_true rfl⟩) ⟨z_blind _ _ _ _, fun U hU hW => z_pre [] hP hD hK hB hS hA rfl rfl hU hW⟩ rfl rfl hl.1 rfl (lv_room (Nat.le_of_ble_eq_true rfl)) dX11_quotientDigit_25 ⟨Nat.le_of_ble_eq_true rfl, Nat.le_of_ble_eq_true rfl⟩) hP hD hS hA rfl (fun _ => rfl) (fun r u H locs hw hP hD hS => ?_)
    subst hw
    have hP : va_P (gD g) zCl (wModel g q0 q1 q2 q3 q4 q5 q6 q7 q8 q9 q10 q11 q12 mm masd msav misS mpst mchg merr mfai 0 minp minM mUp mcar mcam mahd magn mltr mbeg mcmd mcmM mpl msz mwr mlin mliM) H := hP
    have hD : va_D A (wModel g q0 q1 q2 q3 q4 q5 q6 q7 q8 q9 q10 q11 q12 mm masd msav misS mpst mchg merr mfai 0 minp minM mUp mcar mcam mahd magn mltr mbeg mcmd mcmM mpl msz mwr mlin mliM) := hD
    refine lv_if_eq (tgt := 40) hx hb dX11_quotientDigit_28 (by decide) (fun zc4 => ?_) (fun zc4 => ?_)
    · have hF := z_pos hF zc4
      refine lv_aload_n hx hb dX11_quotientDigit_40 rfl (lv_at hl 0 rfl) ?_
      refine lv_iconst (v := 2) hx hb dX11_quotientDigit_41 (by decide) ?_
      obtain ⟨zo5, hzo5, hF⟩ := z_bind hF
      refine z_calliE (fun (u : Int32) => (wModel g q0 q1 q2 q3 q4 q5 q6 q7 q8 q9 q10 q11 q12 mm masd msav misS mpst mchg merr mfai u minp minM mUp mcar mcam mahd magn mltr mbeg mcmd mcmM mpl msz mwr mlin mliM)) (va_runV (As := [.int 2]) (rest := []) ⟨hx, hb, hml, hown, hts⟩ (c_X11_throwing l g q0 q1 q2 q3 q4 q5 q6 q7 q8 q9 q10 q11 q12 mm masd msav misS mpst mchg merr mfai 0 minp minM mUp mcar mcam mahd magn mltr mbeg mcmd mcmM mpl msz mwr mlin mliM _ 2 _ hzo5) (cwV 1 hts (gdV mU_1352 mU_1354 mU_31 mU_75 mU_1355) rfl rfl rfl (by decide +kernel) ⟨Nat.le_of_ble_eq_true rfl, Nat.le_of_ble_eq_true rfl⟩) ⟨z_blind _ _ _ _, va_recv hK hP (ci := 7) (q0 := 0) rfl rfl, fun U hU hW => z_preE hP hD hK hB hS hA hU hW⟩ rfl rfl hl.1 rfl (lv_room (Nat.le_of_ble_eq_true rfl)) dX11_quotientDigit_42 ⟨Nat.le_of_ble_eq_true rfl, Nat.le_of_ble_eq_true rfl⟩) hD hS hA (fun _ => rfl) (fun r u H locs hw hP hD hS => ?_)
      obtain ⟨rfl, rfl⟩ := hw
      have hP : va_P (gD g) zCl (wModel g q0 q1 q2 q3 q4 q5 q6 q7 q8 q9 q10 q11 q12 mm masd msav misS mpst mchg merr mfai zo5.2 minp minM mUp mcar mcam mahd magn mltr mbeg mcmd mcmM mpl msz mwr mlin mliM) H := hP
      have hD : va_D A (wModel g q0 q1 q2 q3 q4 q5 q6 q7 q8 q9 q10 q11 q12 mm masd msav misS mpst mchg merr mfai zo5.2 minp minM mUp mcar mcam mahd magn mltr mbeg mcmd mcmM mpl msz mwr mlin mliM) := hD
      have ho := (Option.some.inj hF).symm
      exact W.iret (v := zo5.1) hx hb hr (fun t ht hW => ⟨⟨zo5.1, zo5.2, rfl, ⟨by rw [ho], by rw [ho]⟩, z_end ht hP⟩, hS.F ht⟩) hS.2.2 dX11_quotientDigit_45
    · have hF := z_neg hF zc4
      refine lv_iload_n hx hb dX11_quotientDigit_31 rfl (lv_at hl 1 rfl) ?_
      refine lv_iload_n hx hb dX11_quotientDigit_32 rfl (lv_at hl 2 rfl) ?_
      refine lv_iload_n hx hb dX11_quotientDigit_33 rfl (lv_at hl 3 rfl) ?_
      obtain ⟨zo6, hzo6, hF⟩ := z_bind hF
      refine z_calli (fun (_ : Unit) => []) [] (va_runS (As := [.int p1, .int p2, .int p3]) (rest := []) ⟨hx, hb, hml, hown, hts⟩ (c_X11_digitOf l g _ p1 p2 p3 fu _ hzo6) (va_cwS 3 hts (gdS mU_1558 mU_1559 mU_75 mU_1560) rfl rfl rfl (by decide +kernel) ⟨Nat.le_of_ble_eq_true rfl, Nat.le_of_ble_eq_true rfl⟩) ⟨z_blind _ _ _ _, fun U hU hW => z_pre [] hP hD hK hB hS hA rfl rfl hU hW⟩ rfl rfl hl.1 rfl (lv_room (Nat.le_of_ble_eq_true rfl)) dX11_quotientDigit_34 ⟨Nat.le_of_ble_eq_true rfl, Nat.le_of_ble_eq_true rfl⟩) hP hD hS hA rfl (fun _ => rfl) (fun r u H locs hw hP hD hS => ?_)
      subst hw
      have hP : va_P (gD g) zCl (wModel g q0 q1 q2 q3 q4 q5 q6 q7 q8 q9 q10 q11 q12 mm masd msav misS mpst mchg merr mfai 0 minp minM mUp mcar mcam mahd magn mltr mbeg mcmd mcmM mpl msz mwr mlin mliM) H := hP
      have hD : va_D A (wModel g q0 q1 q2 q3 q4 q5 q6 q7 q8 q9 q10 q11 q12 mm masd msav misS mpst mchg merr mfai 0 minp minM mUp mcar mcam mahd magn mltr mbeg mcmd mcmM mpl msz mwr mlin mliM) := hD
      refine lv_goto (tgt := 45) hx hb dX11_quotientDigit_37 (by decide) ?_
      have ho := (Option.some.inj hF).symm
      exact W.iret (v := zo6) hx hb hr (fun t ht hW => ⟨⟨zo6, 0, rfl, ⟨by rw [ho], by rw [ho]⟩, z_end ht hP⟩, hS.F ht⟩) hS.2.2 dX11_quotientDigit_45
  · have hF := z_pos hF zc2
    refine lv_aload_n hx hb dX11_quotientDigit_13 rfl (lv_at hl 0 rfl) ?_
    refine lv_iconst (v := 1) hx hb dX11_quotientDigit_14 (by decide) ?_
    obtain ⟨zo7, hzo7, hF⟩ := z_bind hF
    refine z_calliE (fun (u : Int32) => (wModel g q0 q1 q2 q3 q4 q5 q6 q7 q8 q9 q10 q11 q12 mm masd msav misS mpst mchg merr mfai u minp minM mUp mcar mcam mahd magn mltr mbeg mcmd mcmM mpl msz mwr mlin mliM)) (va_runV (As := [.int 1]) (rest := []) ⟨hx, hb, hml, hown, hts⟩ (c_X11_throwing l g q0 q1 q2 q3 q4 q5 q6 q7 q8 q9 q10 q11 q12 mm masd msav misS mpst mchg merr mfai 0 minp minM mUp mcar mcam mahd magn mltr mbeg mcmd mcmM mpl msz mwr mlin mliM _ 1 _ hzo7) (cwV 1 hts (gdV mU_1352 mU_1354 mU_31 mU_75 mU_1355) rfl rfl rfl (by decide +kernel) ⟨Nat.le_of_ble_eq_true rfl, Nat.le_of_ble_eq_true rfl⟩) ⟨z_blind _ _ _ _, va_recv hK hP (ci := 7) (q0 := 0) rfl rfl, fun U hU hW => z_preE hP hD hK hB hS hA hU hW⟩ rfl rfl hl.1 rfl (lv_room (Nat.le_of_ble_eq_true rfl)) dX11_quotientDigit_15 ⟨Nat.le_of_ble_eq_true rfl, Nat.le_of_ble_eq_true rfl⟩) hD hS hA (fun _ => rfl) (fun r u H locs hw hP hD hS => ?_)
    obtain ⟨rfl, rfl⟩ := hw
    have hP : va_P (gD g) zCl (wModel g q0 q1 q2 q3 q4 q5 q6 q7 q8 q9 q10 q11 q12 mm masd msav misS mpst mchg merr mfai zo7.2 minp minM mUp mcar mcam mahd magn mltr mbeg mcmd mcmM mpl msz mwr mlin mliM) H := hP
    have hD : va_D A (wModel g q0 q1 q2 q3 q4 q5 q6 q7 q8 q9 q10 q11 q12 mm masd msav misS mpst mchg merr mfai zo7.2 minp minM mUp mcar mcam mahd magn mltr mbeg mcmd mcmM mpl msz mwr mlin mliM) := hD
    have ho := (Option.some.inj hF).symm
    exact W.iret (v := zo7.1) hx hb hr (fun t ht hW => ⟨⟨zo7.1, zo7.2, rfl, ⟨by rw [ho], by rw [ho]⟩, z_end ht hP⟩, hS.F ht⟩) hS.2.2 dX11_quotientDigit_18
abbrev w_X11_divides : List Cond := .code yX11_divides cX11_divides 5 none :: wU
abbrev r_X11_divides : Room := { frames := 0, cells := 0, slots := 0, locals := 0 }
abbrev q_X11_divides (g : GG) (q0 q1 q2 q3 q4 q5 q6 q7 q8 q9 q10 q11 q12 : Nat) (mm : Nat → Int64) (masd : Nat → Int64) (msav : Nat → Int64) (misS : Int32) (mpst : Nat → Int64) (mchg : Int32) (merr : Int32) (mfai : Int32) (mthr : Int32) (minp : Nat → Int32) (minM : Int32) (mUp : Nat → Int32) (mcar : Nat → Int32) (mcam : Nat → Int32) (mahd : Int32) (magn : Int32) (mltr : Nat → Int32) (mbeg : Nat → Int32) (mcmd : Nat → Int32) (mcmM : Int32) (mpl : Int32) (msz : Int32) (mwr : Int32) (mlin : Nat → Int32) (mliM : Int32) (o : (Nat → Int32) × Int32 × Int32) (A : Nat → Prop) := va_Qv (fun (u : (Nat → Int32) × Int32 × Int32) => o = u) (fun u t => va_P (gD g) zCl (wModel g q0 q1 q2 q3 q4 q5 q6 q7 q8 q9 q10 q11 q12 mm masd msav misS mpst mchg merr mfai mthr minp minM mUp mcar u.1 u.2.1 u.2.2 mltr mbeg mcmd mcmM mpl msz mwr mlin mliM) t.heap) A
set_option maxHeartbeats 4000000 in
set_option maxRecDepth 100000 in
theorem c_X11_divides (l : Launch) (g : GG) (q0 q1 q2 q3 q4 q5 q6 q7 q8 q9 q10 q11 q12 : Nat) (mm : Nat → Int64) (masd : Nat → Int64) (msav : Nat → Int64) (misS : Int32) (mpst : Nat → Int64) (mchg : Int32) (merr : Int32) (mfai : Int32) (mthr : Int32) (minp : Nat → Int32) (minM : Int32) (mUp : Nat → Int32) (mcar : Nat → Int32) (mcam : Nat → Int32) (mahd : Int32) (magn : Int32) (mltr : Nat → Int32) (mbeg : Nat → Int32) (mcmd : Nat → Int32) (mcmM : Int32) (mpl : Int32) (msz : Int32) (mwr : Int32) (mlin : Nat → Int32) (mliM : Int32) (sz : Nat) (p1 : Int32) (p2 : Int32) (fu : Nat) (o : (Nat → Int32) × Int32 × Int32) (hF : F_X11_divides fu mcam mahd magn p1 p2 = some o) : Met l yX11_divides w_X11_divides r_X11_divides (va_Pc [.ref q0, .int p1, .int p2] (zP g (wModel g q0 q1 q2 q3 q4 q5 q6 q7 q8 q9 q10 q11 q12 mm masd msav misS mpst mchg merr mfai mthr minp minM mUp mcar mcam mahd magn mltr mbeg mcmd mcmM mpl msz mwr mlin mliM) sz)) (q_X11_divides g q0 q1 q2 q3 q4 q5 q6 q7 q8 q9 q10 q11 q12 mm masd msav misS mpst mchg merr mfai mthr minp minM mUp mcar mcam mahd magn mltr mbeg mcmd mcmM mpl msz mwr mlin mliM o (va_A (wModel g q0 q1 q2 q3 q4 q5 q6 q7 q8 q9 q10 q11 q12 mm masd msav misS mpst mchg merr mfai mthr minp minM mUp mcar mcam mahd magn mltr mbeg mcmd mcmM mpl msz mwr mlin mliM) sz)) 0 0 (va_A (wModel g q0 q1 q2 q3 q4 q5 q6 q7 q8 q9 q10 q11 q12 mm masd msav misS mpst mchg merr mfai mthr minp minM mUp mcar mcam mahd magn mltr mbeg mcmd mcmM mpl msz mwr mlin mliM) sz) := by
  refine Met.ofW (cc := cX11_divides) (maxL := 5) (ret := none) (by decide) rfl ?_
  intro p e s m args below meth c s₁ B hml hv
  obtain ⟨rfl, rfl, hP, hK, hD0, hB⟩ := hv
  have hx := B.exec
  have hb := B.bytes
  have hr := B.returns
  have hts : ∀ w ∈ wU, w.before _ s = true := fun w h => atoms_spec (ws := w_X11_divides) B.pre w (List.mem_cons_of_mem _ h)
  have hown : s.vm.findClass RX11 = some m.cls := findClass_of_methodNamed B.named
  have hlocks := B.notSynchronized
  have hD := hD0.self (sz := s.heap.size)
  generalize hAe : va_A (wModel g q0 q1 q2 q3 q4 q5 q6 q7 q8 q9 q10 q11 q12 mm masd msav misS mpst mchg merr mfai mthr minp minM mUp mcar mcam mahd magn mltr mbeg mcmd mcmM mpl msz mwr mlin mliM) s.heap.size = A at hD hB ⊢
  have hA : ∀ q : Nat, s.heap.size ≤ q → A q := fun q h => by rw [← hAe]; exact Or.inr h
  have hS : va_S A s.heap s.heap [] := va_S.rf
  have hl := lv_entry ([.ref q0, .int p1, .int p2]) (n := 5) (Nat.le_of_ble_eq_true rfl)
  rw [lg_entry_eq]
  generalize (lg_sl ([.ref q0, .int p1, .int p2]) ++ List.replicate (5 - (lg_sl ([.ref q0, .int p1, .int p2])).length) Slot.unset).toArray = ls at hl ⊢
  have hl : lv_has ls 5 [(0, .ref q0), (1, .int p1), (2, .int p2)] := hl
  unfold F_X11_divides at hF
  have K27 : ∀ (n27 : Nat) (mcam : Nat → Int32) (mahd : Int32) (magn : Int32) (x3 : Int32) (x4 : Int32), F_X11_divides_27 fu n27 mcam mahd magn p2 x3 x4 = some o → ∀ (H : Heap) (locs : List Loc) (ls : Array Slot), lv_has ls 5 [(0, .ref q0), (2, .int p2), (3, .int x3), (4, .int x4)] → va_P (gD g) zCl (wModel g q0 q1 q2 q3 q4 q5 q6 q7 q8 q9 q10 q11 q12 mm masd msav misS mpst mchg merr mfai mthr minp minM mUp mcar mcam mahd magn mltr mbeg mcmd mcmM mpl msz mwr mlin mliM) H → va_D A (wModel g q0 q1 q2 q3 q4 q5 q6 q7 q8 q9 q10 q11 q12 mm masd msav misS mpst mchg merr mfai mthr minp minM mUp mcar mcam mahd magn mltr mbeg mcmd mcmM mpl msz mwr mlin mliM) → va_S A s.heap H locs → W p l e (headSpec w_X11_divides r_X11_divides).room s m ([.ref q0, .int p1, .int p2] : List Value).toArray below meth c H locs 0 0 (MQ below (q_X11_divides g q0 q1 q2 q3 q4 q5 q6 q7 q8 q9 q10 q11 q12 mm masd msav misS mpst mchg merr mfai mthr minp minM mUp mcar mcam mahd magn mltr mbeg mcmd mcmM mpl msz mwr mlin mliM o A) ([.ref q0, .int p1, .int p2] : List Value).toArray s 0 0 A) (F0 m 27 ls []) := by
    intro n27
    induction n27 with
    | zero =>
      intro mcam mahd magn x3 x4 hF
      exact absurd hF (by simp [F_X11_divides_27])
    | succ n27 ih27 =>
      intro mcam mahd magn x3 x4 hF H locs ls hl hP hD hS
      unfold F_X11_divides_27 at hF
      refine lv_aload_n hx hb dX11_divides_27 rfl (lv_at hl 0 rfl) ?_
      refine va_get (D := gD g) (ci := 7) (v := .ref q8) (C := RX11) (T := TX11) (N := 25) hx hb hts inX11 hown hK hP 0 rfl rfl 13 (by decide) (hts _ mU_1257) (fun _ h9 => h9) rfl dX11_divides_28 ?_
      refine lv_iload_n hx hb dX11_divides_31 rfl (lv_at hl 2 rfl) ?_
      obtain ⟨zg1, hF⟩ := z_grd hF
      refine va_iald hx hb hK hP 8 1 rfl rfl zg1 dX11_divides_32 ?_
      refine lv_if_ne (tgt := 57) hx hb dX11_divides_33 (by decide) (fun zc2 => ?_) (fun zc2 => ?_)
      · have hF := z_neg hF zc2
        refine lv_aload_n hx hb dX11_divides_57 rfl (lv_at hl 0 rfl) ?_
        refine lv_aload_n hx hb dX11_divides_58 rfl (lv_at hl 0 rfl) ?_
        refine va_get (D := gD g) (ci := 7) (v := .ref q8) (C := RX11) (T := TX11) (N := 25) hx hb hts inX11 hown hK hP 0 rfl rfl 13 (by decide) (hts _ mU_1257) (fun _ h9 => h9) rfl dX11_divides_59 ?_
        refine lv_iload_n hx hb dX11_divides_62 rfl (lv_at hl 2 rfl) ?_
        obtain ⟨zg3, hF⟩ := z_grd hF
        refine va_iald hx hb hK hP 8 1 rfl rfl zg3 dX11_divides_63 ?_
        refine lv_iconst (v := 1) hx hb dX11_divides_64 (by decide) ?_
        refine lv_isub hx hb dX11_divides_65 ?_
        refine va_put (D := gD g) (ci := 7) (v := .int ((mcam (Int32.toNatClampNeg x3)) - 1)) (ty := .int) (C := RX11) (T := TX11) (N := 25) hx hb hts inX11 tyX11 tyX11_ok nmX11 hown hK hP hD hS 0 rfl rfl 14 (by decide) (hts _ mU_1258) (fun _ h9 => h9) rfl (by decide +kernel) rfl rfl (Nat.le_of_ble_eq_true rfl) dX11_divides_66 (fun H locs hP hD hS => ?_)
        have hP : va_P (gD g) zCl (wModel g q0 q1 q2 q3 q4 q5 q6 q7 q8 q9 q10 q11 q12 mm masd msav misS mpst mchg merr mfai mthr minp minM mUp mcar mcam ((mcam (Int32.toNatClampNeg x3)) - 1) magn mltr mbeg mcmd mcmM mpl msz mwr mlin mliM) H := hP
        have hD : va_D A (wModel g q0 q1 q2 q3 q4 q5 q6 q7 q8 q9 q10 q11 q12 mm masd msav misS mpst mchg merr mfai mthr minp minM mUp mcar mcam ((mcam (Int32.toNatClampNeg x3)) - 1) magn mltr mbeg mcmd mcmM mpl msz mwr mlin mliM) := hD
        refine lv_aload_n hx hb dX11_divides_69 rfl (lv_at hl 0 rfl) ?_
        refine lv_iload hx hb dX11_divides_70 (lv_at hl 3 rfl) ?_
        refine lv_aload_n hx hb dX11_divides_72 rfl (lv_at hl 0 rfl) ?_
        refine va_get (D := gD g) (ci := 7) (v := .ref q8) (C := RX11) (T := TX11) (N := 25) hx hb hts inX11 hown hK hP 0 rfl rfl 13 (by decide) (hts _ mU_1257) (fun _ h9 => h9) rfl dX11_divides_73 ?_
        refine lv_iload_n hx hb dX11_divides_76 rfl (lv_at hl 2 rfl) ?_
        obtain ⟨zg4, hF⟩ := z_grd hF
        refine va_iald hx hb hK hP 8 1 rfl rfl zg4 dX11_divides_77 ?_
        refine lv_isub hx hb dX11_divides_78 ?_
        refine va_put (D := gD g) (ci := 7) (v := .int (x4 - (mcam (Int32.toNatClampNeg x3)))) (ty := .int) (C := RX11) (T := TX11) (N := 25) hx hb hts inX11 tyX11 tyX11_ok nmX11 hown hK hP hD hS 0 rfl rfl 15 (by decide) (hts _ mU_1259) (fun _ h9 => h9) rfl (by decide +kernel) rfl rfl (Nat.le_of_ble_eq_true rfl) dX11_divides_79 (fun H locs hP hD hS => ?_)
        have hP : va_P (gD g) zCl (wModel g q0 q1 q2 q3 q4 q5 q6 q7 q8 q9 q10 q11 q12 mm masd msav misS mpst mchg merr mfai mthr minp minM mUp mcar mcam ((mcam (Int32.toNatClampNeg x3)) - 1) (x4 - (mcam (Int32.toNatClampNeg x3))) mltr mbeg mcmd mcmM mpl msz mwr mlin mliM) H := hP
        have hD : va_D A (wModel g q0 q1 q2 q3 q4 q5 q6 q7 q8 q9 q10 q11 q12 mm masd msav misS mpst mchg merr mfai mthr minp minM mUp mcar mcam ((mcam (Int32.toNatClampNeg x3)) - 1) (x4 - (mcam (Int32.toNatClampNeg x3))) mltr mbeg mcmd mcmM mpl msz mwr mlin mliM) := hD
        have ho := (Option.some.inj hF).symm
        exact W.vret hx hb hr (fun t ht hW => ⟨⟨(mcam, ((mcam (Int32.toNatClampNeg x3)) - 1), (x4 - (mcam (Int32.toNatClampNeg x3)))), rfl, ho, z_end ht hP⟩, hS.F ht⟩) hS.2.2 dX11_divides_82
      · have hF := z_pos hF zc2
        refine lv_aload_n hx hb dX11_divides_36 rfl (lv_at hl 0 rfl) ?_
        refine va_get (D := gD g) (ci := 7) (v := .ref q8) (C := RX11) (T := TX11) (N := 25) hx hb hts inX11 hown hK hP 0 rfl rfl 13 (by decide) (hts _ mU_1257) (fun _ h9 => h9) rfl dX11_divides_37 ?_
        refine lv_iload_n hx hb dX11_divides_40 rfl (lv_at hl 2 rfl) ?_
        refine lv_iload hx hb dX11_divides_41 (lv_at hl 3 rfl) ?_
        obtain ⟨zg5, hF⟩ := z_grd hF
        refine va_iast hx hb hK hP hD hS 8 1 rfl rfl zg5 dX11_divides_43 (fun H locs hP hD hS => ?_)
        have hP : va_P (gD g) zCl (wModel g q0 q1 q2 q3 q4 q5 q6 q7 q8 q9 q10 q11 q12 mm masd msav misS mpst mchg merr mfai mthr minp minM mUp mcar (upd mcam (Int32.toNatClampNeg x3) x4) mahd magn mltr mbeg mcmd mcmM mpl msz mwr mlin mliM) H := hP
        have hD : va_D A (wModel g q0 q1 q2 q3 q4 q5 q6 q7 q8 q9 q10 q11 q12 mm masd msav misS mpst mchg merr mfai mthr minp minM mUp mcar (upd mcam (Int32.toNatClampNeg x3) x4) mahd magn mltr mbeg mcmd mcmM mpl msz mwr mlin mliM) := hD
        refine lv_bipush (v := 10) hx hb dX11_divides_44 (by decide) ?_
        refine lv_iload_n hx hb dX11_divides_46 rfl (lv_at hl 2 rfl) ?_
        refine lv_imul hx hb dX11_divides_47 ?_
        refine lv_iload_n hx hb dX11_divides_48 rfl (lv_at hl 1 rfl) ?_
        obtain ⟨zg6, hF⟩ := z_grd hF
        refine lv_irem hx hb dX11_divides_49 zg6 ?_
        obtain ⟨zv7, ezv7, hF⟩ := z_let hF
        refine z_topi ezv7 ?_
        refine lv_istore_n (lv' := [(3, .int zv7), (0, .ref q0), (2, .int p2), (4, .int x4)]) hx hb dX11_divides_50 rfl hl (by decide) rfl (fun ls hl => ?_)
        obtain ⟨zv8, ezv8, hF⟩ := z_let hF
        refine lv_iinc (v := zv8) (lv' := [(4, .int zv8), (3, .int zv7), (0, .ref q0), (2, .int p2)]) hx hb dX11_divides_51 hl (k := 3) rfl (by rw [ezv8]; rfl) (by decide) rfl (fun ls hl => ?_)
        refine lv_goto (tgt := 27) hx hb dX11_divides_54 (by decide) ?_
        exact ih27 (upd mcam (Int32.toNatClampNeg x3) x4) mahd magn zv7 zv8 hF _ _ _ (lv_sub hl [2, 3, 1, 0] rfl) hP hD hS
  have K2 : ∀ (n2 : Nat) (mcam : Nat → Int32) (mahd : Int32) (magn : Int32) (x3 : Int32), F_X11_divides_2 fu n2 mcam mahd magn p1 p2 x3 = some o → ∀ (H : Heap) (locs : List Loc) (ls : Array Slot), lv_has ls 5 [(0, .ref q0), (1, .int p1), (2, .int p2), (3, .int x3)] → va_P (gD g) zCl (wModel g q0 q1 q2 q3 q4 q5 q6 q7 q8 q9 q10 q11 q12 mm masd msav misS mpst mchg merr mfai mthr minp minM mUp mcar mcam mahd magn mltr mbeg mcmd mcmM mpl msz mwr mlin mliM) H → va_D A (wModel g q0 q1 q2 q3 q4 q5 q6 q7 q8 q9 q10 q11 q12 mm masd msav misS mpst mchg merr mfai mthr minp minM mUp mcar mcam mahd magn mltr mbeg mcmd mcmM mpl msz mwr mlin mliM) → va_S A s.heap H locs → W p l e (headSpec w_X11_divides r_X11_divides).room s m ([.ref q0, .int p1, .int p2] : List Value).toArray below meth c H locs 0 0 (MQ below (q_X11_divides g q0 q1 q2 q3 q4 q5 q6 q7 q8 q9 q10 q11 q12 mm masd msav misS mpst mchg merr mfai mthr minp minM mUp mcar mcam mahd magn mltr mbeg mcmd mcmM mpl msz mwr mlin mliM o A) ([.ref q0, .int p1, .int p2] : List Value).toArray s 0 0 A) (F0 m 2 ls []) := by
    intro n2
    induction n2 with
    | zero =>
      intro mcam mahd magn x3 hF
      exact absurd hF (by simp [F_X11_divides_2])
    | succ n2 ih2 =>
      intro mcam mahd magn x3 hF H locs ls hl hP hD hS
      unfold F_X11_divides_2 at hF
      refine lv_iload_n hx hb dX11_divides_2 rfl (lv_at hl 3 rfl) ?_
      refine lv_iload_n hx hb dX11_divides_3 rfl (lv_at hl 2 rfl) ?_
      refine lv_icmp_ge (tgt := 20) hx hb dX11_divides_4 (by decide) (fun zc9 => ?_) (fun zc9 => ?_)
      · have hF := z_pos hF zc9
        refine lv_iload_n hx hb dX11_divides_20 rfl (lv_at hl 1 rfl) ?_
        refine lv_iload_n hx hb dX11_divides_21 rfl (lv_at hl 2 rfl) ?_
        obtain ⟨zg10, hF⟩ := z_grd hF
        refine lv_irem hx hb dX11_divides_22 zg10 ?_
        obtain ⟨zv11, ezv11, hF⟩ := z_let hF
        refine z_topi ezv11 ?_
        refine lv_istore_n (lv' := [(3, .int zv11), (0, .ref q0), (1, .int p1), (2, .int p2)]) hx hb dX11_divides_23 rfl hl (by decide) rfl (fun ls hl => ?_)
        refine lv_iconst (v := 1) hx hb dX11_divides_24 (by decide) ?_
        refine lv_istore (lv' := [(4, .int 1), (3, .int zv11), (0, .ref q0), (1, .int p1), (2, .int p2)]) hx hb dX11_divides_25 hl (by decide) rfl (fun ls hl => ?_)
        exact K27 fu mcam mahd magn zv11 1 hF _ _ _ (lv_sub hl [2, 4, 1, 0] rfl) hP hD hS
      · have hF := z_neg hF zc9
        refine lv_aload_n hx hb dX11_divides_7 rfl (lv_at hl 0 rfl) ?_
        refine va_get (D := gD g) (ci := 7) (v := .ref q8) (C := RX11) (T := TX11) (N := 25) hx hb hts inX11 hown hK hP 0 rfl rfl 13 (by decide) (hts _ mU_1257) (fun _ h9 => h9) rfl dX11_divides_8 ?_
        refine lv_iload_n hx hb dX11_divides_11 rfl (lv_at hl 3 rfl) ?_
        refine lv_iconst (v := 0) hx hb dX11_divides_12 (by decide) ?_
        obtain ⟨zg12, hF⟩ := z_grd hF
        refine va_iast hx hb hK hP hD hS 8 1 rfl rfl zg12 dX11_divides_13 (fun H locs hP hD hS => ?_)
        have hP : va_P (gD g) zCl (wModel g q0 q1 q2 q3 q4 q5 q6 q7 q8 q9 q10 q11 q12 mm masd msav misS mpst mchg merr mfai mthr minp minM mUp mcar (upd mcam (Int32.toNatClampNeg x3) 0) mahd magn mltr mbeg mcmd mcmM mpl msz mwr mlin mliM) H := hP
        have hD : va_D A (wModel g q0 q1 q2 q3 q4 q5 q6 q7 q8 q9 q10 q11 q12 mm masd msav misS mpst mchg merr mfai mthr minp minM mUp mcar (upd mcam (Int32.toNatClampNeg x3) 0) mahd magn mltr mbeg mcmd mcmM mpl msz mwr mlin mliM) := hD
        obtain ⟨zv13, ezv13, hF⟩ := z_let hF
        refine lv_iinc (v := zv13) (lv' := [(3, .int zv13), (0, .ref q0), (1, .int p1), (2, .int p2)]) hx hb dX11_divides_14 hl (k := 3) rfl (by rw [ezv13]; rfl) (by decide) rfl (fun ls hl => ?_)
        refine lv_goto (tgt := 2) hx hb dX11_divides_17 (by decide) ?_
        exact ih2 (upd mcam (Int32.toNatClampNeg x3) 0) mahd magn zv13 hF _ _ _ (lv_sub hl [1, 2, 3, 0] rfl) hP hD hS
  refine lv_iconst (v := 0) hx hb dX11_divides_0 (by decide) ?_
  refine lv_istore_n (lv' := [(3, .int 0), (0, .ref q0), (1, .int p1), (2, .int p2)]) hx hb dX11_divides_1 rfl hl (by decide) rfl (fun ls hl => ?_)
  exact K2 fu mcam mahd magn 0 hF _ _ _ (lv_sub hl [1, 2, 3, 0] rfl) hP hD hS
abbrev w_X11_preperiod : List Cond := .code yX11_preperiod cX11_preperiod 3 (some .int) :: wU
abbrev r_X11_preperiod : Room := { frames := 2, cells := 0, slots := 0, locals := 46 }
abbrev q_X11_preperiod (g : GG) (q0 q1 q2 q3 q4 q5 q6 q7 q8 q9 q10 q11 q12 : Nat) (mm : Nat → Int64) (masd : Nat → Int64) (msav : Nat → Int64) (misS : Int32) (mpst : Nat → Int64) (mchg : Int32) (merr : Int32) (mfai : Int32) (mthr : Int32) (minp : Nat → Int32) (minM : Int32) (mUp : Nat → Int32) (mcar : Nat → Int32) (mcam : Nat → Int32) (mahd : Int32) (magn : Int32) (mltr : Nat → Int32) (mbeg : Nat → Int32) (mcmd : Nat → Int32) (mcmM : Int32) (mpl : Int32) (msz : Int32) (mwr : Int32) (mlin : Nat → Int32) (mliM : Int32) (o : Int32 × Int32 × (Nat → Int32) × Int32 × Int32) (A : Nat → Prop) := va_Qi (fun (r : Int32) (u : Int32 × (Nat → Int32) × Int32 × Int32) => o.1 = r ∧ o.2 = u) (fun u t => va_P (gD g) zCl (wModel g q0 q1 q2 q3 q4 q5 q6 q7 q8 q9 q10 q11 q12 mm masd msav misS mpst mchg merr mfai u.1 minp minM mUp mcar u.2.1 u.2.2.1 u.2.2.2 mltr mbeg mcmd mcmM mpl msz mwr mlin mliM) t.heap) A
set_option maxHeartbeats 4000000 in
set_option maxRecDepth 100000 in
theorem c_X11_preperiod (l : Launch) (g : GG) (q0 q1 q2 q3 q4 q5 q6 q7 q8 q9 q10 q11 q12 : Nat) (mm : Nat → Int64) (masd : Nat → Int64) (msav : Nat → Int64) (misS : Int32) (mpst : Nat → Int64) (mchg : Int32) (merr : Int32) (mfai : Int32) (mthr : Int32) (minp : Nat → Int32) (minM : Int32) (mUp : Nat → Int32) (mcar : Nat → Int32) (mcam : Nat → Int32) (mahd : Int32) (magn : Int32) (mltr : Nat → Int32) (mbeg : Nat → Int32) (mcmd : Nat → Int32) (mcmM : Int32) (mpl : Int32) (msz : Int32) (mwr : Int32) (mlin : Nat → Int32) (mliM : Int32) (sz : Nat) (p1 : Int32) (p2 : Int32) (fu : Nat) (o : Int32 × Int32 × (Nat → Int32) × Int32 × Int32) (hF : F_X11_preperiod fu mthr mcam mahd magn p1 p2 = some o) : Met l yX11_preperiod w_X11_preperiod r_X11_preperiod (va_Pc [.ref q0, .int p1, .int p2] (zP g (wModel g q0 q1 q2 q3 q4 q5 q6 q7 q8 q9 q10 q11 q12 mm masd msav misS mpst mchg merr mfai mthr minp minM mUp mcar mcam mahd magn mltr mbeg mcmd mcmM mpl msz mwr mlin mliM) sz)) (q_X11_preperiod g q0 q1 q2 q3 q4 q5 q6 q7 q8 q9 q10 q11 q12 mm masd msav misS mpst mchg merr mfai mthr minp minM mUp mcar mcam mahd magn mltr mbeg mcmd mcmM mpl msz mwr mlin mliM o (va_A (wModel g q0 q1 q2 q3 q4 q5 q6 q7 q8 q9 q10 q11 q12 mm masd msav misS mpst mchg merr mfai mthr minp minM mUp mcar mcam mahd magn mltr mbeg mcmd mcmM mpl msz mwr mlin mliM) sz)) 0 0 (va_A (wModel g q0 q1 q2 q3 q4 q5 q6 q7 q8 q9 q10 q11 q12 mm masd msav misS mpst mchg merr mfai mthr minp minM mUp mcar mcam mahd magn mltr mbeg mcmd mcmM mpl msz mwr mlin mliM) sz) := by
  refine Met.ofW (cc := cX11_preperiod) (maxL := 3) (ret := (some .int)) (by decide) rfl ?_
  intro p e s m args below meth c s₁ B hml hv
  obtain ⟨rfl, rfl, hP, hK, hD0, hB⟩ := hv
  have hx := B.exec
  have hb := B.bytes
  have hr := B.returns
  have hts : ∀ w ∈ wU, w.before _ s = true := fun w h => atoms_spec (ws := w_X11_preperiod) B.pre w (List.mem_cons_of_mem _ h)
  have hown : s.vm.findClass RX11 = some m.cls := findClass_of_methodNamed B.named
  have hlocks := B.notSynchronized
  have hD := hD0.self (sz := s.heap.size)
  generalize hAe : va_A (wModel g q0 q1 q2 q3 q4 q5 q6 q7 q8 q9 q10 q11 q12 mm masd msav misS mpst mchg merr mfai mthr minp minM mUp mcar mcam mahd magn mltr mbeg mcmd mcmM mpl msz mwr mlin mliM) s.heap.size = A at hD hB ⊢
  have hA : ∀ q : Nat, s.heap.size ≤ q → A q := fun q h => by rw [← hAe]; exact Or.inr h
  have hS : va_S A s.heap s.heap [] := va_S.rf
  have hl := lv_entry ([.ref q0, .int p1, .int p2]) (n := 3) (Nat.le_of_ble_eq_true rfl)
  rw [lg_entry_eq]
  generalize (lg_sl ([.ref q0, .int p1, .int p2]) ++ List.replicate (3 - (lg_sl ([.ref q0, .int p1, .int p2])).length) Slot.unset).toArray = ls at hl ⊢
  have hl : lv_has ls 3 [(0, .ref q0), (1, .int p1), (2, .int p2)] := hl
  unfold F_X11_preperiod at hF
  refine lv_aload_n hx hb dX11_preperiod_0 rfl (lv_at hl 0 rfl) ?_
  refine lv_iconst (v := 0) hx hb dX11_preperiod_1 (by decide) ?_
  refine va_put (D := gD g) (ci := 7) (v := .int 0) (ty := .int) (C := RX11) (T := TX11) (N := 25) hx hb hts inX11 tyX11 tyX11_ok nmX11 hown hK hP hD hS 0 rfl rfl 8 (by decide) (hts _ mU_1252) (fun _ h9 => h9) rfl (by decide +kernel) rfl rfl (Nat.le_of_ble_eq_true rfl) dX11_preperiod_2 (fun H locs hP hD hS => ?_)
  have hP : va_P (gD g) zCl (wModel g q0 q1 q2 q3 q4 q5 q6 q7 q8 q9 q10 q11 q12 mm masd msav misS mpst mchg merr mfai 0 minp minM mUp mcar mcam mahd magn mltr mbeg mcmd mcmM mpl msz mwr mlin mliM) H := hP
  have hD : va_D A (wModel g q0 q1 q2 q3 q4 q5 q6 q7 q8 q9 q10 q11 q12 mm masd msav misS mpst mchg merr mfai 0 minp minM mUp mcar mcam mahd magn mltr mbeg mcmd mcmM mpl msz mwr mlin mliM) := hD
  refine lv_iload_n hx hb dX11_preperiod_5 rfl (lv_at hl 1 rfl) ?_
  refine lv_iload_n hx hb dX11_preperiod_6 rfl (lv_at hl 2 rfl) ?_
  obtain ⟨zo1, hzo1, hF⟩ := z_bind hF
  refine z_calli (fun (_ : Unit) => []) [] (va_runS (As := [.int p1, .int p2]) (rest := []) ⟨hx, hb, hml, hown, hts⟩ (c_X11_isQuotient l g _ p1 p2 _ hzo1) (va_cwS 2 hts (gdS mU_1555 mU_1556 mU_75 mU_1557) rfl rfl rfl (by decide +kernel) ⟨Nat.le_of_ble_eq_true rfl, Nat.le_of_ble_eq_true rfl⟩) ⟨z_blind _ _ _ _, fun U hU hW => z_pre [] hP hD hK hB hS hA rfl rfl hU hW⟩ rfl rfl hl.1 rfl (lv_room (Nat.le_of_ble_eq_true rfl)) dX11_preperiod_7 ⟨Nat.le_of_ble_eq_true rfl, Nat.le_of_ble_eq_true rfl⟩) hP hD hS hA rfl (fun _ => rfl) (fun r u H locs hw hP hD hS => ?_)
  subst hw
  have hP : va_P (gD g) zCl (wModel g q0 q1 q2 q3 q4 q5 q6 q7 q8 q9 q10 q11 q12 mm masd msav misS mpst mchg merr mfai 0 minp minM mUp mcar mcam mahd magn mltr mbeg mcmd mcmM mpl msz mwr mlin mliM) H := hP
  have hD : va_D A (wModel g q0 q1 q2 q3 q4 q5 q6 q7 q8 q9 q10 q11 q12 mm masd msav misS mpst mchg merr mfai 0 minp minM mUp mcar mcam mahd magn mltr mbeg mcmd mcmM mpl msz mwr mlin mliM) := hD
  refine lv_if_ne (tgt := 19) hx hb dX11_preperiod_10 (by decide) (fun zc2 => ?_) (fun zc2 => ?_)
  · have hF := z_neg hF zc2
    refine lv_aload_n hx hb dX11_preperiod_19 rfl (lv_at hl 0 rfl) ?_
    refine lv_iload_n hx hb dX11_preperiod_20 rfl (lv_at hl 1 rfl) ?_
    refine lv_iload_n hx hb dX11_preperiod_21 rfl (lv_at hl 2 rfl) ?_
    obtain ⟨zo3, hzo3, hF⟩ := z_bind hF
    refine z_callvE (fun (u : (Nat → Int32) × Int32 × Int32) => (wModel g q0 q1 q2 q3 q4 q5 q6 q7 q8 q9 q10 q11 q12 mm masd msav misS mpst mchg merr mfai 0 minp minM mUp mcar u.1 u.2.1 u.2.2 mltr mbeg mcmd mcmM mpl msz mwr mlin mliM)) (va_runV (As := [.int p1, .int p2]) (rest := []) ⟨hx, hb, hml, hown, hts⟩ (c_X11_divides l g q0 q1 q2 q3 q4 q5 q6 q7 q8 q9 q10 q11 q12 mm masd msav misS mpst mchg merr mfai 0 minp minM mUp mcar mcam mahd magn mltr mbeg mcmd mcmM mpl msz mwr mlin mliM _ p1 p2 fu _ hzo3) (cwV 2 hts (gdV mU_1565 mU_1567 mU_50 mU_75 mU_1568) rfl rfl rfl (by decide +kernel) ⟨Nat.le_of_ble_eq_true rfl, Nat.le_of_ble_eq_true rfl⟩) ⟨z_blind _ _ _ _, va_recv hK hP (ci := 7) (q0 := 0) rfl rfl, fun U hU hW => z_preE hP hD hK hB hS hA hU hW⟩ rfl rfl hl.1 rfl (lv_room (Nat.le_of_ble_eq_true rfl)) dX11_preperiod_22 ⟨Nat.le_of_ble_eq_true rfl, Nat.le_of_ble_eq_true rfl⟩) hD hS hA (fun _ => rfl) (fun u H locs hw hP hD hS => ?_)
    subst hw
    have hP : va_P (gD g) zCl (wModel g q0 q1 q2 q3 q4 q5 q6 q7 q8 q9 q10 q11 q12 mm masd msav misS mpst mchg merr mfai 0 minp minM mUp mcar zo3.1 zo3.2.1 zo3.2.2 mltr mbeg mcmd mcmM mpl msz mwr mlin mliM) H := hP
    have hD : va_D A (wModel g q0 q1 q2 q3 q4 q5 q6 q7 q8 q9 q10 q11 q12 mm masd msav misS mpst mchg merr mfai 0 minp minM mUp mcar zo3.1 zo3.2.1 zo3.2.2 mltr mbeg mcmd mcmM mpl msz mwr mlin mliM) := hD
    refine lv_aload_n hx hb dX11_preperiod_25 rfl (lv_at hl 0 rfl) ?_
    refine va_get (D := gD g) (ci := 7) (v := .int zo3.2.1) (C := RX11) (T := TX11) (N := 25) hx hb hts inX11 hown hK hP 0 rfl rfl 14 (by decide) (hts _ mU_1258) (fun _ h9 => h9) rfl dX11_preperiod_26 ?_
    have ho := (Option.some.inj hF).symm
    exact W.iret (v := zo3.2.1) hx hb hr (fun t ht hW => ⟨⟨zo3.2.1, (0, zo3.1, zo3.2.1, zo3.2.2), rfl, ⟨by rw [ho], by rw [ho]⟩, z_end ht hP⟩, hS.F ht⟩) hS.2.2 dX11_preperiod_29
  · have hF := z_pos hF zc2
    refine lv_aload_n hx hb dX11_preperiod_13 rfl (lv_at hl 0 rfl) ?_
    refine lv_iconst (v := 1) hx hb dX11_preperiod_14 (by decide) ?_
    obtain ⟨zo4, hzo4, hF⟩ := z_bind hF
    refine z_calliE (fun (u : Int32) => (wModel g q0 q1 q2 q3 q4 q5 q6 q7 q8 q9 q10 q11 q12 mm masd msav misS mpst mchg merr mfai u minp minM mUp mcar mcam mahd magn mltr mbeg mcmd mcmM mpl msz mwr mlin mliM)) (va_runV (As := [.int 1]) (rest := []) ⟨hx, hb, hml, hown, hts⟩ (c_X11_throwing l g q0 q1 q2 q3 q4 q5 q6 q7 q8 q9 q10 q11 q12 mm masd msav misS mpst mchg merr mfai 0 minp minM mUp mcar mcam mahd magn mltr mbeg mcmd mcmM mpl msz mwr mlin mliM _ 1 _ hzo4) (cwV 1 hts (gdV mU_1352 mU_1354 mU_31 mU_75 mU_1355) rfl rfl rfl (by decide +kernel) ⟨Nat.le_of_ble_eq_true rfl, Nat.le_of_ble_eq_true rfl⟩) ⟨z_blind _ _ _ _, va_recv hK hP (ci := 7) (q0 := 0) rfl rfl, fun U hU hW => z_preE hP hD hK hB hS hA hU hW⟩ rfl rfl hl.1 rfl (lv_room (Nat.le_of_ble_eq_true rfl)) dX11_preperiod_15 ⟨Nat.le_of_ble_eq_true rfl, Nat.le_of_ble_eq_true rfl⟩) hD hS hA (fun _ => rfl) (fun r u H locs hw hP hD hS => ?_)
    obtain ⟨rfl, rfl⟩ := hw
    have hP : va_P (gD g) zCl (wModel g q0 q1 q2 q3 q4 q5 q6 q7 q8 q9 q10 q11 q12 mm masd msav misS mpst mchg merr mfai zo4.2 minp minM mUp mcar mcam mahd magn mltr mbeg mcmd mcmM mpl msz mwr mlin mliM) H := hP
    have hD : va_D A (wModel g q0 q1 q2 q3 q4 q5 q6 q7 q8 q9 q10 q11 q12 mm masd msav misS mpst mchg merr mfai zo4.2 minp minM mUp mcar mcam mahd magn mltr mbeg mcmd mcmM mpl msz mwr mlin mliM) := hD
    have ho := (Option.some.inj hF).symm
    exact W.iret (v := zo4.1) hx hb hr (fun t ht hW => ⟨⟨zo4.1, (zo4.2, mcam, mahd, magn), rfl, ⟨by rw [ho], by rw [ho]⟩, z_end ht hP⟩, hS.F ht⟩) hS.2.2 dX11_preperiod_18
abbrev w_X11_period : List Cond := .code yX11_period cX11_period 3 (some .int) :: wU
abbrev r_X11_period : Room := { frames := 2, cells := 0, slots := 0, locals := 46 }
abbrev q_X11_period (g : GG) (q0 q1 q2 q3 q4 q5 q6 q7 q8 q9 q10 q11 q12 : Nat) (mm : Nat → Int64) (masd : Nat → Int64) (msav : Nat → Int64) (misS : Int32) (mpst : Nat → Int64) (mchg : Int32) (merr : Int32) (mfai : Int32) (mthr : Int32) (minp : Nat → Int32) (minM : Int32) (mUp : Nat → Int32) (mcar : Nat → Int32) (mcam : Nat → Int32) (mahd : Int32) (magn : Int32) (mltr : Nat → Int32) (mbeg : Nat → Int32) (mcmd : Nat → Int32) (mcmM : Int32) (mpl : Int32) (msz : Int32) (mwr : Int32) (mlin : Nat → Int32) (mliM : Int32) (o : Int32 × Int32 × (Nat → Int32) × Int32 × Int32) (A : Nat → Prop) := va_Qi (fun (r : Int32) (u : Int32 × (Nat → Int32) × Int32 × Int32) => o.1 = r ∧ o.2 = u) (fun u t => va_P (gD g) zCl (wModel g q0 q1 q2 q3 q4 q5 q6 q7 q8 q9 q10 q11 q12 mm masd msav misS mpst mchg merr mfai u.1 minp minM mUp mcar u.2.1 u.2.2.1 u.2.2.2 mltr mbeg mcmd mcmM mpl msz mwr mlin mliM) t.heap) A
set_option maxHeartbeats 4000000 in
set_option maxRecDepth 100000 in
theorem c_X11_period (l : Launch) (g : GG) (q0 q1 q2 q3 q4 q5 q6 q7 q8 q9 q10 q11 q12 : Nat) (mm : Nat → Int64) (masd : Nat → Int64) (msav : Nat → Int64) (misS : Int32) (mpst : Nat → Int64) (mchg : Int32) (merr : Int32) (mfai : Int32) (mthr : Int32) (minp : Nat → Int32) (minM : Int32) (mUp : Nat → Int32) (mcar : Nat → Int32) (mcam : Nat → Int32) (mahd : Int32) (magn : Int32) (mltr : Nat → Int32) (mbeg : Nat → Int32) (mcmd : Nat → Int32) (mcmM : Int32) (mpl : Int32) (msz : Int32) (mwr : Int32) (mlin : Nat → Int32) (mliM : Int32) (sz : Nat) (p1 : Int32) (p2 : Int32) (fu : Nat) (o : Int32 × Int32 × (Nat → Int32) × Int32 × Int32) (hF : F_X11_period fu mthr mcam mahd magn p1 p2 = some o) : Met l yX11_period w_X11_period r_X11_period (va_Pc [.ref q0, .int p1, .int p2] (zP g (wModel g q0 q1 q2 q3 q4 q5 q6 q7 q8 q9 q10 q11 q12 mm masd msav misS mpst mchg merr mfai mthr minp minM mUp mcar mcam mahd magn mltr mbeg mcmd mcmM mpl msz mwr mlin mliM) sz)) (q_X11_period g q0 q1 q2 q3 q4 q5 q6 q7 q8 q9 q10 q11 q12 mm masd msav misS mpst mchg merr mfai mthr minp minM mUp mcar mcam mahd magn mltr mbeg mcmd mcmM mpl msz mwr mlin mliM o (va_A (wModel g q0 q1 q2 q3 q4 q5 q6 q7 q8 q9 q10 q11 q12 mm masd msav misS mpst mchg merr mfai mthr minp minM mUp mcar mcam mahd magn mltr mbeg mcmd mcmM mpl msz mwr mlin mliM) sz)) 0 0 (va_A (wModel g q0 q1 q2 q3 q4 q5 q6 q7 q8 q9 q10 q11 q12 mm masd msav misS mpst mchg merr mfai mthr minp minM mUp mcar mcam mahd magn mltr mbeg mcmd mcmM mpl msz mwr mlin mliM) sz) := by
  refine Met.ofW (cc := cX11_period) (maxL := 3) (ret := (some .int)) (by decide) rfl ?_
  intro p e s m args below meth c s₁ B hml hv
  obtain ⟨rfl, rfl, hP, hK, hD0, hB⟩ := hv
  have hx := B.exec
  have hb := B.bytes
  have hr := B.returns
  have hts : ∀ w ∈ wU, w.before _ s = true := fun w h => atoms_spec (ws := w_X11_period) B.pre w (List.mem_cons_of_mem _ h)
  have hown : s.vm.findClass RX11 = some m.cls := findClass_of_methodNamed B.named
  have hlocks := B.notSynchronized
  have hD := hD0.self (sz := s.heap.size)
  generalize hAe : va_A (wModel g q0 q1 q2 q3 q4 q5 q6 q7 q8 q9 q10 q11 q12 mm masd msav misS mpst mchg merr mfai mthr minp minM mUp mcar mcam mahd magn mltr mbeg mcmd mcmM mpl msz mwr mlin mliM) s.heap.size = A at hD hB ⊢
  have hA : ∀ q : Nat, s.heap.size ≤ q → A q := fun q h => by rw [← hAe]; exact Or.inr h
  have hS : va_S A s.heap s.heap [] := va_S.rf
  have hl := lv_entry ([.ref q0, .int p1, .int p2]) (n := 3) (Nat.le_of_ble_eq_true rfl)
  rw [lg_entry_eq]
  generalize (lg_sl ([.ref q0, .int p1, .int p2]) ++ List.replicate (3 - (lg_sl ([.ref q0, .int p1, .int p2])).length) Slot.unset).toArray = ls at hl ⊢
  have hl : lv_has ls 3 [(0, .ref q0), (1, .int p1), (2, .int p2)] := hl
  unfold F_X11_period at hF
  refine lv_aload_n hx hb dX11_period_0 rfl (lv_at hl 0 rfl) ?_
  refine lv_iconst (v := 0) hx hb dX11_period_1 (by decide) ?_
  refine va_put (D := gD g) (ci := 7) (v := .int 0) (ty := .int) (C := RX11) (T := TX11) (N := 25) hx hb hts inX11 tyX11 tyX11_ok nmX11 hown hK hP hD hS 0 rfl rfl 8 (by decide) (hts _ mU_1252) (fun _ h9 => h9) rfl (by decide +kernel) rfl rfl (Nat.le_of_ble_eq_true rfl) dX11_period_2 (fun H locs hP hD hS => ?_)
  have hP : va_P (gD g) zCl (wModel g q0 q1 q2 q3 q4 q5 q6 q7 q8 q9 q10 q11 q12 mm masd msav misS mpst mchg merr mfai 0 minp minM mUp mcar mcam mahd magn mltr mbeg mcmd mcmM mpl msz mwr mlin mliM) H := hP
  have hD : va_D A (wModel g q0 q1 q2 q3 q4 q5 q6 q7 q8 q9 q10 q11 q12 mm masd msav misS mpst mchg merr mfai 0 minp minM mUp mcar mcam mahd magn mltr mbeg mcmd mcmM mpl msz mwr mlin mliM) := hD
  refine lv_iload_n hx hb dX11_period_5 rfl (lv_at hl 1 rfl) ?_
  refine lv_iload_n hx hb dX11_period_6 rfl (lv_at hl 2 rfl) ?_
  obtain ⟨zo1, hzo1, hF⟩ := z_bind hF
  refine z_calli (fun (_ : Unit) => []) [] (va_runS (As := [.int p1, .int p2]) (rest := []) ⟨hx, hb, hml, hown, hts⟩ (c_X11_isQuotient l g _ p1 p2 _ hzo1) (va_cwS 2 hts (gdS mU_1555 mU_1556 mU_75 mU_1557) rfl rfl rfl (by decide +kernel) ⟨Nat.le_of_ble_eq_true rfl, Nat.le_of_ble_eq_true rfl⟩) ⟨z_blind _ _ _ _, fun U hU hW => z_pre [] hP hD hK hB hS hA rfl rfl hU hW⟩ rfl rfl hl.1 rfl (lv_room (Nat.le_of_ble_eq_true rfl)) dX11_period_7 ⟨Nat.le_of_ble_eq_true rfl, Nat.le_of_ble_eq_true rfl⟩) hP hD hS hA rfl (fun _ => rfl) (fun r u H locs hw hP hD hS => ?_)
  subst hw
  have hP : va_P (gD g) zCl (wModel g q0 q1 q2 q3 q4 q5 q6 q7 q8 q9 q10 q11 q12 mm masd msav misS mpst mchg merr mfai 0 minp minM mUp mcar mcam mahd magn mltr mbeg mcmd mcmM mpl msz mwr mlin mliM) H := hP
  have hD : va_D A (wModel g q0 q1 q2 q3 q4 q5 q6 q7 q8 q9 q10 q11 q12 mm masd msav misS mpst mchg merr mfai 0 minp minM mUp mcar mcam mahd magn mltr mbeg mcmd mcmM mpl msz mwr mlin mliM) := hD
  refine lv_if_ne (tgt := 19) hx hb dX11_period_10 (by decide) (fun zc2 => ?_) (fun zc2 => ?_)
  · have hF := z_neg hF zc2
    refine lv_aload_n hx hb dX11_period_19 rfl (lv_at hl 0 rfl) ?_
    refine lv_iload_n hx hb dX11_period_20 rfl (lv_at hl 1 rfl) ?_
    refine lv_iload_n hx hb dX11_period_21 rfl (lv_at hl 2 rfl) ?_
    obtain ⟨zo3, hzo3, hF⟩ := z_bind hF
    refine z_callvE (fun (u : (Nat → Int32) × Int32 × Int32) => (wModel g q0 q1 q2 q3 q4 q5 q6 q7 q8 q9 q10 q11 q12 mm masd msav misS mpst mchg merr mfai 0 minp minM mUp mcar u.1 u.2.1 u.2.2 mltr mbeg mcmd mcmM mpl msz mwr mlin mliM)) (va_runV (As := [.int p1, .int p2]) (rest := []) ⟨hx, hb, hml, hown, hts⟩ (c_X11_divides l g q0 q1 q2 q3 q4 q5 q6 q7 q8 q9 q10 q11 q12 mm masd msav misS mpst mchg merr mfai 0 minp minM mUp mcar mcam mahd magn mltr mbeg mcmd mcmM mpl msz mwr mlin mliM _ p1 p2 fu _ hzo3) (cwV 2 hts (gdV mU_1565 mU_1567 mU_50 mU_75 mU_1568) rfl rfl rfl (by decide +kernel) ⟨Nat.le_of_ble_eq_true rfl, Nat.le_of_ble_eq_true rfl⟩) ⟨z_blind _ _ _ _, va_recv hK hP (ci := 7) (q0 := 0) rfl rfl, fun U hU hW => z_preE hP hD hK hB hS hA hU hW⟩ rfl rfl hl.1 rfl (lv_room (Nat.le_of_ble_eq_true rfl)) dX11_period_22 ⟨Nat.le_of_ble_eq_true rfl, Nat.le_of_ble_eq_true rfl⟩) hD hS hA (fun _ => rfl) (fun u H locs hw hP hD hS => ?_)
    subst hw
    have hP : va_P (gD g) zCl (wModel g q0 q1 q2 q3 q4 q5 q6 q7 q8 q9 q10 q11 q12 mm masd msav misS mpst mchg merr mfai 0 minp minM mUp mcar zo3.1 zo3.2.1 zo3.2.2 mltr mbeg mcmd mcmM mpl msz mwr mlin mliM) H := hP
    have hD : va_D A (wModel g q0 q1 q2 q3 q4 q5 q6 q7 q8 q9 q10 q11 q12 mm masd msav misS mpst mchg merr mfai 0 minp minM mUp mcar zo3.1 zo3.2.1 zo3.2.2 mltr mbeg mcmd mcmM mpl msz mwr mlin mliM) := hD
    refine lv_aload_n hx hb dX11_period_25 rfl (lv_at hl 0 rfl) ?_
    refine va_get (D := gD g) (ci := 7) (v := .int zo3.2.2) (C := RX11) (T := TX11) (N := 25) hx hb hts inX11 hown hK hP 0 rfl rfl 15 (by decide) (hts _ mU_1259) (fun _ h9 => h9) rfl dX11_period_26 ?_
    have ho := (Option.some.inj hF).symm
    exact W.iret (v := zo3.2.2) hx hb hr (fun t ht hW => ⟨⟨zo3.2.2, (0, zo3.1, zo3.2.1, zo3.2.2), rfl, ⟨by rw [ho], by rw [ho]⟩, z_end ht hP⟩, hS.F ht⟩) hS.2.2 dX11_period_29
  · have hF := z_pos hF zc2
    refine lv_aload_n hx hb dX11_period_13 rfl (lv_at hl 0 rfl) ?_
    refine lv_iconst (v := 1) hx hb dX11_period_14 (by decide) ?_
    obtain ⟨zo4, hzo4, hF⟩ := z_bind hF
    refine z_calliE (fun (u : Int32) => (wModel g q0 q1 q2 q3 q4 q5 q6 q7 q8 q9 q10 q11 q12 mm masd msav misS mpst mchg merr mfai u minp minM mUp mcar mcam mahd magn mltr mbeg mcmd mcmM mpl msz mwr mlin mliM)) (va_runV (As := [.int 1]) (rest := []) ⟨hx, hb, hml, hown, hts⟩ (c_X11_throwing l g q0 q1 q2 q3 q4 q5 q6 q7 q8 q9 q10 q11 q12 mm masd msav misS mpst mchg merr mfai 0 minp minM mUp mcar mcam mahd magn mltr mbeg mcmd mcmM mpl msz mwr mlin mliM _ 1 _ hzo4) (cwV 1 hts (gdV mU_1352 mU_1354 mU_31 mU_75 mU_1355) rfl rfl rfl (by decide +kernel) ⟨Nat.le_of_ble_eq_true rfl, Nat.le_of_ble_eq_true rfl⟩) ⟨z_blind _ _ _ _, va_recv hK hP (ci := 7) (q0 := 0) rfl rfl, fun U hU hW => z_preE hP hD hK hB hS hA hU hW⟩ rfl rfl hl.1 rfl (lv_room (Nat.le_of_ble_eq_true rfl)) dX11_period_15 ⟨Nat.le_of_ble_eq_true rfl, Nat.le_of_ble_eq_true rfl⟩) hD hS hA (fun _ => rfl) (fun r u H locs hw hP hD hS => ?_)
    obtain ⟨rfl, rfl⟩ := hw
    have hP : va_P (gD g) zCl (wModel g q0 q1 q2 q3 q4 q5 q6 q7 q8 q9 q10 q11 q12 mm masd msav misS mpst mchg merr mfai zo4.2 minp minM mUp mcar mcam mahd magn mltr mbeg mcmd mcmM mpl msz mwr mlin mliM) H := hP
    have hD : va_D A (wModel g q0 q1 q2 q3 q4 q5 q6 q7 q8 q9 q10 q11 q12 mm masd msav misS mpst mchg merr mfai zo4.2 minp minM mUp mcar mcam mahd magn mltr mbeg mcmd mcmM mpl msz mwr mlin mliM) := hD
    have ho := (Option.some.inj hF).symm
    exact W.iret (v := zo4.1) hx hb hr (fun t ht hW => ⟨⟨zo4.1, (zo4.2, mcam, mahd, magn), rfl, ⟨by rw [ho], by rw [ho]⟩, z_end ht hP⟩, hS.F ht⟩) hS.2.2 dX11_period_18
abbrev w_X11_periodByPowers : List Cond := .code yX11_periodByPowers cX11_periodByPowers 3 (some .int) :: wU
abbrev r_X11_periodByPowers : Room := { frames := 3, cells := 0, slots := 0, locals := 68 }
abbrev q_X11_periodByPowers (g : GG) (q0 q1 q2 q3 q4 q5 q6 q7 q8 q9 q10 q11 q12 : Nat) (mm : Nat → Int64) (masd : Nat → Int64) (msav : Nat → Int64) (misS : Int32) (mpst : Nat → Int64) (mchg : Int32) (merr : Int32) (mfai : Int32) (mthr : Int32) (minp : Nat → Int32) (minM : Int32) (mUp : Nat → Int32) (mcar : Nat → Int32) (mcam : Nat → Int32) (mahd : Int32) (magn : Int32) (mltr : Nat → Int32) (mbeg : Nat → Int32) (mcmd : Nat → Int32) (mcmM : Int32) (mpl : Int32) (msz : Int32) (mwr : Int32) (mlin : Nat → Int32) (mliM : Int32) (o : Int32 × Int32 × (Nat → Int32) × Int32 × Int32) (A : Nat → Prop) := va_Qi (fun (r : Int32) (u : Int32 × (Nat → Int32) × Int32 × Int32) => o.1 = r ∧ o.2 = u) (fun u t => va_P (gD g) zCl (wModel g q0 q1 q2 q3 q4 q5 q6 q7 q8 q9 q10 q11 q12 mm masd msav misS mpst mchg merr mfai u.1 minp minM mUp mcar u.2.1 u.2.2.1 u.2.2.2 mltr mbeg mcmd mcmM mpl msz mwr mlin mliM) t.heap) A
set_option maxHeartbeats 4000000 in
set_option maxRecDepth 100000 in
theorem c_X11_periodByPowers (l : Launch) (g : GG) (q0 q1 q2 q3 q4 q5 q6 q7 q8 q9 q10 q11 q12 : Nat) (mm : Nat → Int64) (masd : Nat → Int64) (msav : Nat → Int64) (misS : Int32) (mpst : Nat → Int64) (mchg : Int32) (merr : Int32) (mfai : Int32) (mthr : Int32) (minp : Nat → Int32) (minM : Int32) (mUp : Nat → Int32) (mcar : Nat → Int32) (mcam : Nat → Int32) (mahd : Int32) (magn : Int32) (mltr : Nat → Int32) (mbeg : Nat → Int32) (mcmd : Nat → Int32) (mcmM : Int32) (mpl : Int32) (msz : Int32) (mwr : Int32) (mlin : Nat → Int32) (mliM : Int32) (sz : Nat) (p1 : Int32) (p2 : Int32) (fu : Nat) (o : Int32 × Int32 × (Nat → Int32) × Int32 × Int32) (hF : F_X11_periodByPowers fu mthr mcam mahd magn p1 p2 = some o) : Met l yX11_periodByPowers w_X11_periodByPowers r_X11_periodByPowers (va_Pc [.ref q0, .int p1, .int p2] (zP g (wModel g q0 q1 q2 q3 q4 q5 q6 q7 q8 q9 q10 q11 q12 mm masd msav misS mpst mchg merr mfai mthr minp minM mUp mcar mcam mahd magn mltr mbeg mcmd mcmM mpl msz mwr mlin mliM) sz)) (q_X11_periodByPowers g q0 q1 q2 q3 q4 q5 q6 q7 q8 q9 q10 q11 q12 mm masd msav misS mpst mchg merr mfai mthr minp minM mUp mcar mcam mahd magn mltr mbeg mcmd mcmM mpl msz mwr mlin mliM o (va_A (wModel g q0 q1 q2 q3 q4 q5 q6 q7 q8 q9 q10 q11 q12 mm masd msav misS mpst mchg merr mfai mthr minp minM mUp mcar mcam mahd magn mltr mbeg mcmd mcmM mpl msz mwr mlin mliM) sz)) 0 0 (va_A (wModel g q0 q1 q2 q3 q4 q5 q6 q7 q8 q9 q10 q11 q12 mm masd msav misS mpst mchg merr mfai mthr minp minM mUp mcar mcam mahd magn mltr mbeg mcmd mcmM mpl msz mwr mlin mliM) sz) := by
  refine Met.ofW (cc := cX11_periodByPowers) (maxL := 3) (ret := (some .int)) (by decide) rfl ?_
  intro p e s m args below meth c s₁ B hml hv
  obtain ⟨rfl, rfl, hP, hK, hD0, hB⟩ := hv
  have hx := B.exec
  have hb := B.bytes
  have hr := B.returns
  have hts : ∀ w ∈ wU, w.before _ s = true := fun w h => atoms_spec (ws := w_X11_periodByPowers) B.pre w (List.mem_cons_of_mem _ h)
  have hown : s.vm.findClass RX11 = some m.cls := findClass_of_methodNamed B.named
  have hlocks := B.notSynchronized
  have hD := hD0.self (sz := s.heap.size)
  generalize hAe : va_A (wModel g q0 q1 q2 q3 q4 q5 q6 q7 q8 q9 q10 q11 q12 mm masd msav misS mpst mchg merr mfai mthr minp minM mUp mcar mcam mahd magn mltr mbeg mcmd mcmM mpl msz mwr mlin mliM) s.heap.size = A at hD hB ⊢
  have hA : ∀ q : Nat, s.heap.size ≤ q → A q := fun q h => by rw [← hAe]; exact Or.inr h
  have hS : va_S A s.heap s.heap [] := va_S.rf
  have hl := lv_entry ([.ref q0, .int p1, .int p2]) (n := 3) (Nat.le_of_ble_eq_true rfl)
  rw [lg_entry_eq]
  generalize (lg_sl ([.ref q0, .int p1, .int p2]) ++ List.replicate (3 - (lg_sl ([.ref q0, .int p1, .int p2])).length) Slot.unset).toArray = ls at hl ⊢
  have hl : lv_has ls 3 [(0, .ref q0), (1, .int p1), (2, .int p2)] := hl
  unfold F_X11_periodByPowers at hF
  refine lv_aload_n hx hb dX11_periodByPowers_0 rfl (lv_at hl 0 rfl) ?_
  refine lv_iload_n hx hb dX11_periodByPowers_1 rfl (lv_at hl 1 rfl) ?_
  refine lv_iload_n hx hb dX11_periodByPowers_2 rfl (lv_at hl 2 rfl) ?_
  obtain ⟨zo1, hzo1, hF⟩ := z_bind hF
  refine z_calliE (fun (u : Int32 × (Nat → Int32) × Int32 × Int32) => (wModel g q0 q1 q2 q3 q4 q5 q6 q7 q8 q9 q10 q11 q12 mm masd msav misS mpst mchg merr mfai u.1 minp minM mUp mcar u.2.1 u.2.2.1 u.2.2.2 mltr mbeg mcmd mcmM mpl msz mwr mlin mliM)) (va_runV (As := [.int p1, .int p2]) (rest := []) ⟨hx, hb, hml, hown, hts⟩ (c_X11_period l g q0 q1 q2 q3 q4 q5 q6 q7 q8 q9 q10 q11 q12 mm masd msav misS mpst mchg merr mfai mthr minp minM mUp mcar mcam mahd magn mltr mbeg mcmd mcmM mpl msz mwr mlin mliM _ p1 p2 fu _ hzo1) (cwV 2 hts (gdV mU_1577 mU_1570 mU_1571 mU_75 mU_1572) rfl rfl rfl (by decide +kernel) ⟨Nat.le_of_ble_eq_true rfl, Nat.le_of_ble_eq_true rfl⟩) ⟨z_blind _ _ _ _, va_recv hK hP (ci := 7) (q0 := 0) rfl rfl, fun U hU hW => z_preE hP hD hK hB hS hA hU hW⟩ rfl rfl hl.1 rfl (lv_room (Nat.le_of_ble_eq_true rfl)) dX11_periodByPowers_3 ⟨Nat.le_of_ble_eq_true rfl, Nat.le_of_ble_eq_true rfl⟩) hD hS hA (fun _ => rfl) (fun r u H locs hw hP hD hS => ?_)
  obtain ⟨rfl, rfl⟩ := hw
  have hP : va_P (gD g) zCl (wModel g q0 q1 q2 q3 q4 q5 q6 q7 q8 q9 q10 q11 q12 mm masd msav misS mpst mchg merr mfai zo1.2.1 minp minM mUp mcar zo1.2.2.1 zo1.2.2.2.1 zo1.2.2.2.2 mltr mbeg mcmd mcmM mpl msz mwr mlin mliM) H := hP
  have hD : va_D A (wModel g q0 q1 q2 q3 q4 q5 q6 q7 q8 q9 q10 q11 q12 mm masd msav misS mpst mchg merr mfai zo1.2.1 minp minM mUp mcar zo1.2.2.1 zo1.2.2.2.1 zo1.2.2.2.2 mltr mbeg mcmd mcmM mpl msz mwr mlin mliM) := hD
  have ho := (Option.some.inj hF).symm
  exact W.iret (v := zo1.1) hx hb hr (fun t ht hW => ⟨⟨zo1.1, (zo1.2.1, zo1.2.2.1, zo1.2.2.2.1, zo1.2.2.2.2), rfl, ⟨by rw [ho], by rw [ho]⟩, z_end ht hP⟩, hS.F ht⟩) hS.2.2 dX11_periodByPowers_6
abbrev w_X11_total : List Cond := .code yX11_total cX11_total 1 (some .long) :: wU
abbrev r_X11_total : Room := { frames := 2, cells := 0, slots := 0, locals := 43 }
abbrev q_X11_total (g : GG) (q0 q1 q2 q3 q4 q5 q6 q7 q8 q9 q10 q11 q12 : Nat) (mm : Nat → Int64) (masd : Nat → Int64) (msav : Nat → Int64) (misS : Int32) (mpst : Nat → Int64) (mchg : Int32) (merr : Int32) (mfai : Int32) (mthr : Int32) (minp : Nat → Int32) (minM : Int32) (mUp : Nat → Int32) (mcar : Nat → Int32) (mcam : Nat → Int32) (mahd : Int32) (magn : Int32) (mltr : Nat → Int32) (mbeg : Nat → Int32) (mcmd : Nat → Int32) (mcmM : Int32) (mpl : Int32) (msz : Int32) (mwr : Int32) (mlin : Nat → Int32) (mliM : Int32) (o : Int64 × Int32) (A : Nat → Prop) := va_Ql (fun (r : Int64) (u : Int32) => o.1 = r ∧ o.2 = u) (fun u t => va_P (gD g) zCl (wModel g q0 q1 q2 q3 q4 q5 q6 q7 q8 q9 q10 q11 q12 mm masd msav misS mpst mchg merr mfai u minp minM mUp mcar mcam mahd magn mltr mbeg mcmd mcmM mpl msz mwr mlin mliM) t.heap) A
set_option maxHeartbeats 4000000 in
set_option maxRecDepth 100000 in
theorem c_X11_total (l : Launch) (g : GG) (q0 q1 q2 q3 q4 q5 q6 q7 q8 q9 q10 q11 q12 : Nat) (mm : Nat → Int64) (masd : Nat → Int64) (msav : Nat → Int64) (misS : Int32) (mpst : Nat → Int64) (mchg : Int32) (merr : Int32) (mfai : Int32) (mthr : Int32) (minp : Nat → Int32) (minM : Int32) (mUp : Nat → Int32) (mcar : Nat → Int32) (mcam : Nat → Int32) (mahd : Int32) (magn : Int32) (mltr : Nat → Int32) (mbeg : Nat → Int32) (mcmd : Nat → Int32) (mcmM : Int32) (mpl : Int32) (msz : Int32) (mwr : Int32) (mlin : Nat → Int32) (mliM : Int32) (sz : Nat) (fu : Nat) (o : Int64 × Int32) (hF : F_X11_total fu mm mthr = some o) : Met l yX11_total w_X11_total r_X11_total (va_Pc [.ref q0] (zP g (wModel g q0 q1 q2 q3 q4 q5 q6 q7 q8 q9 q10 q11 q12 mm masd msav misS mpst mchg merr mfai mthr minp minM mUp mcar mcam mahd magn mltr mbeg mcmd mcmM mpl msz mwr mlin mliM) sz)) (q_X11_total g q0 q1 q2 q3 q4 q5 q6 q7 q8 q9 q10 q11 q12 mm masd msav misS mpst mchg merr mfai mthr minp minM mUp mcar mcam mahd magn mltr mbeg mcmd mcmM mpl msz mwr mlin mliM o (va_A (wModel g q0 q1 q2 q3 q4 q5 q6 q7 q8 q9 q10 q11 q12 mm masd msav misS mpst mchg merr mfai mthr minp minM mUp mcar mcam mahd magn mltr mbeg mcmd mcmM mpl msz mwr mlin mliM) sz)) 0 0 (va_A (wModel g q0 q1 q2 q3 q4 q5 q6 q7 q8 q9 q10 q11 q12 mm masd msav misS mpst mchg merr mfai mthr minp minM mUp mcar mcam mahd magn mltr mbeg mcmd mcmM mpl msz mwr mlin mliM) sz) := by
  refine Met.ofW (cc := cX11_total) (maxL := 1) (ret := (some .long)) (by decide) rfl ?_
  intro p e s m args below meth c s₁ B hml hv
  obtain ⟨rfl, rfl, hP, hK, hD0, hB⟩ := hv
  have hx := B.exec
  have hb := B.bytes
  have hr := B.returns
  have hts : ∀ w ∈ wU, w.before _ s = true := fun w h => atoms_spec (ws := w_X11_total) B.pre w (List.mem_cons_of_mem _ h)
  have hown : s.vm.findClass RX11 = some m.cls := findClass_of_methodNamed B.named
  have hlocks := B.notSynchronized
  have hD := hD0.self (sz := s.heap.size)
  generalize hAe : va_A (wModel g q0 q1 q2 q3 q4 q5 q6 q7 q8 q9 q10 q11 q12 mm masd msav misS mpst mchg merr mfai mthr minp minM mUp mcar mcam mahd magn mltr mbeg mcmd mcmM mpl msz mwr mlin mliM) s.heap.size = A at hD hB ⊢
  have hA : ∀ q : Nat, s.heap.size ≤ q → A q := fun q h => by rw [← hAe]; exact Or.inr h
  have hS : va_S A s.heap s.heap [] := va_S.rf
  have hl := lv_entry ([.ref q0]) (n := 1) (Nat.le_of_ble_eq_true rfl)
  rw [lg_entry_eq]
  generalize (lg_sl ([.ref q0]) ++ List.replicate (1 - (lg_sl ([.ref q0])).length) Slot.unset).toArray = ls at hl ⊢
  have hl : lv_has ls 1 [(0, .ref q0)] := hl
  unfold F_X11_total at hF
  refine lv_aload_n hx hb dX11_total_0 rfl (lv_at hl 0 rfl) ?_
  refine lv_iconst (v := 0) hx hb dX11_total_1 (by decide) ?_
  refine va_put (D := gD g) (ci := 7) (v := .int 0) (ty := .int) (C := RX11) (T := TX11) (N := 25) hx hb hts inX11 tyX11 tyX11_ok nmX11 hown hK hP hD hS 0 rfl rfl 8 (by decide) (hts _ mU_1252) (fun _ h9 => h9) rfl (by decide +kernel) rfl rfl (Nat.le_of_ble_eq_true rfl) dX11_total_2 (fun H locs hP hD hS => ?_)
  have hP : va_P (gD g) zCl (wModel g q0 q1 q2 q3 q4 q5 q6 q7 q8 q9 q10 q11 q12 mm masd msav misS mpst mchg merr mfai 0 minp minM mUp mcar mcam mahd magn mltr mbeg mcmd mcmM mpl msz mwr mlin mliM) H := hP
  have hD : va_D A (wModel g q0 q1 q2 q3 q4 q5 q6 q7 q8 q9 q10 q11 q12 mm masd msav misS mpst mchg merr mfai 0 minp minM mUp mcar mcam mahd magn mltr mbeg mcmd mcmM mpl msz mwr mlin mliM) := hD
  refine lv_aload_n hx hb dX11_total_5 rfl (lv_at hl 0 rfl) ?_
  obtain ⟨zo1, hzo1, hF⟩ := z_bind hF
  refine z_calllE (fun (_ : Unit) => (wModel g q0 q1 q2 q3 q4 q5 q6 q7 q8 q9 q10 q11 q12 mm masd msav misS mpst mchg merr mfai 0 minp minM mUp mcar mcam mahd magn mltr mbeg mcmd mcmM mpl msz mwr mlin mliM)) (va_runV (As := []) (rest := []) ⟨hx, hb, hml, hown, hts⟩ (c_X11_sum l g q0 q1 q2 q3 q4 q5 q6 q7 q8 q9 q10 q11 q12 mm masd msav misS mpst mchg merr mfai 0 minp minM mUp mcar mcam mahd magn mltr mbeg mcmd mcmM mpl msz mwr mlin mliM _ fu _ hzo1) (cwV 0 hts (gdV mU_1460 mU_1462 mU_46 mU_75 mU_1463) rfl rfl rfl (by decide +kernel) ⟨Nat.le_of_ble_eq_true rfl, Nat.le_of_ble_eq_true rfl⟩) ⟨z_blind _ _ _ _, va_recv hK hP (ci := 7) (q0 := 0) rfl rfl, fun U hU hW => z_preE hP hD hK hB hS hA hU hW⟩ rfl rfl hl.1 rfl (lv_room (Nat.le_of_ble_eq_true rfl)) dX11_total_6 ⟨Nat.le_of_ble_eq_true rfl, Nat.le_of_ble_eq_true rfl⟩) hD hS hA (fun _ => rfl) (fun r u H locs hw hP hD hS => ?_)
  subst hw
  have hP : va_P (gD g) zCl (wModel g q0 q1 q2 q3 q4 q5 q6 q7 q8 q9 q10 q11 q12 mm masd msav misS mpst mchg merr mfai 0 minp minM mUp mcar mcam mahd magn mltr mbeg mcmd mcmM mpl msz mwr mlin mliM) H := hP
  have hD : va_D A (wModel g q0 q1 q2 q3 q4 q5 q6 q7 q8 q9 q10 q11 q12 mm masd msav misS mpst mchg merr mfai 0 minp minM mUp mcar mcam mahd magn mltr mbeg mcmd mcmM mpl msz mwr mlin mliM) := hD
  have ho := (Option.some.inj hF).symm
  exact W.lret (v := zo1) hx hb hr (fun t ht hW => ⟨⟨zo1, 0, rfl, ⟨by rw [ho], by rw [ho]⟩, z_end ht hP⟩, hS.F ht⟩) hS.2.2 dX11_total_9
abbrev w_X11_totalByAccounts : List Cond := .code yX11_totalByAccounts cX11_totalByAccounts 1 (some .long) :: wU
abbrev r_X11_totalByAccounts : Room := { frames := 3, cells := 0, slots := 0, locals := 63 }
abbrev q_X11_totalByAccounts (g : GG) (q0 q1 q2 q3 q4 q5 q6 q7 q8 q9 q10 q11 q12 : Nat) (mm : Nat → Int64) (masd : Nat → Int64) (msav : Nat → Int64) (misS : Int32) (mpst : Nat → Int64) (mchg : Int32) (merr : Int32) (mfai : Int32) (mthr : Int32) (minp : Nat → Int32) (minM : Int32) (mUp : Nat → Int32) (mcar : Nat → Int32) (mcam : Nat → Int32) (mahd : Int32) (magn : Int32) (mltr : Nat → Int32) (mbeg : Nat → Int32) (mcmd : Nat → Int32) (mcmM : Int32) (mpl : Int32) (msz : Int32) (mwr : Int32) (mlin : Nat → Int32) (mliM : Int32) (o : Int64 × Int32) (A : Nat → Prop) := va_Ql (fun (r : Int64) (u : Int32) => o.1 = r ∧ o.2 = u) (fun u t => va_P (gD g) zCl (wModel g q0 q1 q2 q3 q4 q5 q6 q7 q8 q9 q10 q11 q12 mm masd msav misS mpst mchg merr mfai u minp minM mUp mcar mcam mahd magn mltr mbeg mcmd mcmM mpl msz mwr mlin mliM) t.heap) A
set_option maxHeartbeats 4000000 in
set_option maxRecDepth 100000 in
theorem c_X11_totalByAccounts (l : Launch) (g : GG) (q0 q1 q2 q3 q4 q5 q6 q7 q8 q9 q10 q11 q12 : Nat) (mm : Nat → Int64) (masd : Nat → Int64) (msav : Nat → Int64) (misS : Int32) (mpst : Nat → Int64) (mchg : Int32) (merr : Int32) (mfai : Int32) (mthr : Int32) (minp : Nat → Int32) (minM : Int32) (mUp : Nat → Int32) (mcar : Nat → Int32) (mcam : Nat → Int32) (mahd : Int32) (magn : Int32) (mltr : Nat → Int32) (mbeg : Nat → Int32) (mcmd : Nat → Int32) (mcmM : Int32) (mpl : Int32) (msz : Int32) (mwr : Int32) (mlin : Nat → Int32) (mliM : Int32) (sz : Nat) (fu : Nat) (o : Int64 × Int32) (hF : F_X11_totalByAccounts fu mm mthr = some o) : Met l yX11_totalByAccounts w_X11_totalByAccounts r_X11_totalByAccounts (va_Pc [.ref q0] (zP g (wModel g q0 q1 q2 q3 q4 q5 q6 q7 q8 q9 q10 q11 q12 mm masd msav misS mpst mchg merr mfai mthr minp minM mUp mcar mcam mahd magn mltr mbeg mcmd mcmM mpl msz mwr mlin mliM) sz)) (q_X11_totalByAccounts g q0 q1 q2 q3 q4 q5 q6 q7 q8 q9 q10 q11 q12 mm masd msav misS mpst mchg merr mfai mthr minp minM mUp mcar mcam mahd magn mltr mbeg mcmd mcmM mpl msz mwr mlin mliM o (va_A (wModel g q0 q1 q2 q3 q4 q5 q6 q7 q8 q9 q10 q11 q12 mm masd msav misS mpst mchg merr mfai mthr minp minM mUp mcar mcam mahd magn mltr mbeg mcmd mcmM mpl msz mwr mlin mliM) sz)) 0 0 (va_A (wModel g q0 q1 q2 q3 q4 q5 q6 q7 q8 q9 q10 q11 q12 mm masd msav misS mpst mchg merr mfai mthr minp minM mUp mcar mcam mahd magn mltr mbeg mcmd mcmM mpl msz mwr mlin mliM) sz) := by
  refine Met.ofW (cc := cX11_totalByAccounts) (maxL := 1) (ret := (some .long)) (by decide) rfl ?_
  intro p e s m args below meth c s₁ B hml hv
  obtain ⟨rfl, rfl, hP, hK, hD0, hB⟩ := hv
  have hx := B.exec
  have hb := B.bytes
  have hr := B.returns
  have hts : ∀ w ∈ wU, w.before _ s = true := fun w h => atoms_spec (ws := w_X11_totalByAccounts) B.pre w (List.mem_cons_of_mem _ h)
  have hown : s.vm.findClass RX11 = some m.cls := findClass_of_methodNamed B.named
  have hlocks := B.notSynchronized
  have hD := hD0.self (sz := s.heap.size)
  generalize hAe : va_A (wModel g q0 q1 q2 q3 q4 q5 q6 q7 q8 q9 q10 q11 q12 mm masd msav misS mpst mchg merr mfai mthr minp minM mUp mcar mcam mahd magn mltr mbeg mcmd mcmM mpl msz mwr mlin mliM) s.heap.size = A at hD hB ⊢
  have hA : ∀ q : Nat, s.heap.size ≤ q → A q := fun q h => by rw [← hAe]; exact Or.inr h
  have hS : va_S A s.heap s.heap [] := va_S.rf
  have hl := lv_entry ([.ref q0]) (n := 1) (Nat.le_of_ble_eq_true rfl)
  rw [lg_entry_eq]
  generalize (lg_sl ([.ref q0]) ++ List.replicate (1 - (lg_sl ([.ref q0])).length) Slot.unset).toArray = ls at hl ⊢
  have hl : lv_has ls 1 [(0, .ref q0)] := hl
  unfold F_X11_totalByAccounts at hF
  refine lv_aload_n hx hb dX11_totalByAccounts_0 rfl (lv_at hl 0 rfl) ?_
  obtain ⟨zo1, hzo1, hF⟩ := z_bind hF
  refine z_calllE (fun (u : Int32) => (wModel g q0 q1 q2 q3 q4 q5 q6 q7 q8 q9 q10 q11 q12 mm masd msav misS mpst mchg merr mfai u minp minM mUp mcar mcam mahd magn mltr mbeg mcmd mcmM mpl msz mwr mlin mliM)) (va_runV (As := []) (rest := []) ⟨hx, hb, hml, hown, hts⟩ (c_X11_total l g q0 q1 q2 q3 q4 q5 q6 q7 q8 q9 q10 q11 q12 mm masd msav misS mpst mchg merr mfai mthr minp minM mUp mcar mcam mahd magn mltr mbeg mcmd mcmM mpl msz mwr mlin mliM _ fu _ hzo1) (cwV 0 hts (gdV mU_1586 mU_1579 mU_1580 mU_75 mU_1581) rfl rfl rfl (by decide +kernel) ⟨Nat.le_of_ble_eq_true rfl, Nat.le_of_ble_eq_true rfl⟩) ⟨z_blind _ _ _ _, va_recv hK hP (ci := 7) (q0 := 0) rfl rfl, fun U hU hW => z_preE hP hD hK hB hS hA hU hW⟩ rfl rfl hl.1 rfl (lv_room (Nat.le_of_ble_eq_true rfl)) dX11_totalByAccounts_1 ⟨Nat.le_of_ble_eq_true rfl, Nat.le_of_ble_eq_true rfl⟩) hD hS hA (fun _ => rfl) (fun r u H locs hw hP hD hS => ?_)
  obtain ⟨rfl, rfl⟩ := hw
  have hP : va_P (gD g) zCl (wModel g q0 q1 q2 q3 q4 q5 q6 q7 q8 q9 q10 q11 q12 mm masd msav misS mpst mchg merr mfai zo1.2 minp minM mUp mcar mcam mahd magn mltr mbeg mcmd mcmM mpl msz mwr mlin mliM) H := hP
  have hD : va_D A (wModel g q0 q1 q2 q3 q4 q5 q6 q7 q8 q9 q10 q11 q12 mm masd msav misS mpst mchg merr mfai zo1.2 minp minM mUp mcar mcam mahd magn mltr mbeg mcmd mcmM mpl msz mwr mlin mliM) := hD
  have ho := (Option.some.inj hF).symm
  exact W.lret (v := zo1.1) hx hb hr (fun t ht hW => ⟨⟨zo1.1, zo1.2, rfl, ⟨by rw [ho], by rw [ho]⟩, z_end ht hP⟩, hS.F ht⟩) hS.2.2 dX11_totalByAccounts_4
abbrev w_X11_escapes : List Cond := .code yX11_escapes cX11_escapes 1 (some .int) :: wU
abbrev r_X11_escapes : Room := { frames := 0, cells := 0, slots := 0, locals := 0 }
abbrev q_X11_escapes (g : GG) (q0 q1 q2 q3 q4 q5 q6 q7 q8 q9 q10 q11 q12 : Nat) (mm : Nat → Int64) (masd : Nat → Int64) (msav : Nat → Int64) (misS : Int32) (mpst : Nat → Int64) (mchg : Int32) (merr : Int32) (mfai : Int32) (mthr : Int32) (minp : Nat → Int32) (minM : Int32) (mUp : Nat → Int32) (mcar : Nat → Int32) (mcam : Nat → Int32) (mahd : Int32) (magn : Int32) (mltr : Nat → Int32) (mbeg : Nat → Int32) (mcmd : Nat → Int32) (mcmM : Int32) (mpl : Int32) (msz : Int32) (mwr : Int32) (mlin : Nat → Int32) (mliM : Int32) (o : Int32 × Int32) (A : Nat → Prop) := va_Qi (fun (r : Int32) (u : Int32) => o.1 = r ∧ o.2 = u) (fun u t => va_P (gD g) zCl (wModel g q0 q1 q2 q3 q4 q5 q6 q7 q8 q9 q10 q11 q12 mm masd msav misS mpst mchg merr mfai u minp minM mUp mcar mcam mahd magn mltr mbeg mcmd mcmM mpl msz mwr mlin mliM) t.heap) A
set_option maxHeartbeats 4000000 in
set_option maxRecDepth 100000 in
theorem c_X11_escapes (l : Launch) (g : GG) (q0 q1 q2 q3 q4 q5 q6 q7 q8 q9 q10 q11 q12 : Nat) (mm : Nat → Int64) (masd : Nat → Int64) (msav : Nat → Int64) (misS : Int32) (mpst : Nat → Int64) (mchg : Int32) (merr : Int32) (mfai : Int32) (mthr : Int32) (minp : Nat → Int32) (minM : Int32) (mUp : Nat → Int32) (mcar : Nat → Int32) (mcam : Nat → Int32) (mahd : Int32) (magn : Int32) (mltr : Nat → Int32) (mbeg : Nat → Int32) (mcmd : Nat → Int32) (mcmM : Int32) (mpl : Int32) (msz : Int32) (mwr : Int32) (mlin : Nat → Int32) (mliM : Int32) (sz : Nat) (o : Int32 × Int32) (hF : F_X11_escapes mm mthr = some o) : Met l yX11_escapes w_X11_escapes r_X11_escapes (va_Pc [.ref q0] (zP g (wModel g q0 q1 q2 q3 q4 q5 q6 q7 q8 q9 q10 q11 q12 mm masd msav misS mpst mchg merr mfai mthr minp minM mUp mcar mcam mahd magn mltr mbeg mcmd mcmM mpl msz mwr mlin mliM) sz)) (q_X11_escapes g q0 q1 q2 q3 q4 q5 q6 q7 q8 q9 q10 q11 q12 mm masd msav misS mpst mchg merr mfai mthr minp minM mUp mcar mcam mahd magn mltr mbeg mcmd mcmM mpl msz mwr mlin mliM o (va_A (wModel g q0 q1 q2 q3 q4 q5 q6 q7 q8 q9 q10 q11 q12 mm masd msav misS mpst mchg merr mfai mthr minp minM mUp mcar mcam mahd magn mltr mbeg mcmd mcmM mpl msz mwr mlin mliM) sz)) 0 0 (va_A (wModel g q0 q1 q2 q3 q4 q5 q6 q7 q8 q9 q10 q11 q12 mm masd msav misS mpst mchg merr mfai mthr minp minM mUp mcar mcam mahd magn mltr mbeg mcmd mcmM mpl msz mwr mlin mliM) sz) := by
  refine Met.ofW (cc := cX11_escapes) (maxL := 1) (ret := (some .int)) (by decide) rfl ?_
  intro p e s m args below meth c s₁ B hml hv
  obtain ⟨rfl, rfl, hP, hK, hD0, hB⟩ := hv
  have hx := B.exec
  have hb := B.bytes
  have hr := B.returns
  have hts : ∀ w ∈ wU, w.before _ s = true := fun w h => atoms_spec (ws := w_X11_escapes) B.pre w (List.mem_cons_of_mem _ h)
  have hown : s.vm.findClass RX11 = some m.cls := findClass_of_methodNamed B.named
  have hlocks := B.notSynchronized
  have hD := hD0.self (sz := s.heap.size)
  generalize hAe : va_A (wModel g q0 q1 q2 q3 q4 q5 q6 q7 q8 q9 q10 q11 q12 mm masd msav misS mpst mchg merr mfai mthr minp minM mUp mcar mcam mahd magn mltr mbeg mcmd mcmM mpl msz mwr mlin mliM) s.heap.size = A at hD hB ⊢
  have hA : ∀ q : Nat, s.heap.size ≤ q → A q := fun q h => by rw [← hAe]; exact Or.inr h
  have hS : va_S A s.heap s.heap [] := va_S.rf
  have hl := lv_entry ([.ref q0]) (n := 1) (Nat.le_of_ble_eq_true rfl)
  rw [lg_entry_eq]
  generalize (lg_sl ([.ref q0]) ++ List.replicate (1 - (lg_sl ([.ref q0])).length) Slot.unset).toArray = ls at hl ⊢
  have hl : lv_has ls 1 [(0, .ref q0)] := hl
  unfold F_X11_escapes at hF
  refine lv_aload_n hx hb dX11_escapes_0 rfl (lv_at hl 0 rfl) ?_
  refine lv_iconst (v := 0) hx hb dX11_escapes_1 (by decide) ?_
  refine va_put (D := gD g) (ci := 7) (v := .int 0) (ty := .int) (C := RX11) (T := TX11) (N := 25) hx hb hts inX11 tyX11 tyX11_ok nmX11 hown hK hP hD hS 0 rfl rfl 8 (by decide) (hts _ mU_1252) (fun _ h9 => h9) rfl (by decide +kernel) rfl rfl (Nat.le_of_ble_eq_true rfl) dX11_escapes_2 (fun H locs hP hD hS => ?_)
  have hP : va_P (gD g) zCl (wModel g q0 q1 q2 q3 q4 q5 q6 q7 q8 q9 q10 q11 q12 mm masd msav misS mpst mchg merr mfai 0 minp minM mUp mcar mcam mahd magn mltr mbeg mcmd mcmM mpl msz mwr mlin mliM) H := hP
  have hD : va_D A (wModel g q0 q1 q2 q3 q4 q5 q6 q7 q8 q9 q10 q11 q12 mm masd msav misS mpst mchg merr mfai 0 minp minM mUp mcar mcam mahd magn mltr mbeg mcmd mcmM mpl msz mwr mlin mliM) := hD
  refine lv_aload_n hx hb dX11_escapes_5 rfl (lv_at hl 0 rfl) ?_
  refine va_get (D := gD g) (ci := 7) (v := .ref q1) (C := RX11) (T := TX11) (N := 25) hx hb hts inX11 hown hK hP 0 rfl rfl 0 (by decide) (hts _ mU_1244) (fun _ h9 => h9) rfl dX11_escapes_6 ?_
  refine lv_iconst (v := 2) hx hb dX11_escapes_9 (by decide) ?_
  refine va_lald hx hb hK hP 1 2 rfl rfl (by unfold vp_in; decide) dX11_escapes_10 ?_
  refine lv_l2i (v := (Int64.toInt32 (mm (Int32.toNatClampNeg 2)))) hx hb dX11_escapes_11 rfl ?_
  have ho := (Option.some.inj hF).symm
  exact W.iret (v := (Int64.toInt32 (mm (Int32.toNatClampNeg 2)))) hx hb hr (fun t ht hW => ⟨⟨(Int64.toInt32 (mm (Int32.toNatClampNeg 2))), 0, rfl, ⟨by rw [ho], by rw [ho]⟩, z_end ht hP⟩, hS.F ht⟩) hS.2.2 dX11_escapes_12
abbrev w_X11_crumbs : List Cond := .code yX11_crumbs cX11_crumbs 1 (some .long) :: wU
abbrev r_X11_crumbs : Room := { frames := 0, cells := 0, slots := 0, locals := 0 }
abbrev q_X11_crumbs (g : GG) (q0 q1 q2 q3 q4 q5 q6 q7 q8 q9 q10 q11 q12 : Nat) (mm : Nat → Int64) (masd : Nat → Int64) (msav : Nat → Int64) (misS : Int32) (mpst : Nat → Int64) (mchg : Int32) (merr : Int32) (mfai : Int32) (mthr : Int32) (minp : Nat → Int32) (minM : Int32) (mUp : Nat → Int32) (mcar : Nat → Int32) (mcam : Nat → Int32) (mahd : Int32) (magn : Int32) (mltr : Nat → Int32) (mbeg : Nat → Int32) (mcmd : Nat → Int32) (mcmM : Int32) (mpl : Int32) (msz : Int32) (mwr : Int32) (mlin : Nat → Int32) (mliM : Int32) (o : Int64 × Int32) (A : Nat → Prop) := va_Ql (fun (r : Int64) (u : Int32) => o.1 = r ∧ o.2 = u) (fun u t => va_P (gD g) zCl (wModel g q0 q1 q2 q3 q4 q5 q6 q7 q8 q9 q10 q11 q12 mm masd msav misS mpst mchg merr mfai u minp minM mUp mcar mcam mahd magn mltr mbeg mcmd mcmM mpl msz mwr mlin mliM) t.heap) A
set_option maxHeartbeats 4000000 in
set_option maxRecDepth 100000 in
theorem c_X11_crumbs (l : Launch) (g : GG) (q0 q1 q2 q3 q4 q5 q6 q7 q8 q9 q10 q11 q12 : Nat) (mm : Nat → Int64) (masd : Nat → Int64) (msav : Nat → Int64) (misS : Int32) (mpst : Nat → Int64) (mchg : Int32) (merr : Int32) (mfai : Int32) (mthr : Int32) (minp : Nat → Int32) (minM : Int32) (mUp : Nat → Int32) (mcar : Nat → Int32) (mcam : Nat → Int32) (mahd : Int32) (magn : Int32) (mltr : Nat → Int32) (mbeg : Nat → Int32) (mcmd : Nat → Int32) (mcmM : Int32) (mpl : Int32) (msz : Int32) (mwr : Int32) (mlin : Nat → Int32) (mliM : Int32) (sz : Nat) (o : Int64 × Int32) (hF : F_X11_crumbs mm mthr = some o) : Met l yX11_crumbs w_X11_crumbs r_X11_crumbs (va_Pc [.ref q0] (zP g (wModel g q0 q1 q2 q3 q4 q5 q6 q7 q8 q9 q10 q11 q12 mm masd msav misS mpst mchg merr mfai mthr minp minM mUp mcar mcam mahd magn mltr mbeg mcmd mcmM mpl msz mwr mlin mliM) sz)) (q_X11_crumbs g q0 q1 q2 q3 q4 q5 q6 q7 q8 q9 q10 q11 q12 mm masd msav misS mpst mchg merr mfai mthr minp minM mUp mcar mcam mahd magn mltr mbeg mcmd mcmM mpl msz mwr mlin mliM o (va_A (wModel g q0 q1 q2 q3 q4 q5 q6 q7 q8 q9 q10 q11 q12 mm masd msav misS mpst mchg merr mfai mthr minp minM mUp mcar mcam mahd magn mltr mbeg mcmd mcmM mpl msz mwr mlin mliM) sz)) 0 0 (va_A (wModel g q0 q1 q2 q3 q4 q5 q6 q7 q8 q9 q10 q11 q12 mm masd msav misS mpst mchg merr mfai mthr minp minM mUp mcar mcam mahd magn mltr mbeg mcmd mcmM mpl msz mwr mlin mliM) sz) := by
  refine Met.ofW (cc := cX11_crumbs) (maxL := 1) (ret := (some .long)) (by decide) rfl ?_
  intro p e s m args below meth c s₁ B hml hv
  obtain ⟨rfl, rfl, hP, hK, hD0, hB⟩ := hv
  have hx := B.exec
  have hb := B.bytes
  have hr := B.returns
  have hts : ∀ w ∈ wU, w.before _ s = true := fun w h => atoms_spec (ws := w_X11_crumbs) B.pre w (List.mem_cons_of_mem _ h)
  have hown : s.vm.findClass RX11 = some m.cls := findClass_of_methodNamed B.named
  have hlocks := B.notSynchronized
  have hD := hD0.self (sz := s.heap.size)
  generalize hAe : va_A (wModel g q0 q1 q2 q3 q4 q5 q6 q7 q8 q9 q10 q11 q12 mm masd msav misS mpst mchg merr mfai mthr minp minM mUp mcar mcam mahd magn mltr mbeg mcmd mcmM mpl msz mwr mlin mliM) s.heap.size = A at hD hB ⊢
  have hA : ∀ q : Nat, s.heap.size ≤ q → A q := fun q h => by rw [← hAe]; exact Or.inr h
  have hS : va_S A s.heap s.heap [] := va_S.rf
  have hl := lv_entry ([.ref q0]) (n := 1) (Nat.le_of_ble_eq_true rfl)
  rw [lg_entry_eq]
  generalize (lg_sl ([.ref q0]) ++ List.replicate (1 - (lg_sl ([.ref q0])).length) Slot.unset).toArray = ls at hl ⊢
  have hl : lv_has ls 1 [(0, .ref q0)] := hl
  unfold F_X11_crumbs at hF
  refine lv_aload_n hx hb dX11_crumbs_0 rfl (lv_at hl 0 rfl) ?_
  refine lv_iconst (v := 0) hx hb dX11_crumbs_1 (by decide) ?_
  refine va_put (D := gD g) (ci := 7) (v := .int 0) (ty := .int) (C := RX11) (T := TX11) (N := 25) hx hb hts inX11 tyX11 tyX11_ok nmX11 hown hK hP hD hS 0 rfl rfl 8 (by decide) (hts _ mU_1252) (fun _ h9 => h9) rfl (by decide +kernel) rfl rfl (Nat.le_of_ble_eq_true rfl) dX11_crumbs_2 (fun H locs hP hD hS => ?_)
  have hP : va_P (gD g) zCl (wModel g q0 q1 q2 q3 q4 q5 q6 q7 q8 q9 q10 q11 q12 mm masd msav misS mpst mchg merr mfai 0 minp minM mUp mcar mcam mahd magn mltr mbeg mcmd mcmM mpl msz mwr mlin mliM) H := hP
  have hD : va_D A (wModel g q0 q1 q2 q3 q4 q5 q6 q7 q8 q9 q10 q11 q12 mm masd msav misS mpst mchg merr mfai 0 minp minM mUp mcar mcam mahd magn mltr mbeg mcmd mcmM mpl msz mwr mlin mliM) := hD
  refine lv_aload_n hx hb dX11_crumbs_5 rfl (lv_at hl 0 rfl) ?_
  refine va_get (D := gD g) (ci := 7) (v := .ref q1) (C := RX11) (T := TX11) (N := 25) hx hb hts inX11 hown hK hP 0 rfl rfl 0 (by decide) (hts _ mU_1244) (fun _ h9 => h9) rfl dX11_crumbs_6 ?_
  refine lv_iconst (v := 3) hx hb dX11_crumbs_9 (by decide) ?_
  refine va_lald hx hb hK hP 1 2 rfl rfl (by unfold vp_in; decide) dX11_crumbs_10 ?_
  have ho := (Option.some.inj hF).symm
  exact W.lret (v := (mm (Int32.toNatClampNeg 3))) hx hb hr (fun t ht hW => ⟨⟨(mm (Int32.toNatClampNeg 3)), 0, rfl, ⟨by rw [ho], by rw [ho]⟩, z_end ht hP⟩, hS.F ht⟩) hS.2.2 dX11_crumbs_11
abbrev w_X11_isConsistent : List Cond := .code yX11_isConsistent cX11_isConsistent 1 (some .boolean) :: wU
abbrev r_X11_isConsistent : Room := { frames := 0, cells := 0, slots := 0, locals := 0 }
abbrev q_X11_isConsistent (g : GG) (q0 q1 q2 q3 q4 q5 q6 q7 q8 q9 q10 q11 q12 : Nat) (mm : Nat → Int64) (masd : Nat → Int64) (msav : Nat → Int64) (misS : Int32) (mpst : Nat → Int64) (mchg : Int32) (merr : Int32) (mfai : Int32) (mthr : Int32) (minp : Nat → Int32) (minM : Int32) (mUp : Nat → Int32) (mcar : Nat → Int32) (mcam : Nat → Int32) (mahd : Int32) (magn : Int32) (mltr : Nat → Int32) (mbeg : Nat → Int32) (mcmd : Nat → Int32) (mcmM : Int32) (mpl : Int32) (msz : Int32) (mwr : Int32) (mlin : Nat → Int32) (mliM : Int32) (o : Int32 × Int32) (A : Nat → Prop) := va_Qi (fun (r : Int32) (u : Int32) => o.1 = r ∧ o.2 = u) (fun u t => va_P (gD g) zCl (wModel g q0 q1 q2 q3 q4 q5 q6 q7 q8 q9 q10 q11 q12 mm masd msav misS mpst mchg merr mfai u minp minM mUp mcar mcam mahd magn mltr mbeg mcmd mcmM mpl msz mwr mlin mliM) t.heap) A
set_option maxHeartbeats 4000000 in
set_option maxRecDepth 100000 in
theorem c_X11_isConsistent (l : Launch) (g : GG) (q0 q1 q2 q3 q4 q5 q6 q7 q8 q9 q10 q11 q12 : Nat) (mm : Nat → Int64) (masd : Nat → Int64) (msav : Nat → Int64) (misS : Int32) (mpst : Nat → Int64) (mchg : Int32) (merr : Int32) (mfai : Int32) (mthr : Int32) (minp : Nat → Int32) (minM : Int32) (mUp : Nat → Int32) (mcar : Nat → Int32) (mcam : Nat → Int32) (mahd : Int32) (magn : Int32) (mltr : Nat → Int32) (mbeg : Nat → Int32) (mcmd : Nat → Int32) (mcmM : Int32) (mpl : Int32) (msz : Int32) (mwr : Int32) (mlin : Nat → Int32) (mliM : Int32) (sz : Nat) (o : Int32 × Int32) (hF : F_X11_isConsistent mthr = some o) : Met l yX11_isConsistent w_X11_isConsistent r_X11_isConsistent (va_Pc [.ref q0] (zP g (wModel g q0 q1 q2 q3 q4 q5 q6 q7 q8 q9 q10 q11 q12 mm masd msav misS mpst mchg merr mfai mthr minp minM mUp mcar mcam mahd magn mltr mbeg mcmd mcmM mpl msz mwr mlin mliM) sz)) (q_X11_isConsistent g q0 q1 q2 q3 q4 q5 q6 q7 q8 q9 q10 q11 q12 mm masd msav misS mpst mchg merr mfai mthr minp minM mUp mcar mcam mahd magn mltr mbeg mcmd mcmM mpl msz mwr mlin mliM o (va_A (wModel g q0 q1 q2 q3 q4 q5 q6 q7 q8 q9 q10 q11 q12 mm masd msav misS mpst mchg merr mfai mthr minp minM mUp mcar mcam mahd magn mltr mbeg mcmd mcmM mpl msz mwr mlin mliM) sz)) 0 0 (va_A (wModel g q0 q1 q2 q3 q4 q5 q6 q7 q8 q9 q10 q11 q12 mm masd msav misS mpst mchg merr mfai mthr minp minM mUp mcar mcam mahd magn mltr mbeg mcmd mcmM mpl msz mwr mlin mliM) sz) := by
  refine Met.ofW (cc := cX11_isConsistent) (maxL := 1) (ret := (some .boolean)) (by decide) rfl ?_
  intro p e s m args below meth c s₁ B hml hv
  obtain ⟨rfl, rfl, hP, hK, hD0, hB⟩ := hv
  have hx := B.exec
  have hb := B.bytes
  have hr := B.returns
  have hts : ∀ w ∈ wU, w.before _ s = true := fun w h => atoms_spec (ws := w_X11_isConsistent) B.pre w (List.mem_cons_of_mem _ h)
  have hown : s.vm.findClass RX11 = some m.cls := findClass_of_methodNamed B.named
  have hlocks := B.notSynchronized
  have hD := hD0.self (sz := s.heap.size)
  generalize hAe : va_A (wModel g q0 q1 q2 q3 q4 q5 q6 q7 q8 q9 q10 q11 q12 mm masd msav misS mpst mchg merr mfai mthr minp minM mUp mcar mcam mahd magn mltr mbeg mcmd mcmM mpl msz mwr mlin mliM) s.heap.size = A at hD hB ⊢
  have hA : ∀ q : Nat, s.heap.size ≤ q → A q := fun q h => by rw [← hAe]; exact Or.inr h
  have hS : va_S A s.heap s.heap [] := va_S.rf
  have hl := lv_entry ([.ref q0]) (n := 1) (Nat.le_of_ble_eq_true rfl)
  rw [lg_entry_eq]
  generalize (lg_sl ([.ref q0]) ++ List.replicate (1 - (lg_sl ([.ref q0])).length) Slot.unset).toArray = ls at hl ⊢
  have hl : lv_has ls 1 [(0, .ref q0)] := hl
  unfold F_X11_isConsistent at hF
  refine lv_aload_n hx hb dX11_isConsistent_0 rfl (lv_at hl 0 rfl) ?_
  refine lv_iconst (v := 0) hx hb dX11_isConsistent_1 (by decide) ?_
  refine va_put (D := gD g) (ci := 7) (v := .int 0) (ty := .int) (C := RX11) (T := TX11) (N := 25) hx hb hts inX11 tyX11 tyX11_ok nmX11 hown hK hP hD hS 0 rfl rfl 8 (by decide) (hts _ mU_1252) (fun _ h9 => h9) rfl (by decide +kernel) rfl rfl (Nat.le_of_ble_eq_true rfl) dX11_isConsistent_2 (fun H locs hP hD hS => ?_)
  have hP : va_P (gD g) zCl (wModel g q0 q1 q2 q3 q4 q5 q6 q7 q8 q9 q10 q11 q12 mm masd msav misS mpst mchg merr mfai 0 minp minM mUp mcar mcam mahd magn mltr mbeg mcmd mcmM mpl msz mwr mlin mliM) H := hP
  have hD : va_D A (wModel g q0 q1 q2 q3 q4 q5 q6 q7 q8 q9 q10 q11 q12 mm masd msav misS mpst mchg merr mfai 0 minp minM mUp mcar mcam mahd magn mltr mbeg mcmd mcmM mpl msz mwr mlin mliM) := hD
  refine lv_iconst (v := 1) hx hb dX11_isConsistent_5 (by decide) ?_
  have ho := (Option.some.inj hF).symm
  exact W.zret (v := 1) hx hb hr rfl (fun t ht hW => ⟨⟨1, 0, rfl, ⟨by rw [ho], by rw [ho]⟩, z_end ht hP⟩, hS.F ht⟩) hS.2.2 dX11_isConsistent_6
abbrev w_X11_append : List Cond := .code yX11_append cX11_append 2 (some .int) :: wU
abbrev r_X11_append : Room := { frames := 1, cells := 0, slots := 0, locals := 21 }
abbrev q_X11_append (g : GG) (q0 q1 q2 q3 q4 q5 q6 q7 q8 q9 q10 q11 q12 : Nat) (mm : Nat → Int64) (masd : Nat → Int64) (msav : Nat → Int64) (misS : Int32) (mpst : Nat → Int64) (mchg : Int32) (merr : Int32) (mfai : Int32) (mthr : Int32) (minp : Nat → Int32) (minM : Int32) (mUp : Nat → Int32) (mcar : Nat → Int32) (mcam : Nat → Int32) (mahd : Int32) (magn : Int32) (mltr : Nat → Int32) (mbeg : Nat → Int32) (mcmd : Nat → Int32) (mcmM : Int32) (mpl : Int32) (msz : Int32) (mwr : Int32) (mlin : Nat → Int32) (mliM : Int32) (o : Int32 × Int32 × (Nat → Int32) × Int32) (A : Nat → Prop) := va_Qi (fun (r : Int32) (u : Int32 × (Nat → Int32) × Int32) => o.1 = r ∧ o.2 = u) (fun u t => va_P (gD g) zCl (wModel g q0 q1 q2 q3 q4 q5 q6 q7 q8 q9 q10 q11 q12 mm masd msav misS mpst mchg merr mfai u.1 u.2.1 u.2.2 mUp mcar mcam mahd magn mltr mbeg mcmd mcmM mpl msz mwr mlin mliM) t.heap) A
set_option maxHeartbeats 4000000 in
set_option maxRecDepth 100000 in
theorem c_X11_append (l : Launch) (g : GG) (q0 q1 q2 q3 q4 q5 q6 q7 q8 q9 q10 q11 q12 : Nat) (mm : Nat → Int64) (masd : Nat → Int64) (msav : Nat → Int64) (misS : Int32) (mpst : Nat → Int64) (mchg : Int32) (merr : Int32) (mfai : Int32) (mthr : Int32) (minp : Nat → Int32) (minM : Int32) (mUp : Nat → Int32) (mcar : Nat → Int32) (mcam : Nat → Int32) (mahd : Int32) (magn : Int32) (mltr : Nat → Int32) (mbeg : Nat → Int32) (mcmd : Nat → Int32) (mcmM : Int32) (mpl : Int32) (msz : Int32) (mwr : Int32) (mlin : Nat → Int32) (mliM : Int32) (sz : Nat) (p1 : Int32) (o : Int32 × Int32 × (Nat → Int32) × Int32) (hF : F_X11_append mthr minp minM p1 = some o) : Met l yX11_append w_X11_append r_X11_append (va_Pc [.ref q0, .int p1] (zP g (wModel g q0 q1 q2 q3 q4 q5 q6 q7 q8 q9 q10 q11 q12 mm masd msav misS mpst mchg merr mfai mthr minp minM mUp mcar mcam mahd magn mltr mbeg mcmd mcmM mpl msz mwr mlin mliM) sz)) (q_X11_append g q0 q1 q2 q3 q4 q5 q6 q7 q8 q9 q10 q11 q12 mm masd msav misS mpst mchg merr mfai mthr minp minM mUp mcar mcam mahd magn mltr mbeg mcmd mcmM mpl msz mwr mlin mliM o (va_A (wModel g q0 q1 q2 q3 q4 q5 q6 q7 q8 q9 q10 q11 q12 mm masd msav misS mpst mchg merr mfai mthr minp minM mUp mcar mcam mahd magn mltr mbeg mcmd mcmM mpl msz mwr mlin mliM) sz)) 0 0 (va_A (wModel g q0 q1 q2 q3 q4 q5 q6 q7 q8 q9 q10 q11 q12 mm masd msav misS mpst mchg merr mfai mthr minp minM mUp mcar mcam mahd magn mltr mbeg mcmd mcmM mpl msz mwr mlin mliM) sz) := by
  refine Met.ofW (cc := cX11_append) (maxL := 2) (ret := (some .int)) (by decide) rfl ?_
  intro p e s m args below meth c s₁ B hml hv
  obtain ⟨rfl, rfl, hP, hK, hD0, hB⟩ := hv
  have hx := B.exec
  have hb := B.bytes
  have hr := B.returns
  have hts : ∀ w ∈ wU, w.before _ s = true := fun w h => atoms_spec (ws := w_X11_append) B.pre w (List.mem_cons_of_mem _ h)
  have hown : s.vm.findClass RX11 = some m.cls := findClass_of_methodNamed B.named
  have hlocks := B.notSynchronized
  have hD := hD0.self (sz := s.heap.size)
  generalize hAe : va_A (wModel g q0 q1 q2 q3 q4 q5 q6 q7 q8 q9 q10 q11 q12 mm masd msav misS mpst mchg merr mfai mthr minp minM mUp mcar mcam mahd magn mltr mbeg mcmd mcmM mpl msz mwr mlin mliM) s.heap.size = A at hD hB ⊢
  have hA : ∀ q : Nat, s.heap.size ≤ q → A q := fun q h => by rw [← hAe]; exact Or.inr h
  have hS : va_S A s.heap s.heap [] := va_S.rf
  have hl := lv_entry ([.ref q0, .int p1]) (n := 2) (Nat.le_of_ble_eq_true rfl)
  rw [lg_entry_eq]
  generalize (lg_sl ([.ref q0, .int p1]) ++ List.replicate (2 - (lg_sl ([.ref q0, .int p1])).length) Slot.unset).toArray = ls at hl ⊢
  have hl : lv_has ls 2 [(0, .ref q0), (1, .int p1)] := hl
  unfold F_X11_append at hF
  refine lv_aload_n hx hb dX11_append_0 rfl (lv_at hl 0 rfl) ?_
  refine lv_iconst (v := 0) hx hb dX11_append_1 (by decide) ?_
  refine va_put (D := gD g) (ci := 7) (v := .int 0) (ty := .int) (C := RX11) (T := TX11) (N := 25) hx hb hts inX11 tyX11 tyX11_ok nmX11 hown hK hP hD hS 0 rfl rfl 8 (by decide) (hts _ mU_1252) (fun _ h9 => h9) rfl (by decide +kernel) rfl rfl (Nat.le_of_ble_eq_true rfl) dX11_append_2 (fun H locs hP hD hS => ?_)
  have hP : va_P (gD g) zCl (wModel g q0 q1 q2 q3 q4 q5 q6 q7 q8 q9 q10 q11 q12 mm masd msav misS mpst mchg merr mfai 0 minp minM mUp mcar mcam mahd magn mltr mbeg mcmd mcmM mpl msz mwr mlin mliM) H := hP
  have hD : va_D A (wModel g q0 q1 q2 q3 q4 q5 q6 q7 q8 q9 q10 q11 q12 mm masd msav misS mpst mchg merr mfai 0 minp minM mUp mcar mcam mahd magn mltr mbeg mcmd mcmM mpl msz mwr mlin mliM) := hD
  refine lv_aload_n hx hb dX11_append_5 rfl (lv_at hl 0 rfl) ?_
  refine va_get (D := gD g) (ci := 7) (v := .int minM) (C := RX11) (T := TX11) (N := 25) hx hb hts inX11 hown hK hP 0 rfl rfl 10 (by decide) (hts _ mU_1254) (fun _ h9 => h9) rfl dX11_append_6 ?_
  refine lv_bipush (v := 60) hx hb dX11_append_9 (by decide) ?_
  refine lv_icmp_ne (tgt := 20) hx hb dX11_append_11 (by decide) (fun zc1 => ?_) (fun zc1 => ?_)
  · have hF := z_neg hF zc1
    refine lv_aload_n hx hb dX11_append_20 rfl (lv_at hl 0 rfl) ?_
    refine va_get (D := gD g) (ci := 7) (v := .ref q5) (C := RX11) (T := TX11) (N := 25) hx hb hts inX11 hown hK hP 0 rfl rfl 9 (by decide) (hts _ mU_1253) (fun _ h9 => h9) rfl dX11_append_21 ?_
    refine lv_aload_n hx hb dX11_append_24 rfl (lv_at hl 0 rfl) ?_
    refine va_get (D := gD g) (ci := 7) (v := .int minM) (C := RX11) (T := TX11) (N := 25) hx hb hts inX11 hown hK hP 0 rfl rfl 10 (by decide) (hts _ mU_1254) (fun _ h9 => h9) rfl dX11_append_25 ?_
    refine lv_iload_n hx hb dX11_append_28 rfl (lv_at hl 1 rfl) ?_
    obtain ⟨zg2, hF⟩ := z_grd hF
    refine va_iast hx hb hK hP hD hS 5 1 rfl rfl zg2 dX11_append_29 (fun H locs hP hD hS => ?_)
    have hP : va_P (gD g) zCl (wModel g q0 q1 q2 q3 q4 q5 q6 q7 q8 q9 q10 q11 q12 mm masd msav misS mpst mchg merr mfai 0 (upd minp (Int32.toNatClampNeg minM) p1) minM mUp mcar mcam mahd magn mltr mbeg mcmd mcmM mpl msz mwr mlin mliM) H := hP
    have hD : va_D A (wModel g q0 q1 q2 q3 q4 q5 q6 q7 q8 q9 q10 q11 q12 mm masd msav misS mpst mchg merr mfai 0 (upd minp (Int32.toNatClampNeg minM) p1) minM mUp mcar mcam mahd magn mltr mbeg mcmd mcmM mpl msz mwr mlin mliM) := hD
    refine lv_aload_n hx hb dX11_append_30 rfl (lv_at hl 0 rfl) ?_
    refine lv_dup hx hb dX11_append_31 rfl ?_
    refine va_get (D := gD g) (ci := 7) (v := .int minM) (C := RX11) (T := TX11) (N := 25) hx hb hts inX11 hown hK hP 0 rfl rfl 10 (by decide) (hts _ mU_1254) (fun _ h9 => h9) rfl dX11_append_32 ?_
    refine lv_iconst (v := 1) hx hb dX11_append_35 (by decide) ?_
    refine lv_iadd hx hb dX11_append_36 ?_
    refine va_put (D := gD g) (ci := 7) (v := .int (minM + 1)) (ty := .int) (C := RX11) (T := TX11) (N := 25) hx hb hts inX11 tyX11 tyX11_ok nmX11 hown hK hP hD hS 0 rfl rfl 10 (by decide) (hts _ mU_1254) (fun _ h9 => h9) rfl (by decide +kernel) rfl rfl (Nat.le_of_ble_eq_true rfl) dX11_append_37 (fun H locs hP hD hS => ?_)
    have hP : va_P (gD g) zCl (wModel g q0 q1 q2 q3 q4 q5 q6 q7 q8 q9 q10 q11 q12 mm masd msav misS mpst mchg merr mfai 0 (upd minp (Int32.toNatClampNeg minM) p1) (minM + 1) mUp mcar mcam mahd magn mltr mbeg mcmd mcmM mpl msz mwr mlin mliM) H := hP
    have hD : va_D A (wModel g q0 q1 q2 q3 q4 q5 q6 q7 q8 q9 q10 q11 q12 mm masd msav misS mpst mchg merr mfai 0 (upd minp (Int32.toNatClampNeg minM) p1) (minM + 1) mUp mcar mcam mahd magn mltr mbeg mcmd mcmM mpl msz mwr mlin mliM) := hD
    refine lv_aload_n hx hb dX11_append_40 rfl (lv_at hl 0 rfl) ?_
    refine va_get (D := gD g) (ci := 7) (v := .int (minM + 1)) (C := RX11) (T := TX11) (N := 25) hx hb hts inX11 hown hK hP 0 rfl rfl 10 (by decide) (hts _ mU_1254) (fun _ h9 => h9) rfl dX11_append_41 ?_
    have ho := (Option.some.inj hF).symm
    exact W.iret (v := (minM + 1)) hx hb hr (fun t ht hW => ⟨⟨(minM + 1), (0, (upd minp (Int32.toNatClampNeg minM) p1), (minM + 1)), rfl, ⟨by rw [ho], by rw [ho]⟩, z_end ht hP⟩, hS.F ht⟩) hS.2.2 dX11_append_44
  · have hF := z_pos hF zc1
    refine lv_aload_n hx hb dX11_append_14 rfl (lv_at hl 0 rfl) ?_
    refine lv_iconst (v := 1) hx hb dX11_append_15 (by decide) ?_
    obtain ⟨zo3, hzo3, hF⟩ := z_bind hF
    refine z_calliE (fun (u : Int32) => (wModel g q0 q1 q2 q3 q4 q5 q6 q7 q8 q9 q10 q11 q12 mm masd msav misS mpst mchg merr mfai u minp minM mUp mcar mcam mahd magn mltr mbeg mcmd mcmM mpl msz mwr mlin mliM)) (va_runV (As := [.int 1]) (rest := []) ⟨hx, hb, hml, hown, hts⟩ (c_X11_throwing l g q0 q1 q2 q3 q4 q5 q6 q7 q8 q9 q10 q11 q12 mm masd msav misS mpst mchg merr mfai 0 minp minM mUp mcar mcam mahd magn mltr mbeg mcmd mcmM mpl msz mwr mlin mliM _ 1 _ hzo3) (cwV 1 hts (gdV mU_1352 mU_1354 mU_31 mU_75 mU_1355) rfl rfl rfl (by decide +kernel) ⟨Nat.le_of_ble_eq_true rfl, Nat.le_of_ble_eq_true rfl⟩) ⟨z_blind _ _ _ _, va_recv hK hP (ci := 7) (q0 := 0) rfl rfl, fun U hU hW => z_preE hP hD hK hB hS hA hU hW⟩ rfl rfl hl.1 rfl (lv_room (Nat.le_of_ble_eq_true rfl)) dX11_append_16 ⟨Nat.le_of_ble_eq_true rfl, Nat.le_of_ble_eq_true rfl⟩) hD hS hA (fun _ => rfl) (fun r u H locs hw hP hD hS => ?_)
    obtain ⟨rfl, rfl⟩ := hw
    have hP : va_P (gD g) zCl (wModel g q0 q1 q2 q3 q4 q5 q6 q7 q8 q9 q10 q11 q12 mm masd msav misS mpst mchg merr mfai zo3.2 minp minM mUp mcar mcam mahd magn mltr mbeg mcmd mcmM mpl msz mwr mlin mliM) H := hP
    have hD : va_D A (wModel g q0 q1 q2 q3 q4 q5 q6 q7 q8 q9 q10 q11 q12 mm masd msav misS mpst mchg merr mfai zo3.2 minp minM mUp mcar mcam mahd magn mltr mbeg mcmd mcmM mpl msz mwr mlin mliM) := hD
    have ho := (Option.some.inj hF).symm
    exact W.iret (v := zo3.1) hx hb hr (fun t ht hW => ⟨⟨zo3.1, (zo3.2, minp, minM), rfl, ⟨by rw [ho], by rw [ho]⟩, z_end ht hP⟩, hS.F ht⟩) hS.2.2 dX11_append_19
abbrev w_X11_here : List Cond := .code yX11_here cX11_here 1 (some .int) :: wU
abbrev r_X11_here : Room := { frames := 0, cells := 0, slots := 0, locals := 0 }
abbrev q_X11_here (g : GG) (q0 q1 q2 q3 q4 q5 q6 q7 q8 q9 q10 q11 q12 : Nat) (mm : Nat → Int64) (masd : Nat → Int64) (msav : Nat → Int64) (misS : Int32) (mpst : Nat → Int64) (mchg : Int32) (merr : Int32) (mfai : Int32) (mthr : Int32) (minp : Nat → Int32) (minM : Int32) (mUp : Nat → Int32) (mcar : Nat → Int32) (mcam : Nat → Int32) (mahd : Int32) (magn : Int32) (mltr : Nat → Int32) (mbeg : Nat → Int32) (mcmd : Nat → Int32) (mcmM : Int32) (mpl : Int32) (msz : Int32) (mwr : Int32) (mlin : Nat → Int32) (mliM : Int32) (o : Int32) (A : Nat → Prop) := va_Qi (fun (r : Int32) (u : Unit) => o = r) (fun u t => va_P (gD g) zCl (wModel g q0 q1 q2 q3 q4 q5 q6 q7 q8 q9 q10 q11 q12 mm masd msav misS mpst mchg merr mfai mthr minp minM mUp mcar mcam mahd magn mltr mbeg mcmd mcmM mpl msz mwr mlin mliM) t.heap) A
set_option maxHeartbeats 4000000 in
set_option maxRecDepth 100000 in
theorem c_X11_here (l : Launch) (g : GG) (q0 q1 q2 q3 q4 q5 q6 q7 q8 q9 q10 q11 q12 : Nat) (mm : Nat → Int64) (masd : Nat → Int64) (msav : Nat → Int64) (misS : Int32) (mpst : Nat → Int64) (mchg : Int32) (merr : Int32) (mfai : Int32) (mthr : Int32) (minp : Nat → Int32) (minM : Int32) (mUp : Nat → Int32) (mcar : Nat → Int32) (mcam : Nat → Int32) (mahd : Int32) (magn : Int32) (mltr : Nat → Int32) (mbeg : Nat → Int32) (mcmd : Nat → Int32) (mcmM : Int32) (mpl : Int32) (msz : Int32) (mwr : Int32) (mlin : Nat → Int32) (mliM : Int32) (sz : Nat) (o : Int32) (hF : F_X11_here minp mpl msz = some o) : Met l yX11_here w_X11_here r_X11_here (va_Pc [.ref q0] (zP g (wModel g q0 q1 q2 q3 q4 q5 q6 q7 q8 q9 q10 q11 q12 mm masd msav misS mpst mchg merr mfai mthr minp minM mUp mcar mcam mahd magn mltr mbeg mcmd mcmM mpl msz mwr mlin mliM) sz)) (q_X11_here g q0 q1 q2 q3 q4 q5 q6 q7 q8 q9 q10 q11 q12 mm masd msav misS mpst mchg merr mfai mthr minp minM mUp mcar mcam mahd magn mltr mbeg mcmd mcmM mpl msz mwr mlin mliM o (va_A (wModel g q0 q1 q2 q3 q4 q5 q6 q7 q8 q9 q10 q11 q12 mm masd msav misS mpst mchg merr mfai mthr minp minM mUp mcar mcam mahd magn mltr mbeg mcmd mcmM mpl msz mwr mlin mliM) sz)) 0 0 (va_A (wModel g q0 q1 q2 q3 q4 q5 q6 q7 q8 q9 q10 q11 q12 mm masd msav misS mpst mchg merr mfai mthr minp minM mUp mcar mcam mahd magn mltr mbeg mcmd mcmM mpl msz mwr mlin mliM) sz) := by
  refine Met.ofW (cc := cX11_here) (maxL := 1) (ret := (some .int)) (by decide) rfl ?_
  intro p e s m args below meth c s₁ B hml hv
  obtain ⟨rfl, rfl, hP, hK, hD0, hB⟩ := hv
  have hx := B.exec
  have hb := B.bytes
  have hr := B.returns
  have hts : ∀ w ∈ wU, w.before _ s = true := fun w h => atoms_spec (ws := w_X11_here) B.pre w (List.mem_cons_of_mem _ h)
  have hown : s.vm.findClass RX11 = some m.cls := findClass_of_methodNamed B.named
  have hlocks := B.notSynchronized
  have hD := hD0.self (sz := s.heap.size)
  generalize hAe : va_A (wModel g q0 q1 q2 q3 q4 q5 q6 q7 q8 q9 q10 q11 q12 mm masd msav misS mpst mchg merr mfai mthr minp minM mUp mcar mcam mahd magn mltr mbeg mcmd mcmM mpl msz mwr mlin mliM) s.heap.size = A at hD hB ⊢
  have hA : ∀ q : Nat, s.heap.size ≤ q → A q := fun q h => by rw [← hAe]; exact Or.inr h
  have hS : va_S A s.heap s.heap [] := va_S.rf
  have hl := lv_entry ([.ref q0]) (n := 1) (Nat.le_of_ble_eq_true rfl)
  rw [lg_entry_eq]
  generalize (lg_sl ([.ref q0]) ++ List.replicate (1 - (lg_sl ([.ref q0])).length) Slot.unset).toArray = ls at hl ⊢
  have hl : lv_has ls 1 [(0, .ref q0)] := hl
  unfold F_X11_here at hF
  refine lv_aload_n hx hb dX11_here_0 rfl (lv_at hl 0 rfl) ?_
  refine va_get (D := gD g) (ci := 7) (v := .int mpl) (C := RX11) (T := TX11) (N := 25) hx hb hts inX11 hown hK hP 0 rfl rfl 20 (by decide) (hts _ mU_1264) (fun _ h9 => h9) rfl dX11_here_1 ?_
  refine lv_aload_n hx hb dX11_here_4 rfl (lv_at hl 0 rfl) ?_
  refine va_get (D := gD g) (ci := 7) (v := .int msz) (C := RX11) (T := TX11) (N := 25) hx hb hts inX11 hown hK hP 0 rfl rfl 21 (by decide) (hts _ mU_1265) (fun _ h9 => h9) rfl dX11_here_5 ?_
  refine lv_icmp_ge (tgt := 23) hx hb dX11_here_8 (by decide) (fun zc1 => ?_) (fun zc1 => ?_)
  · have hF := z_pos hF zc1
    refine lv_iconst (v := (-1)) hx hb dX11_here_23 (by decide) ?_
    have ho := (Option.some.inj hF).symm
    exact W.iret (v := (-1)) hx hb hr (fun t ht hW => ⟨⟨(-1), (), rfl, ho, z_end ht hP⟩, hS.F ht⟩) hS.2.2 dX11_here_24
  · have hF := z_neg hF zc1
    refine lv_aload_n hx hb dX11_here_11 rfl (lv_at hl 0 rfl) ?_
    refine va_get (D := gD g) (ci := 7) (v := .ref q5) (C := RX11) (T := TX11) (N := 25) hx hb hts inX11 hown hK hP 0 rfl rfl 9 (by decide) (hts _ mU_1253) (fun _ h9 => h9) rfl dX11_here_12 ?_
    refine lv_aload_n hx hb dX11_here_15 rfl (lv_at hl 0 rfl) ?_
    refine va_get (D := gD g) (ci := 7) (v := .int mpl) (C := RX11) (T := TX11) (N := 25) hx hb hts inX11 hown hK hP 0 rfl rfl 20 (by decide) (hts _ mU_1264) (fun _ h9 => h9) rfl dX11_here_16 ?_
    obtain ⟨zg2, hF⟩ := z_grd hF
    refine va_iald hx hb hK hP 5 1 rfl rfl zg2 dX11_here_19 ?_
    refine lv_goto (tgt := 24) hx hb dX11_here_20 (by decide) ?_
    have ho := (Option.some.inj hF).symm
    exact W.iret (v := (minp (Int32.toNatClampNeg mpl))) hx hb hr (fun t ht hW => ⟨⟨(minp (Int32.toNatClampNeg mpl)), (), rfl, ho, z_end ht hP⟩, hS.F ht⟩) hS.2.2 dX11_here_24
abbrev w_X11_expects : List Cond := .code yX11_expects cX11_expects 2 none :: wU
abbrev r_X11_expects : Room := { frames := 1, cells := 0, slots := 0, locals := 20 }
abbrev q_X11_expects (g : GG) (q0 q1 q2 q3 q4 q5 q6 q7 q8 q9 q10 q11 q12 : Nat) (mm : Nat → Int64) (masd : Nat → Int64) (msav : Nat → Int64) (misS : Int32) (mpst : Nat → Int64) (mchg : Int32) (merr : Int32) (mfai : Int32) (mthr : Int32) (minp : Nat → Int32) (minM : Int32) (mUp : Nat → Int32) (mcar : Nat → Int32) (mcam : Nat → Int32) (mahd : Int32) (magn : Int32) (mltr : Nat → Int32) (mbeg : Nat → Int32) (mcmd : Nat → Int32) (mcmM : Int32) (mpl : Int32) (msz : Int32) (mwr : Int32) (mlin : Nat → Int32) (mliM : Int32) (o : Int32 × Int32) (A : Nat → Prop) := va_Qv (fun (u : Int32 × Int32) => o = u) (fun u t => va_P (gD g) zCl (wModel g q0 q1 q2 q3 q4 q5 q6 q7 q8 q9 q10 q11 q12 mm masd msav misS mpst mchg merr mfai mthr minp minM mUp mcar mcam mahd magn mltr mbeg mcmd mcmM u.1 msz u.2 mlin mliM) t.heap) A
set_option maxHeartbeats 4000000 in
set_option maxRecDepth 100000 in
theorem c_X11_expects (l : Launch) (g : GG) (q0 q1 q2 q3 q4 q5 q6 q7 q8 q9 q10 q11 q12 : Nat) (mm : Nat → Int64) (masd : Nat → Int64) (msav : Nat → Int64) (misS : Int32) (mpst : Nat → Int64) (mchg : Int32) (merr : Int32) (mfai : Int32) (mthr : Int32) (minp : Nat → Int32) (minM : Int32) (mUp : Nat → Int32) (mcar : Nat → Int32) (mcam : Nat → Int32) (mahd : Int32) (magn : Int32) (mltr : Nat → Int32) (mbeg : Nat → Int32) (mcmd : Nat → Int32) (mcmM : Int32) (mpl : Int32) (msz : Int32) (mwr : Int32) (mlin : Nat → Int32) (mliM : Int32) (sz : Nat) (p1 : Int32) (o : Int32 × Int32) (hF : F_X11_expects minp mpl msz mwr p1 = some o) : Met l yX11_expects w_X11_expects r_X11_expects (va_Pc [.ref q0, .int p1] (zP g (wModel g q0 q1 q2 q3 q4 q5 q6 q7 q8 q9 q10 q11 q12 mm masd msav misS mpst mchg merr mfai mthr minp minM mUp mcar mcam mahd magn mltr mbeg mcmd mcmM mpl msz mwr mlin mliM) sz)) (q_X11_expects g q0 q1 q2 q3 q4 q5 q6 q7 q8 q9 q10 q11 q12 mm masd msav misS mpst mchg merr mfai mthr minp minM mUp mcar mcam mahd magn mltr mbeg mcmd mcmM mpl msz mwr mlin mliM o (va_A (wModel g q0 q1 q2 q3 q4 q5 q6 q7 q8 q9 q10 q11 q12 mm masd msav misS mpst mchg merr mfai mthr minp minM mUp mcar mcam mahd magn mltr mbeg mcmd mcmM mpl msz mwr mlin mliM) sz)) 0 0 (va_A (wModel g q0 q1 q2 q3 q4 q5 q6 q7 q8 q9 q10 q11 q12 mm masd msav misS mpst mchg merr mfai mthr minp minM mUp mcar mcam mahd magn mltr mbeg mcmd mcmM mpl msz mwr mlin mliM) sz) := by
  refine Met.ofW (cc := cX11_expects) (maxL := 2) (ret := none) (by decide) rfl ?_
  intro p e s m args below meth c s₁ B hml hv
  obtain ⟨rfl, rfl, hP, hK, hD0, hB⟩ := hv
  have hx := B.exec
  have hb := B.bytes
  have hr := B.returns
  have hts : ∀ w ∈ wU, w.before _ s = true := fun w h => atoms_spec (ws := w_X11_expects) B.pre w (List.mem_cons_of_mem _ h)
  have hown : s.vm.findClass RX11 = some m.cls := findClass_of_methodNamed B.named
  have hlocks := B.notSynchronized
  have hD := hD0.self (sz := s.heap.size)
  generalize hAe : va_A (wModel g q0 q1 q2 q3 q4 q5 q6 q7 q8 q9 q10 q11 q12 mm masd msav misS mpst mchg merr mfai mthr minp minM mUp mcar mcam mahd magn mltr mbeg mcmd mcmM mpl msz mwr mlin mliM) s.heap.size = A at hD hB ⊢
  have hA : ∀ q : Nat, s.heap.size ≤ q → A q := fun q h => by rw [← hAe]; exact Or.inr h
  have hS : va_S A s.heap s.heap [] := va_S.rf
  have hl := lv_entry ([.ref q0, .int p1]) (n := 2) (Nat.le_of_ble_eq_true rfl)
  rw [lg_entry_eq]
  generalize (lg_sl ([.ref q0, .int p1]) ++ List.replicate (2 - (lg_sl ([.ref q0, .int p1])).length) Slot.unset).toArray = ls at hl ⊢
  have hl : lv_has ls 2 [(0, .ref q0), (1, .int p1)] := hl
  unfold F_X11_expects at hF
  have K21 : ∀ (_ : Unit) (mpl : Int32) (mwr : Int32) (y1 : Int32), F_X11_expects_21 minp mpl msz mwr y1 = some o → ∀ (H : Heap) (locs : List Loc) (ls : Array Slot), lv_has ls 2 [(0, .ref q0)] → va_P (gD g) zCl (wModel g q0 q1 q2 q3 q4 q5 q6 q7 q8 q9 q10 q11 q12 mm masd msav misS mpst mchg merr mfai mthr minp minM mUp mcar mcam mahd magn mltr mbeg mcmd mcmM mpl msz mwr mlin mliM) H → va_D A (wModel g q0 q1 q2 q3 q4 q5 q6 q7 q8 q9 q10 q11 q12 mm masd msav misS mpst mchg merr mfai mthr minp minM mUp mcar mcam mahd magn mltr mbeg mcmd mcmM mpl msz mwr mlin mliM) → va_S A s.heap H locs → W p l e (headSpec w_X11_expects r_X11_expects).room s m ([.ref q0, .int p1] : List Value).toArray below meth c H locs 0 0 (MQ below (q_X11_expects g q0 q1 q2 q3 q4 q5 q6 q7 q8 q9 q10 q11 q12 mm masd msav misS mpst mchg merr mfai mthr minp minM mUp mcar mcam mahd magn mltr mbeg mcmd mcmM mpl msz mwr mlin mliM o A) ([.ref q0, .int p1] : List Value).toArray s 0 0 A) (F0 m 21 ls [.int y1, .ref q0]) := by
    intro _ mpl mwr y1 hF H locs ls hl hP hD hS
    unfold F_X11_expects_21 at hF
    obtain ⟨zg1, hF⟩ := z_grd hF
    refine va_put (D := gD g) (ci := 7) (v := .int y1) (ty := .boolean) (C := RX11) (T := TX11) (N := 25) hx hb hts inX11 tyX11 tyX11_ok nmX11 hown hK hP hD hS 0 rfl rfl 22 (by decide) (hts _ mU_1266) (fun _ h9 => h9) rfl (by decide +kernel) (z_narb (Classical.not_not.mp zg1)).1 (z_narb (Classical.not_not.mp zg1)).2 (Nat.le_of_ble_eq_true rfl) dX11_expects_21 (fun H locs hP hD hS => ?_)
    have hP : va_P (gD g) zCl (wModel g q0 q1 q2 q3 q4 q5 q6 q7 q8 q9 q10 q11 q12 mm masd msav misS mpst mchg merr mfai mthr minp minM mUp mcar mcam mahd magn mltr mbeg mcmd mcmM mpl msz y1 mlin mliM) H := hP
    have hD : va_D A (wModel g q0 q1 q2 q3 q4 q5 q6 q7 q8 q9 q10 q11 q12 mm masd msav misS mpst mchg merr mfai mthr minp minM mUp mcar mcam mahd magn mltr mbeg mcmd mcmM mpl msz y1 mlin mliM) := hD
    refine lv_aload_n hx hb dX11_expects_24 rfl (lv_at hl 0 rfl) ?_
    refine lv_dup hx hb dX11_expects_25 rfl ?_
    refine va_get (D := gD g) (ci := 7) (v := .int mpl) (C := RX11) (T := TX11) (N := 25) hx hb hts inX11 hown hK hP 0 rfl rfl 20 (by decide) (hts _ mU_1264) (fun _ h9 => h9) rfl dX11_expects_26 ?_
    refine lv_aload_n hx hb dX11_expects_29 rfl (lv_at hl 0 rfl) ?_
    refine va_get (D := gD g) (ci := 7) (v := .int y1) (C := RX11) (T := TX11) (N := 25) hx hb hts inX11 hown hK hP 0 rfl rfl 22 (by decide) (hts _ mU_1266) (fun _ h9 => h9) rfl dX11_expects_30 ?_
    refine lv_if_eq (tgt := 40) hx hb dX11_expects_33 (by decide) (fun zc2 => ?_) (fun zc2 => ?_)
    · have hF := z_pos hF zc2
      refine lv_iconst (v := 1) hx hb dX11_expects_40 (by decide) ?_
      refine lv_iadd hx hb dX11_expects_41 ?_
      refine va_put (D := gD g) (ci := 7) (v := .int (mpl + 1)) (ty := .int) (C := RX11) (T := TX11) (N := 25) hx hb hts inX11 tyX11 tyX11_ok nmX11 hown hK hP hD hS 0 rfl rfl 20 (by decide) (hts _ mU_1264) (fun _ h9 => h9) rfl (by decide +kernel) rfl rfl (Nat.le_of_ble_eq_true rfl) dX11_expects_42 (fun H locs hP hD hS => ?_)
      have hP : va_P (gD g) zCl (wModel g q0 q1 q2 q3 q4 q5 q6 q7 q8 q9 q10 q11 q12 mm masd msav misS mpst mchg merr mfai mthr minp minM mUp mcar mcam mahd magn mltr mbeg mcmd mcmM (mpl + 1) msz y1 mlin mliM) H := hP
      have hD : va_D A (wModel g q0 q1 q2 q3 q4 q5 q6 q7 q8 q9 q10 q11 q12 mm masd msav misS mpst mchg merr mfai mthr minp minM mUp mcar mcam mahd magn mltr mbeg mcmd mcmM (mpl + 1) msz y1 mlin mliM) := hD
      have ho := (Option.some.inj hF).symm
      exact W.vret hx hb hr (fun t ht hW => ⟨⟨((mpl + 1), y1), rfl, ho, z_end ht hP⟩, hS.F ht⟩) hS.2.2 dX11_expects_45
    · have hF := z_neg hF zc2
      refine lv_iconst (v := 0) hx hb dX11_expects_36 (by decide) ?_
      refine lv_goto (tgt := 41) hx hb dX11_expects_37 (by decide) ?_
      refine lv_iadd hx hb dX11_expects_41 ?_
      refine va_put (D := gD g) (ci := 7) (v := .int (mpl + 0)) (ty := .int) (C := RX11) (T := TX11) (N := 25) hx hb hts inX11 tyX11 tyX11_ok nmX11 hown hK hP hD hS 0 rfl rfl 20 (by decide) (hts _ mU_1264) (fun _ h9 => h9) rfl (by decide +kernel) rfl rfl (Nat.le_of_ble_eq_true rfl) dX11_expects_42 (fun H locs hP hD hS => ?_)
      have hP : va_P (gD g) zCl (wModel g q0 q1 q2 q3 q4 q5 q6 q7 q8 q9 q10 q11 q12 mm masd msav misS mpst mchg merr mfai mthr minp minM mUp mcar mcam mahd magn mltr mbeg mcmd mcmM (mpl + 0) msz y1 mlin mliM) H := hP
      have hD : va_D A (wModel g q0 q1 q2 q3 q4 q5 q6 q7 q8 q9 q10 q11 q12 mm masd msav misS mpst mchg merr mfai mthr minp minM mUp mcar mcam mahd magn mltr mbeg mcmd mcmM (mpl + 0) msz y1 mlin mliM) := hD
      have ho := (Option.some.inj hF).symm
      exact W.vret hx hb hr (fun t ht hW => ⟨⟨((mpl + 0), y1), rfl, ho, z_end ht hP⟩, hS.F ht⟩) hS.2.2 dX11_expects_45
  refine lv_aload_n hx hb dX11_expects_0 rfl (lv_at hl 0 rfl) ?_
  refine lv_aload_n hx hb dX11_expects_1 rfl (lv_at hl 0 rfl) ?_
  refine va_get (D := gD g) (ci := 7) (v := .int mwr) (C := RX11) (T := TX11) (N := 25) hx hb hts inX11 hown hK hP 0 rfl rfl 22 (by decide) (hts _ mU_1266) (fun _ h9 => h9) rfl dX11_expects_2 ?_
  refine lv_if_ne (tgt := 16) hx hb dX11_expects_5 (by decide) (fun zc3 => ?_) (fun zc3 => ?_)
  · have hF := z_neg hF zc3
    refine lv_iconst (v := 1) hx hb dX11_expects_16 (by decide) ?_
    refine lv_goto (tgt := 21) hx hb dX11_expects_17 (by decide) ?_
    exact K21 () mpl mwr 1 hF _ _ _ (lv_sub hl [0] rfl) hP hD hS
  · have hF := z_pos hF zc3
    refine lv_aload_n hx hb dX11_expects_8 rfl (lv_at hl 0 rfl) ?_
    obtain ⟨zo4, hzo4, hF⟩ := z_bind hF
    refine z_calliE (fun (_ : Unit) => (wModel g q0 q1 q2 q3 q4 q5 q6 q7 q8 q9 q10 q11 q12 mm masd msav misS mpst mchg merr mfai mthr minp minM mUp mcar mcam mahd magn mltr mbeg mcmd mcmM mpl msz mwr mlin mliM)) (va_runV (As := []) (rest := [.ref q0]) ⟨hx, hb, hml, hown, hts⟩ (c_X11_here l g q0 q1 q2 q3 q4 q5 q6 q7 q8 q9 q10 q11 q12 mm masd msav misS mpst mchg merr mfai mthr minp minM mUp mcar mcam mahd magn mltr mbeg mcmd mcmM mpl msz mwr mlin mliM _ _ hzo4) (cwV 0 hts (gdV mU_1632 mU_1634 mU_55 mU_75 mU_1635) rfl rfl rfl (by decide +kernel) ⟨Nat.le_of_ble_eq_true rfl, Nat.le_of_ble_eq_true rfl⟩) ⟨z_blind _ _ _ _, va_recv hK hP (ci := 7) (q0 := 0) rfl rfl, fun U hU hW => z_preE hP hD hK hB hS hA hU hW⟩ rfl rfl hl.1 rfl (lv_room (Nat.le_of_ble_eq_true rfl)) dX11_expects_9 ⟨Nat.le_of_ble_eq_true rfl, Nat.le_of_ble_eq_true rfl⟩) hD hS hA (fun _ => rfl) (fun r u H locs hw hP hD hS => ?_)
    subst hw
    have hP : va_P (gD g) zCl (wModel g q0 q1 q2 q3 q4 q5 q6 q7 q8 q9 q10 q11 q12 mm masd msav misS mpst mchg merr mfai mthr minp minM mUp mcar mcam mahd magn mltr mbeg mcmd mcmM mpl msz mwr mlin mliM) H := hP
    have hD : va_D A (wModel g q0 q1 q2 q3 q4 q5 q6 q7 q8 q9 q10 q11 q12 mm masd msav misS mpst mchg merr mfai mthr minp minM mUp mcar mcam mahd magn mltr mbeg mcmd mcmM mpl msz mwr mlin mliM) := hD
    refine lv_iload_n hx hb dX11_expects_12 rfl (lv_at hl 1 rfl) ?_
    refine lv_icmp_eq (tgt := 20) hx hb dX11_expects_13 (by decide) (fun zc5 => ?_) (fun zc5 => ?_)
    · have hF := z_pos hF zc5
      refine lv_iconst (v := 0) hx hb dX11_expects_20 (by decide) ?_
      exact K21 () mpl mwr 0 hF _ _ _ (lv_sub hl [0] rfl) hP hD hS
    · have hF := z_neg hF zc5
      refine lv_iconst (v := 1) hx hb dX11_expects_16 (by decide) ?_
      refine lv_goto (tgt := 21) hx hb dX11_expects_17 (by decide) ?_
      exact K21 () mpl mwr 1 hF _ _ _ (lv_sub hl [0] rfl) hP hD hS
abbrev w_X11_digitHere : List Cond := .code yX11_digitHere cX11_digitHere 2 (some .int) :: wU
abbrev r_X11_digitHere : Room := { frames := 1, cells := 0, slots := 0, locals := 25 }
abbrev q_X11_digitHere (g : GG) (q0 q1 q2 q3 q4 q5 q6 q7 q8 q9 q10 q11 q12 : Nat) (mm : Nat → Int64) (masd : Nat → Int64) (msav : Nat → Int64) (misS : Int32) (mpst : Nat → Int64) (mchg : Int32) (merr : Int32) (mfai : Int32) (mthr : Int32) (minp : Nat → Int32) (minM : Int32) (mUp : Nat → Int32) (mcar : Nat → Int32) (mcam : Nat → Int32) (mahd : Int32) (magn : Int32) (mltr : Nat → Int32) (mbeg : Nat → Int32) (mcmd : Nat → Int32) (mcmM : Int32) (mpl : Int32) (msz : Int32) (mwr : Int32) (mlin : Nat → Int32) (mliM : Int32) (o : Int32 × Int32 × Int32) (A : Nat → Prop) := va_Qi (fun (r : Int32) (u : Int32 × Int32) => o.1 = r ∧ o.2 = u) (fun u t => va_P (gD g) zCl (wModel g q0 q1 q2 q3 q4 q5 q6 q7 q8 q9 q10 q11 q12 mm masd msav misS mpst mchg merr mfai mthr minp minM mUp mcar mcam mahd magn mltr mbeg mcmd mcmM u.1 msz u.2 mlin mliM) t.heap) A
set_option maxHeartbeats 4000000 in
set_option maxRecDepth 100000 in
theorem c_X11_digitHere (l : Launch) (g : GG) (q0 q1 q2 q3 q4 q5 q6 q7 q8 q9 q10 q11 q12 : Nat) (mm : Nat → Int64) (masd : Nat → Int64) (msav : Nat → Int64) (misS : Int32) (mpst : Nat → Int64) (mchg : Int32) (merr : Int32) (mfai : Int32) (mthr : Int32) (minp : Nat → Int32) (minM : Int32) (mUp : Nat → Int32) (mcar : Nat → Int32) (mcam : Nat → Int32) (mahd : Int32) (magn : Int32) (mltr : Nat → Int32) (mbeg : Nat → Int32) (mcmd : Nat → Int32) (mcmM : Int32) (mpl : Int32) (msz : Int32) (mwr : Int32) (mlin : Nat → Int32) (mliM : Int32) (sz : Nat) (o : Int32 × Int32 × Int32) (hF : F_X11_digitHere minp mpl msz mwr = some o) : Met l yX11_digitHere w_X11_digitHere r_X11_digitHere (va_Pc [.ref q0] (zP g (wModel g q0 q1 q2 q3 q4 q5 q6 q7 q8 q9 q10 q11 q12 mm masd msav misS mpst mchg merr mfai mthr minp minM mUp mcar mcam mahd magn mltr mbeg mcmd mcmM mpl msz mwr mlin mliM) sz)) (q_X11_digitHere g q0 q1 q2 q3 q4 q5 q6 q7 q8 q9 q10 q11 q12 mm masd msav misS mpst mchg merr mfai mthr minp minM mUp mcar mcam mahd magn mltr mbeg mcmd mcmM mpl msz mwr mlin mliM o (va_A (wModel g q0 q1 q2 q3 q4 q5 q6 q7 q8 q9 q10 q11 q12 mm masd msav misS mpst mchg merr mfai mthr minp minM mUp mcar mcam mahd magn mltr mbeg mcmd mcmM mpl msz mwr mlin mliM) sz)) 0 0 (va_A (wModel g q0 q1 q2 q3 q4 q5 q6 q7 q8 q9 q10 q11 q12 mm masd msav misS mpst mchg merr mfai mthr minp minM mUp mcar mcam mahd magn mltr mbeg mcmd mcmM mpl msz mwr mlin mliM) sz) := by
  refine Met.ofW (cc := cX11_digitHere) (maxL := 2) (ret := (some .int)) (by decide) rfl ?_
  intro p e s m args below meth c s₁ B hml hv
  obtain ⟨rfl, rfl, hP, hK, hD0, hB⟩ := hv
  have hx := B.exec
  have hb := B.bytes
  have hr := B.returns
  have hts : ∀ w ∈ wU, w.before _ s = true := fun w h => atoms_spec (ws := w_X11_digitHere) B.pre w (List.mem_cons_of_mem _ h)
  have hown : s.vm.findClass RX11 = some m.cls := findClass_of_methodNamed B.named
  have hlocks := B.notSynchronized
  have hD := hD0.self (sz := s.heap.size)
  generalize hAe : va_A (wModel g q0 q1 q2 q3 q4 q5 q6 q7 q8 q9 q10 q11 q12 mm masd msav misS mpst mchg merr mfai mthr minp minM mUp mcar mcam mahd magn mltr mbeg mcmd mcmM mpl msz mwr mlin mliM) s.heap.size = A at hD hB ⊢
  have hA : ∀ q : Nat, s.heap.size ≤ q → A q := fun q h => by rw [← hAe]; exact Or.inr h
  have hS : va_S A s.heap s.heap [] := va_S.rf
  have hl := lv_entry ([.ref q0]) (n := 2) (Nat.le_of_ble_eq_true rfl)
  rw [lg_entry_eq]
  generalize (lg_sl ([.ref q0]) ++ List.replicate (2 - (lg_sl ([.ref q0])).length) Slot.unset).toArray = ls at hl ⊢
  have hl : lv_has ls 2 [(0, .ref q0)] := hl
  unfold F_X11_digitHere at hF
  have K51 : ∀ (_ : Unit) (mpl : Int32) (mwr : Int32) (y0 : Int32), F_X11_digitHere_51 minp mpl msz mwr y0 = some o → ∀ (H : Heap) (locs : List Loc) (ls : Array Slot), lv_has ls 2 [(0, .ref q0)] → va_P (gD g) zCl (wModel g q0 q1 q2 q3 q4 q5 q6 q7 q8 q9 q10 q11 q12 mm masd msav misS mpst mchg merr mfai mthr minp minM mUp mcar mcam mahd magn mltr mbeg mcmd mcmM mpl msz mwr mlin mliM) H → va_D A (wModel g q0 q1 q2 q3 q4 q5 q6 q7 q8 q9 q10 q11 q12 mm masd msav misS mpst mchg merr mfai mthr minp minM mUp mcar mcam mahd magn mltr mbeg mcmd mcmM mpl msz mwr mlin mliM) → va_S A s.heap H locs → W p l e (headSpec w_X11_digitHere r_X11_digitHere).room s m ([.ref q0] : List Value).toArray below meth c H locs 0 0 (MQ below (q_X11_digitHere g q0 q1 q2 q3 q4 q5 q6 q7 q8 q9 q10 q11 q12 mm masd msav misS mpst mchg merr mfai mthr minp minM mUp mcar mcam mahd magn mltr mbeg mcmd mcmM mpl msz mwr mlin mliM o A) ([.ref q0] : List Value).toArray s 0 0 A) (F0 m 51 ls [.int y0]) := by
    intro _ mpl mwr y0 hF H locs ls hl hP hD hS
    unfold F_X11_digitHere_51 at hF
    refine lv_istore_n (lv' := [(1, .int y0), (0, .ref q0)]) hx hb dX11_digitHere_51 rfl hl (by decide) rfl (fun ls hl => ?_)
    refine lv_aload_n hx hb dX11_digitHere_52 rfl (lv_at hl 1 rfl) ?_
    refine lv_dup hx hb dX11_digitHere_53 rfl ?_
    refine va_get (D := gD g) (ci := 7) (v := .int mpl) (C := RX11) (T := TX11) (N := 25) hx hb hts inX11 hown hK hP 0 rfl rfl 20 (by decide) (hts _ mU_1264) (fun _ h9 => h9) rfl dX11_digitHere_54 ?_
    refine lv_aload_n hx hb dX11_digitHere_57 rfl (lv_at hl 1 rfl) ?_
    refine va_get (D := gD g) (ci := 7) (v := .int mwr) (C := RX11) (T := TX11) (N := 25) hx hb hts inX11 hown hK hP 0 rfl rfl 22 (by decide) (hts _ mU_1266) (fun _ h9 => h9) rfl dX11_digitHere_58 ?_
    refine lv_if_eq (tgt := 68) hx hb dX11_digitHere_61 (by decide) (fun zc1 => ?_) (fun zc1 => ?_)
    · have hF := z_pos hF zc1
      refine lv_iconst (v := 1) hx hb dX11_digitHere_68 (by decide) ?_
      refine lv_iadd hx hb dX11_digitHere_69 ?_
      refine va_put (D := gD g) (ci := 7) (v := .int (mpl + 1)) (ty := .int) (C := RX11) (T := TX11) (N := 25) hx hb hts inX11 tyX11 tyX11_ok nmX11 hown hK hP hD hS 0 rfl rfl 20 (by decide) (hts _ mU_1264) (fun _ h9 => h9) rfl (by decide +kernel) rfl rfl (Nat.le_of_ble_eq_true rfl) dX11_digitHere_70 (fun H locs hP hD hS => ?_)
      have hP : va_P (gD g) zCl (wModel g q0 q1 q2 q3 q4 q5 q6 q7 q8 q9 q10 q11 q12 mm masd msav misS mpst mchg merr mfai mthr minp minM mUp mcar mcam mahd magn mltr mbeg mcmd mcmM (mpl + 1) msz mwr mlin mliM) H := hP
      have hD : va_D A (wModel g q0 q1 q2 q3 q4 q5 q6 q7 q8 q9 q10 q11 q12 mm masd msav misS mpst mchg merr mfai mthr minp minM mUp mcar mcam mahd magn mltr mbeg mcmd mcmM (mpl + 1) msz mwr mlin mliM) := hD
      refine lv_iload_n hx hb dX11_digitHere_73 rfl (lv_at hl 0 rfl) ?_
      have ho := (Option.some.inj hF).symm
      exact W.iret (v := y0) hx hb hr (fun t ht hW => ⟨⟨y0, ((mpl + 1), mwr), rfl, ⟨by rw [ho], by rw [ho]⟩, z_end ht hP⟩, hS.F ht⟩) hS.2.2 dX11_digitHere_74
    · have hF := z_neg hF zc1
      refine lv_iconst (v := 0) hx hb dX11_digitHere_64 (by decide) ?_
      refine lv_goto (tgt := 69) hx hb dX11_digitHere_65 (by decide) ?_
      refine lv_iadd hx hb dX11_digitHere_69 ?_
      refine va_put (D := gD g) (ci := 7) (v := .int (mpl + 0)) (ty := .int) (C := RX11) (T := TX11) (N := 25) hx hb hts inX11 tyX11 tyX11_ok nmX11 hown hK hP hD hS 0 rfl rfl 20 (by decide) (hts _ mU_1264) (fun _ h9 => h9) rfl (by decide +kernel) rfl rfl (Nat.le_of_ble_eq_true rfl) dX11_digitHere_70 (fun H locs hP hD hS => ?_)
      have hP : va_P (gD g) zCl (wModel g q0 q1 q2 q3 q4 q5 q6 q7 q8 q9 q10 q11 q12 mm masd msav misS mpst mchg merr mfai mthr minp minM mUp mcar mcam mahd magn mltr mbeg mcmd mcmM (mpl + 0) msz mwr mlin mliM) H := hP
      have hD : va_D A (wModel g q0 q1 q2 q3 q4 q5 q6 q7 q8 q9 q10 q11 q12 mm masd msav misS mpst mchg merr mfai mthr minp minM mUp mcar mcam mahd magn mltr mbeg mcmd mcmM (mpl + 0) msz mwr mlin mliM) := hD
      refine lv_iload_n hx hb dX11_digitHere_73 rfl (lv_at hl 0 rfl) ?_
      have ho := (Option.some.inj hF).symm
      exact W.iret (v := y0) hx hb hr (fun t ht hW => ⟨⟨y0, ((mpl + 0), mwr), rfl, ⟨by rw [ho], by rw [ho]⟩, z_end ht hP⟩, hS.F ht⟩) hS.2.2 dX11_digitHere_74
  have K25 : ∀ (_ : Unit) (mpl : Int32) (mwr : Int32), F_X11_digitHere_25 minp mpl msz mwr = some o → ∀ (H : Heap) (locs : List Loc) (ls : Array Slot), lv_has ls 2 [(0, .ref q0)] → va_P (gD g) zCl (wModel g q0 q1 q2 q3 q4 q5 q6 q7 q8 q9 q10 q11 q12 mm masd msav misS mpst mchg merr mfai mthr minp minM mUp mcar mcam mahd magn mltr mbeg mcmd mcmM mpl msz mwr mlin mliM) H → va_D A (wModel g q0 q1 q2 q3 q4 q5 q6 q7 q8 q9 q10 q11 q12 mm masd msav misS mpst mchg merr mfai mthr minp minM mUp mcar mcam mahd magn mltr mbeg mcmd mcmM mpl msz mwr mlin mliM) → va_S A s.heap H locs → W p l e (headSpec w_X11_digitHere r_X11_digitHere).room s m ([.ref q0] : List Value).toArray below meth c H locs 0 0 (MQ below (q_X11_digitHere g q0 q1 q2 q3 q4 q5 q6 q7 q8 q9 q10 q11 q12 mm masd msav misS mpst mchg merr mfai mthr minp minM mUp mcar mcam mahd magn mltr mbeg mcmd mcmM mpl msz mwr mlin mliM o A) ([.ref q0] : List Value).toArray s 0 0 A) (F0 m 25 ls [.ref q0]) := by
    intro _ mpl mwr hF H locs ls hl hP hD hS
    unfold F_X11_digitHere_25 at hF
    refine lv_iconst (v := 1) hx hb dX11_digitHere_25 (by decide) ?_
    refine lv_goto (tgt := 30) hx hb dX11_digitHere_26 (by decide) ?_
    refine va_put (D := gD g) (ci := 7) (v := .int 1) (ty := .boolean) (C := RX11) (T := TX11) (N := 25) hx hb hts inX11 tyX11 tyX11_ok nmX11 hown hK hP hD hS 0 rfl rfl 22 (by decide) (hts _ mU_1266) (fun _ h9 => h9) rfl (by decide +kernel) rfl rfl (Nat.le_of_ble_eq_true rfl) dX11_digitHere_30 (fun H locs hP hD hS => ?_)
    have hP : va_P (gD g) zCl (wModel g q0 q1 q2 q3 q4 q5 q6 q7 q8 q9 q10 q11 q12 mm masd msav misS mpst mchg merr mfai mthr minp minM mUp mcar mcam mahd magn mltr mbeg mcmd mcmM mpl msz 1 mlin mliM) H := hP
    have hD : va_D A (wModel g q0 q1 q2 q3 q4 q5 q6 q7 q8 q9 q10 q11 q12 mm masd msav misS mpst mchg merr mfai mthr minp minM mUp mcar mcam mahd magn mltr mbeg mcmd mcmM mpl msz 1 mlin mliM) := hD
    refine lv_aload_n hx hb dX11_digitHere_33 rfl (lv_at hl 0 rfl) ?_
    refine va_get (D := gD g) (ci := 7) (v := .int 1) (C := RX11) (T := TX11) (N := 25) hx hb hts inX11 hown hK hP 0 rfl rfl 22 (by decide) (hts _ mU_1266) (fun _ h9 => h9) rfl dX11_digitHere_34 ?_
    refine lv_if_eq (tgt := 44) hx hb dX11_digitHere_37 (by decide) (fun zc => absurd zc (by decide)) (fun _ => ?_)
    refine lv_iconst (v := 0) hx hb dX11_digitHere_40 (by decide) ?_
    refine lv_goto (tgt := 51) hx hb dX11_digitHere_41 (by decide) ?_
    exact K51 () mpl 1 0 hF _ _ _ (lv_sub hl [0] rfl) hP hD hS
  refine lv_aload_n hx hb dX11_digitHere_0 rfl (lv_at hl 0 rfl) ?_
  refine lv_aload_n hx hb dX11_digitHere_1 rfl (lv_at hl 0 rfl) ?_
  refine va_get (D := gD g) (ci := 7) (v := .int mwr) (C := RX11) (T := TX11) (N := 25) hx hb hts inX11 hown hK hP 0 rfl rfl 22 (by decide) (hts _ mU_1266) (fun _ h9 => h9) rfl dX11_digitHere_2 ?_
  refine lv_if_ne (tgt := 25) hx hb dX11_digitHere_5 (by decide) (fun zc2 => ?_) (fun zc2 => ?_)
  · have hF := z_neg hF zc2
    exact K25 () mpl mwr hF _ _ _ (lv_sub hl [0] rfl) hP hD hS
  · have hF := z_pos hF zc2
    refine lv_aload_n hx hb dX11_digitHere_8 rfl (lv_at hl 0 rfl) ?_
    obtain ⟨zo3, hzo3, hF⟩ := z_bind hF
    refine z_calliE (fun (_ : Unit) => (wModel g q0 q1 q2 q3 q4 q5 q6 q7 q8 q9 q10 q11 q12 mm masd msav misS mpst mchg merr mfai mthr minp minM mUp mcar mcam mahd magn mltr mbeg mcmd mcmM mpl msz mwr mlin mliM)) (va_runV (As := []) (rest := [.ref q0]) ⟨hx, hb, hml, hown, hts⟩ (c_X11_here l g q0 q1 q2 q3 q4 q5 q6 q7 q8 q9 q10 q11 q12 mm masd msav misS mpst mchg merr mfai mthr minp minM mUp mcar mcam mahd magn mltr mbeg mcmd mcmM mpl msz mwr mlin mliM _ _ hzo3) (cwV 0 hts (gdV mU_1632 mU_1634 mU_55 mU_75 mU_1635) rfl rfl rfl (by decide +kernel) ⟨Nat.le_of_ble_eq_true rfl, Nat.le_of_ble_eq_true rfl⟩) ⟨z_blind _ _ _ _, va_recv hK hP (ci := 7) (q0 := 0) rfl rfl, fun U hU hW => z_preE hP hD hK hB hS hA hU hW⟩ rfl rfl hl.1 rfl (lv_room (Nat.le_of_ble_eq_true rfl)) dX11_digitHere_9 ⟨Nat.le_of_ble_eq_true rfl, Nat.le_of_ble_eq_true rfl⟩) hD hS hA (fun _ => rfl) (fun r u H locs hw hP hD hS => ?_)
    subst hw
    have hP : va_P (gD g) zCl (wModel g q0 q1 q2 q3 q4 q5 q6 q7 q8 q9 q10 q11 q12 mm masd msav misS mpst mchg merr mfai mthr minp minM mUp mcar mcam mahd magn mltr mbeg mcmd mcmM mpl msz mwr mlin mliM) H := hP
    have hD : va_D A (wModel g q0 q1 q2 q3 q4 q5 q6 q7 q8 q9 q10 q11 q12 mm masd msav misS mpst mchg merr mfai mthr minp minM mUp mcar mcam mahd magn mltr mbeg mcmd mcmM mpl msz mwr mlin mliM) := hD
    refine lv_i2l (v := (Int32.toInt64 zo3)) hx hb dX11_digitHere_12 rfl ?_
    refine lv_ldc2 (v := 48) hx hb hown (hts _ mU_1636) dX11_digitHere_13 ?_
    refine lv_ldc2 (v := 57) hx hb hown (hts _ mU_1637) dX11_digitHere_16 ?_
    obtain ⟨zo4, hzo4, hF⟩ := z_bind hF
    refine z_calli (fun (_ : Unit) => []) [] (va_runS (As := [.long (Int32.toInt64 zo3), .long 48, .long 57]) (rest := [.ref q0]) ⟨hx, hb, hml, hown, hts⟩ (c_X11_in l g _ (Int32.toInt64 zo3) 48 57 _ hzo4) (va_cwS 3 hts (gdS mU_1341 mU_1342 mU_75 mU_1343) rfl rfl rfl (by decide +kernel) ⟨Nat.le_of_ble_eq_true rfl, Nat.le_of_ble_eq_true rfl⟩) ⟨z_blind _ _ _ _, fun U hU hW => z_pre [] hP hD hK hB hS hA rfl rfl hU hW⟩ rfl rfl hl.1 rfl (lv_room (Nat.le_of_ble_eq_true rfl)) dX11_digitHere_19 ⟨Nat.le_of_ble_eq_true rfl, Nat.le_of_ble_eq_true rfl⟩) hP hD hS hA rfl (fun _ => rfl) (fun r u H locs hw hP hD hS => ?_)
    subst hw
    have hP : va_P (gD g) zCl (wModel g q0 q1 q2 q3 q4 q5 q6 q7 q8 q9 q10 q11 q12 mm masd msav misS mpst mchg merr mfai mthr minp minM mUp mcar mcam mahd magn mltr mbeg mcmd mcmM mpl msz mwr mlin mliM) H := hP
    have hD : va_D A (wModel g q0 q1 q2 q3 q4 q5 q6 q7 q8 q9 q10 q11 q12 mm masd msav misS mpst mchg merr mfai mthr minp minM mUp mcar mcam mahd magn mltr mbeg mcmd mcmM mpl msz mwr mlin mliM) := hD
    refine lv_if_ne (tgt := 29) hx hb dX11_digitHere_22 (by decide) (fun zc5 => ?_) (fun zc5 => ?_)
    · have hF := z_neg hF zc5
      refine lv_iconst (v := 0) hx hb dX11_digitHere_29 (by decide) ?_
      refine va_put (D := gD g) (ci := 7) (v := .int 0) (ty := .boolean) (C := RX11) (T := TX11) (N := 25) hx hb hts inX11 tyX11 tyX11_ok nmX11 hown hK hP hD hS 0 rfl rfl 22 (by decide) (hts _ mU_1266) (fun _ h9 => h9) rfl (by decide +kernel) rfl rfl (Nat.le_of_ble_eq_true rfl) dX11_digitHere_30 (fun H locs hP hD hS => ?_)
      have hP : va_P (gD g) zCl (wModel g q0 q1 q2 q3 q4 q5 q6 q7 q8 q9 q10 q11 q12 mm masd msav misS mpst mchg merr mfai mthr minp minM mUp mcar mcam mahd magn mltr mbeg mcmd mcmM mpl msz 0 mlin mliM) H := hP
      have hD : va_D A (wModel g q0 q1 q2 q3 q4 q5 q6 q7 q8 q9 q10 q11 q12 mm masd msav misS mpst mchg merr mfai mthr minp minM mUp mcar mcam mahd magn mltr mbeg mcmd mcmM mpl msz 0 mlin mliM) := hD
      refine lv_aload_n hx hb dX11_digitHere_33 rfl (lv_at hl 0 rfl) ?_
      refine va_get (D := gD g) (ci := 7) (v := .int 0) (C := RX11) (T := TX11) (N := 25) hx hb hts inX11 hown hK hP 0 rfl rfl 22 (by decide) (hts _ mU_1266) (fun _ h9 => h9) rfl dX11_digitHere_34 ?_
      refine lv_if_eq (tgt := 44) hx hb dX11_digitHere_37 (by decide) (fun _ => ?_) (fun zc => absurd zc (by decide))
      refine lv_aload_n hx hb dX11_digitHere_44 rfl (lv_at hl 0 rfl) ?_
      obtain ⟨zo6, hzo6, hF⟩ := z_bind hF
      refine z_calliE (fun (_ : Unit) => (wModel g q0 q1 q2 q3 q4 q5 q6 q7 q8 q9 q10 q11 q12 mm masd msav misS mpst mchg merr mfai mthr minp minM mUp mcar mcam mahd magn mltr mbeg mcmd mcmM mpl msz 0 mlin mliM)) (va_runV (As := []) (rest := []) ⟨hx, hb, hml, hown, hts⟩ (c_X11_here l g q0 q1 q2 q3 q4 q5 q6 q7 q8 q9 q10 q11 q12 mm masd msav misS mpst mchg merr mfai mthr minp minM mUp mcar mcam mahd magn mltr mbeg mcmd mcmM mpl msz 0 mlin mliM _ _ hzo6) (cwV 0 hts (gdV mU_1632 mU_1634 mU_55 mU_75 mU_1635) rfl rfl rfl (by decide +kernel) ⟨Nat.le_of_ble_eq_true rfl, Nat.le_of_ble_eq_true rfl⟩) ⟨z_blind _ _ _ _, va_recv hK hP (ci := 7) (q0 := 0) rfl rfl, fun U hU hW => z_preE hP hD hK hB hS hA hU hW⟩ rfl rfl hl.1 rfl (lv_room (Nat.le_of_ble_eq_true rfl)) dX11_digitHere_45 ⟨Nat.le_of_ble_eq_true rfl, Nat.le_of_ble_eq_true rfl⟩) hD hS hA (fun _ => rfl) (fun r u H locs hw hP hD hS => ?_)
      subst hw
      have hP : va_P (gD g) zCl (wModel g q0 q1 q2 q3 q4 q5 q6 q7 q8 q9 q10 q11 q12 mm masd msav misS mpst mchg merr mfai mthr minp minM mUp mcar mcam mahd magn mltr mbeg mcmd mcmM mpl msz 0 mlin mliM) H := hP
      have hD : va_D A (wModel g q0 q1 q2 q3 q4 q5 q6 q7 q8 q9 q10 q11 q12 mm masd msav misS mpst mchg merr mfai mthr minp minM mUp mcar mcam mahd magn mltr mbeg mcmd mcmM mpl msz 0 mlin mliM) := hD
      refine lv_bipush (v := 48) hx hb dX11_digitHere_48 (by decide) ?_
      refine lv_isub hx hb dX11_digitHere_50 ?_
      exact K51 () mpl 0 (zo6 - 48) hF _ _ _ (lv_sub hl [0] rfl) hP hD hS
    · have hF := z_pos hF zc5
      exact K25 () mpl mwr hF _ _ _ (lv_sub hl [0] rfl) hP hD hS
abbrev w_X11_number : List Cond := .code yX11_number cX11_number 3 (some .int) :: wU
abbrev r_X11_number : Room := { frames := 2, cells := 0, slots := 0, locals := 46 }
abbrev q_X11_number (g : GG) (q0 q1 q2 q3 q4 q5 q6 q7 q8 q9 q10 q11 q12 : Nat) (mm : Nat → Int64) (masd : Nat → Int64) (msav : Nat → Int64) (misS : Int32) (mpst : Nat → Int64) (mchg : Int32) (merr : Int32) (mfai : Int32) (mthr : Int32) (minp : Nat → Int32) (minM : Int32) (mUp : Nat → Int32) (mcar : Nat → Int32) (mcam : Nat → Int32) (mahd : Int32) (magn : Int32) (mltr : Nat → Int32) (mbeg : Nat → Int32) (mcmd : Nat → Int32) (mcmM : Int32) (mpl : Int32) (msz : Int32) (mwr : Int32) (mlin : Nat → Int32) (mliM : Int32) (o : Int32 × Int32 × Int32) (A : Nat → Prop) := va_Qi (fun (r : Int32) (u : Int32 × Int32) => o.1 = r ∧ o.2 = u) (fun u t => va_P (gD g) zCl (wModel g q0 q1 q2 q3 q4 q5 q6 q7 q8 q9 q10 q11 q12 mm masd msav misS mpst mchg merr mfai mthr minp minM mUp mcar mcam mahd magn mltr mbeg mcmd mcmM u.1 msz u.2 mlin mliM) t.heap) A
set_option maxHeartbeats 4000000 in
set_option maxRecDepth 100000 in
theorem c_X11_number (l : Launch) (g : GG) (q0 q1 q2 q3 q4 q5 q6 q7 q8 q9 q10 q11 q12 : Nat) (mm : Nat → Int64) (masd : Nat → Int64) (msav : Nat → Int64) (misS : Int32) (mpst : Nat → Int64) (mchg : Int32) (merr : Int32) (mfai : Int32) (mthr : Int32) (minp : Nat → Int32) (minM : Int32) (mUp : Nat → Int32) (mcar : Nat → Int32) (mcam : Nat → Int32) (mahd : Int32) (magn : Int32) (mltr : Nat → Int32) (mbeg : Nat → Int32) (mcmd : Nat → Int32) (mcmM : Int32) (mpl : Int32) (msz : Int32) (mwr : Int32) (mlin : Nat → Int32) (mliM : Int32) (sz : Nat) (fu : Nat) (o : Int32 × Int32 × Int32) (hF : F_X11_number fu minp mpl msz mwr = some o) : Met l yX11_number w_X11_number r_X11_number (va_Pc [.ref q0] (zP g (wModel g q0 q1 q2 q3 q4 q5 q6 q7 q8 q9 q10 q11 q12 mm masd msav misS mpst mchg merr mfai mthr minp minM mUp mcar mcam mahd magn mltr mbeg mcmd mcmM mpl msz mwr mlin mliM) sz)) (q_X11_number g q0 q1 q2 q3 q4 q5 q6 q7 q8 q9 q10 q11 q12 mm masd msav misS mpst mchg merr mfai mthr minp minM mUp mcar mcam mahd magn mltr mbeg mcmd mcmM mpl msz mwr mlin mliM o (va_A (wModel g q0 q1 q2 q3 q4 q5 q6 q7 q8 q9 q10 q11 q12 mm masd msav misS mpst mchg merr mfai mthr minp minM mUp mcar mcam mahd magn mltr mbeg mcmd mcmM mpl msz mwr mlin mliM) sz)) 0 0 (va_A (wModel g q0 q1 q2 q3 q4 q5 q6 q7 q8 q9 q10 q11 q12 mm masd msav misS mpst mchg merr mfai mthr minp minM mUp mcar mcam mahd magn mltr mbeg mcmd mcmM mpl msz mwr mlin mliM) sz) := by
  refine Met.ofW (cc := cX11_number) (maxL := 3) (ret := (some .int)) (by decide) rfl ?_
  intro p e s m args below meth c s₁ B hml hv
  obtain ⟨rfl, rfl, hP, hK, hD0, hB⟩ := hv
  have hx := B.exec
  have hb := B.bytes
  have hr := B.returns
  have hts : ∀ w ∈ wU, w.before _ s = true := fun w h => atoms_spec (ws := w_X11_number) B.pre w (List.mem_cons_of_mem _ h)
  have hown : s.vm.findClass RX11 = some m.cls := findClass_of_methodNamed B.named
  have hlocks := B.notSynchronized
  have hD := hD0.self (sz := s.heap.size)
  generalize hAe : va_A (wModel g q0 q1 q2 q3 q4 q5 q6 q7 q8 q9 q10 q11 q12 mm masd msav misS mpst mchg merr mfai mthr minp minM mUp mcar mcam mahd magn mltr mbeg mcmd mcmM mpl msz mwr mlin mliM) s.heap.size = A at hD hB ⊢
  have hA : ∀ q : Nat, s.heap.size ≤ q → A q := fun q h => by rw [← hAe]; exact Or.inr h
  have hS : va_S A s.heap s.heap [] := va_S.rf
  have hl := lv_entry ([.ref q0]) (n := 3) (Nat.le_of_ble_eq_true rfl)
  rw [lg_entry_eq]
  generalize (lg_sl ([.ref q0]) ++ List.replicate (3 - (lg_sl ([.ref q0])).length) Slot.unset).toArray = ls at hl ⊢
  have hl : lv_has ls 3 [(0, .ref q0)] := hl
  unfold F_X11_number at hF
  have K7 : ∀ (n7 : Nat) (mpl : Int32) (mwr : Int32) (x1 : Int32) (x2 : Int32), F_X11_number_7 fu n7 minp mpl msz mwr x1 x2 = some o → ∀ (H : Heap) (locs : List Loc) (ls : Array Slot), lv_has ls 3 [(0, .ref q0), (1, .int x1), (2, .int x2)] → va_P (gD g) zCl (wModel g q0 q1 q2 q3 q4 q5 q6 q7 q8 q9 q10 q11 q12 mm masd msav misS mpst mchg merr mfai mthr minp minM mUp mcar mcam mahd magn mltr mbeg mcmd mcmM mpl msz mwr mlin mliM) H → va_D A (wModel g q0 q1 q2 q3 q4 q5 q6 q7 q8 q9 q10 q11 q12 mm masd msav misS mpst mchg merr mfai mthr minp minM mUp mcar mcam mahd magn mltr mbeg mcmd mcmM mpl msz mwr mlin mliM) → va_S A s.heap H locs → W p l e (headSpec w_X11_number r_X11_number).room s m ([.ref q0] : List Value).toArray below meth c H locs 0 0 (MQ below (q_X11_number g q0 q1 q2 q3 q4 q5 q6 q7 q8 q9 q10 q11 q12 mm masd msav misS mpst mchg merr mfai mthr minp minM mUp mcar mcam mahd magn mltr mbeg mcmd mcmM mpl msz mwr mlin mliM o A) ([.ref q0] : List Value).toArray s 0 0 A) (F0 m 7 ls []) := by
    intro n7
    induction n7 with
    | zero =>
      intro mpl mwr x1 x2 hF
      exact absurd hF (by simp [F_X11_number_7])
    | succ n7 ih7 =>
      intro mpl mwr x1 x2 hF H locs ls hl hP hD hS
      unfold F_X11_number_7 at hF
      refine lv_iload_n hx hb dX11_number_7 rfl (lv_at hl 2 rfl) ?_
      refine lv_iconst (v := 5) hx hb dX11_number_8 (by decide) ?_
      refine lv_icmp_ge (tgt := 52) hx hb dX11_number_9 (by decide) (fun zc1 => ?_) (fun zc1 => ?_)
      · have hF := z_pos hF zc1
        refine lv_iload_n hx hb dX11_number_52 rfl (lv_at hl 1 rfl) ?_
        have ho := (Option.some.inj hF).symm
        exact W.iret (v := x1) hx hb hr (fun t ht hW => ⟨⟨x1, (mpl, mwr), rfl, ⟨by rw [ho], by rw [ho]⟩, z_end ht hP⟩, hS.F ht⟩) hS.2.2 dX11_number_53
      · have hF := z_neg hF zc1
        refine lv_aload_n hx hb dX11_number_12 rfl (lv_at hl 0 rfl) ?_
        refine va_get (D := gD g) (ci := 7) (v := .int mwr) (C := RX11) (T := TX11) (N := 25) hx hb hts inX11 hown hK hP 0 rfl rfl 22 (by decide) (hts _ mU_1266) (fun _ h9 => h9) rfl dX11_number_13 ?_
        refine lv_if_ne (tgt := 52) hx hb dX11_number_16 (by decide) (fun zc2 => ?_) (fun zc2 => ?_)
        · have hF := z_neg hF zc2
          refine lv_iload_n hx hb dX11_number_52 rfl (lv_at hl 1 rfl) ?_
          have ho := (Option.some.inj hF).symm
          exact W.iret (v := x1) hx hb hr (fun t ht hW => ⟨⟨x1, (mpl, mwr), rfl, ⟨by rw [ho], by rw [ho]⟩, z_end ht hP⟩, hS.F ht⟩) hS.2.2 dX11_number_53
        · have hF := z_pos hF zc2
          refine lv_aload_n hx hb dX11_number_19 rfl (lv_at hl 0 rfl) ?_
          obtain ⟨zo3, hzo3, hF⟩ := z_bind hF
          refine z_calliE (fun (_ : Unit) => (wModel g q0 q1 q2 q3 q4 q5 q6 q7 q8 q9 q10 q11 q12 mm masd msav misS mpst mchg merr mfai mthr minp minM mUp mcar mcam mahd magn mltr mbeg mcmd mcmM mpl msz mwr mlin mliM)) (va_runV (As := []) (rest := []) ⟨hx, hb, hml, hown, hts⟩ (c_X11_here l g q0 q1 q2 q3 q4 q5 q6 q7 q8 q9 q10 q11 q12 mm masd msav misS mpst mchg merr mfai mthr minp minM mUp mcar mcam mahd magn mltr mbeg mcmd mcmM mpl msz mwr mlin mliM _ _ hzo3) (cwV 0 hts (gdV mU_1632 mU_1634 mU_55 mU_75 mU_1635) rfl rfl rfl (by decide +kernel) ⟨Nat.le_of_ble_eq_true rfl, Nat.le_of_ble_eq_true rfl⟩) ⟨z_blind _ _ _ _, va_recv hK hP (ci := 7) (q0 := 0) rfl rfl, fun U hU hW => z_preE hP hD hK hB hS hA hU hW⟩ rfl rfl hl.1 rfl (lv_room (Nat.le_of_ble_eq_true rfl)) dX11_number_20 ⟨Nat.le_of_ble_eq_true rfl, Nat.le_of_ble_eq_true rfl⟩) hD hS hA (fun _ => rfl) (fun r u H locs hw hP hD hS => ?_)
          subst hw
          have hP : va_P (gD g) zCl (wModel g q0 q1 q2 q3 q4 q5 q6 q7 q8 q9 q10 q11 q12 mm masd msav misS mpst mchg merr mfai mthr minp minM mUp mcar mcam mahd magn mltr mbeg mcmd mcmM mpl msz mwr mlin mliM) H := hP
          have hD : va_D A (wModel g q0 q1 q2 q3 q4 q5 q6 q7 q8 q9 q10 q11 q12 mm masd msav misS mpst mchg merr mfai mthr minp minM mUp mcar mcam mahd magn mltr mbeg mcmd mcmM mpl msz mwr mlin mliM) := hD
          refine lv_i2l (v := (Int32.toInt64 zo3)) hx hb dX11_number_23 rfl ?_
          refine lv_ldc2 (v := 48) hx hb hown (hts _ mU_1636) dX11_number_24 ?_
          refine lv_ldc2 (v := 57) hx hb hown (hts _ mU_1637) dX11_number_27 ?_
          obtain ⟨zo4, hzo4, hF⟩ := z_bind hF
          refine z_calli (fun (_ : Unit) => []) [] (va_runS (As := [.long (Int32.toInt64 zo3), .long 48, .long 57]) (rest := []) ⟨hx, hb, hml, hown, hts⟩ (c_X11_in l g _ (Int32.toInt64 zo3) 48 57 _ hzo4) (va_cwS 3 hts (gdS mU_1341 mU_1342 mU_75 mU_1343) rfl rfl rfl (by decide +kernel) ⟨Nat.le_of_ble_eq_true rfl, Nat.le_of_ble_eq_true rfl⟩) ⟨z_blind _ _ _ _, fun U hU hW => z_pre [] hP hD hK hB hS hA rfl rfl hU hW⟩ rfl rfl hl.1 rfl (lv_room (Nat.le_of_ble_eq_true rfl)) dX11_number_30 ⟨Nat.le_of_ble_eq_true rfl, Nat.le_of_ble_eq_true rfl⟩) hP hD hS hA rfl (fun _ => rfl) (fun r u H locs hw hP hD hS => ?_)
          subst hw
          have hP : va_P (gD g) zCl (wModel g q0 q1 q2 q3 q4 q5 q6 q7 q8 q9 q10 q11 q12 mm masd msav misS mpst mchg merr mfai mthr minp minM mUp mcar mcam mahd magn mltr mbeg mcmd mcmM mpl msz mwr mlin mliM) H := hP
          have hD : va_D A (wModel g q0 q1 q2 q3 q4 q5 q6 q7 q8 q9 q10 q11 q12 mm masd msav misS mpst mchg merr mfai mthr minp minM mUp mcar mcam mahd magn mltr mbeg mcmd mcmM mpl msz mwr mlin mliM) := hD
          refine lv_if_eq (tgt := 52) hx hb dX11_number_33 (by decide) (fun zc5 => ?_) (fun zc5 => ?_)
          · have hF := z_pos hF zc5
            refine lv_iload_n hx hb dX11_number_52 rfl (lv_at hl 1 rfl) ?_
            have ho := (Option.some.inj hF).symm
            exact W.iret (v := x1) hx hb hr (fun t ht hW => ⟨⟨x1, (mpl, mwr), rfl, ⟨by rw [ho], by rw [ho]⟩, z_end ht hP⟩, hS.F ht⟩) hS.2.2 dX11_number_53
          · have hF := z_neg hF zc5
            refine lv_bipush (v := 10) hx hb dX11_number_36 (by decide) ?_
            refine lv_iload_n hx hb dX11_number_38 rfl (lv_at hl 1 rfl) ?_
            refine lv_imul hx hb dX11_number_39 ?_
            refine lv_aload_n hx hb dX11_number_40 rfl (lv_at hl 0 rfl) ?_
            obtain ⟨zo6, hzo6, hF⟩ := z_bind hF
            refine z_calliE (fun (u : Int32 × Int32) => (wModel g q0 q1 q2 q3 q4 q5 q6 q7 q8 q9 q10 q11 q12 mm masd msav misS mpst mchg merr mfai mthr minp minM mUp mcar mcam mahd magn mltr mbeg mcmd mcmM u.1 msz u.2 mlin mliM)) (va_runV (As := []) (rest := [.int (10 * x1)]) ⟨hx, hb, hml, hown, hts⟩ (c_X11_digitHere l g q0 q1 q2 q3 q4 q5 q6 q7 q8 q9 q10 q11 q12 mm masd msav misS mpst mchg merr mfai mthr minp minM mUp mcar mcam mahd magn mltr mbeg mcmd mcmM mpl msz mwr mlin mliM _ _ hzo6) (cwV 0 hts (gdV mU_1628 mU_1630 mU_54 mU_75 mU_1631) rfl rfl rfl (by decide +kernel) ⟨Nat.le_of_ble_eq_true rfl, Nat.le_of_ble_eq_true rfl⟩) ⟨z_blind _ _ _ _, va_recv hK hP (ci := 7) (q0 := 0) rfl rfl, fun U hU hW => z_preE hP hD hK hB hS hA hU hW⟩ rfl rfl hl.1 rfl (lv_room (Nat.le_of_ble_eq_true rfl)) dX11_number_41 ⟨Nat.le_of_ble_eq_true rfl, Nat.le_of_ble_eq_true rfl⟩) hD hS hA (fun _ => rfl) (fun r u H locs hw hP hD hS => ?_)
            obtain ⟨rfl, rfl⟩ := hw
            have hP : va_P (gD g) zCl (wModel g q0 q1 q2 q3 q4 q5 q6 q7 q8 q9 q10 q11 q12 mm masd msav misS mpst mchg merr mfai mthr minp minM mUp mcar mcam mahd magn mltr mbeg mcmd mcmM zo6.2.1 msz zo6.2.2 mlin mliM) H := hP
            have hD : va_D A (wModel g q0 q1 q2 q3 q4 q5 q6 q7 q8 q9 q10 q11 q12 mm masd msav misS mpst mchg merr mfai mthr minp minM mUp mcar mcam mahd magn mltr mbeg mcmd mcmM zo6.2.1 msz zo6.2.2 mlin mliM) := hD
            refine lv_iadd hx hb dX11_number_44 ?_
            obtain ⟨zv7, ezv7, hF⟩ := z_let hF
            refine z_topi ezv7 ?_
            refine lv_istore_n (lv' := [(1, .int zv7), (0, .ref q0), (2, .int x2)]) hx hb dX11_number_45 rfl hl (by decide) rfl (fun ls hl => ?_)
            obtain ⟨zv8, ezv8, hF⟩ := z_let hF
            refine lv_iinc (v := zv8) (lv' := [(2, .int zv8), (1, .int zv7), (0, .ref q0)]) hx hb dX11_number_46 hl (k := 2) rfl (by rw [ezv8]; rfl) (by decide) rfl (fun ls hl => ?_)
            refine lv_goto (tgt := 7) hx hb dX11_number_49 (by decide) ?_
            exact ih7 zo6.2.1 zo6.2.2 zv7 zv8 hF _ _ _ (lv_sub hl [2, 1, 0] rfl) hP hD hS
  refine lv_aload_n hx hb dX11_number_0 rfl (lv_at hl 0 rfl) ?_
  obtain ⟨zo9, hzo9, hF⟩ := z_bind hF
  refine z_calliE (fun (u : Int32 × Int32) => (wModel g q0 q1 q2 q3 q4 q5 q6 q7 q8 q9 q10 q11 q12 mm masd msav misS mpst mchg merr mfai mthr minp minM mUp mcar mcam mahd magn mltr mbeg mcmd mcmM u.1 msz u.2 mlin mliM)) (va_runV (As := []) (rest := []) ⟨hx, hb, hml, hown, hts⟩ (c_X11_digitHere l g q0 q1 q2 q3 q4 q5 q6 q7 q8 q9 q10 q11 q12 mm masd msav misS mpst mchg merr mfai mthr minp minM mUp mcar mcam mahd magn mltr mbeg mcmd mcmM mpl msz mwr mlin mliM _ _ hzo9) (cwV 0 hts (gdV mU_1628 mU_1630 mU_54 mU_75 mU_1631) rfl rfl rfl (by decide +kernel) ⟨Nat.le_of_ble_eq_true rfl, Nat.le_of_ble_eq_true rfl⟩) ⟨z_blind _ _ _ _, va_recv hK hP (ci := 7) (q0 := 0) rfl rfl, fun U hU hW => z_preE hP hD hK hB hS hA hU hW⟩ rfl rfl hl.1 rfl (lv_room (Nat.le_of_ble_eq_true rfl)) dX11_number_1 ⟨Nat.le_of_ble_eq_true rfl, Nat.le_of_ble_eq_true rfl⟩) hD hS hA (fun _ => rfl) (fun r u H locs hw hP hD hS => ?_)
  obtain ⟨rfl, rfl⟩ := hw
  have hP : va_P (gD g) zCl (wModel g q0 q1 q2 q3 q4 q5 q6 q7 q8 q9 q10 q11 q12 mm masd msav misS mpst mchg merr mfai mthr minp minM mUp mcar mcam mahd magn mltr mbeg mcmd mcmM zo9.2.1 msz zo9.2.2 mlin mliM) H := hP
  have hD : va_D A (wModel g q0 q1 q2 q3 q4 q5 q6 q7 q8 q9 q10 q11 q12 mm masd msav misS mpst mchg merr mfai mthr minp minM mUp mcar mcam mahd magn mltr mbeg mcmd mcmM zo9.2.1 msz zo9.2.2 mlin mliM) := hD
  refine lv_istore_n (lv' := [(1, .int zo9.1), (0, .ref q0)]) hx hb dX11_number_4 rfl hl (by decide) rfl (fun ls hl => ?_)
  refine lv_iconst (v := 0) hx hb dX11_number_5 (by decide) ?_
  refine lv_istore_n (lv' := [(2, .int 0), (1, .int zo9.1), (0, .ref q0)]) hx hb dX11_number_6 rfl hl (by decide) rfl (fun ls hl => ?_)
  exact K7 fu zo9.2.1 zo9.2.2 zo9.1 0 hF _ _ _ (lv_sub hl [2, 1, 0] rfl) hP hD hS
abbrev w_X11_numberBehind : List Cond := .code yX11_numberBehind cX11_numberBehind 2 (some .int) :: wU
abbrev r_X11_numberBehind : Room := { frames := 3, cells := 0, slots := 0, locals := 68 }
abbrev q_X11_numberBehind (g : GG) (q0 q1 q2 q3 q4 q5 q6 q7 q8 q9 q10 q11 q12 : Nat) (mm : Nat → Int64) (masd : Nat → Int64) (msav : Nat → Int64) (misS : Int32) (mpst : Nat → Int64) (mchg : Int32) (merr : Int32) (mfai : Int32) (mthr : Int32) (minp : Nat → Int32) (minM : Int32) (mUp : Nat → Int32) (mcar : Nat → Int32) (mcam : Nat → Int32) (mahd : Int32) (magn : Int32) (mltr : Nat → Int32) (mbeg : Nat → Int32) (mcmd : Nat → Int32) (mcmM : Int32) (mpl : Int32) (msz : Int32) (mwr : Int32) (mlin : Nat → Int32) (mliM : Int32) (o : Int32 × Int32 × Int32) (A : Nat → Prop) := va_Qi (fun (r : Int32) (u : Int32 × Int32) => o.1 = r ∧ o.2 = u) (fun u t => va_P (gD g) zCl (wModel g q0 q1 q2 q3 q4 q5 q6 q7 q8 q9 q10 q11 q12 mm masd msav misS mpst mchg merr mfai mthr minp minM mUp mcar mcam mahd magn mltr mbeg mcmd mcmM u.1 msz u.2 mlin mliM) t.heap) A
set_option maxHeartbeats 4000000 in
set_option maxRecDepth 100000 in
theorem c_X11_numberBehind (l : Launch) (g : GG) (q0 q1 q2 q3 q4 q5 q6 q7 q8 q9 q10 q11 q12 : Nat) (mm : Nat → Int64) (masd : Nat → Int64) (msav : Nat → Int64) (misS : Int32) (mpst : Nat → Int64) (mchg : Int32) (merr : Int32) (mfai : Int32) (mthr : Int32) (minp : Nat → Int32) (minM : Int32) (mUp : Nat → Int32) (mcar : Nat → Int32) (mcam : Nat → Int32) (mahd : Int32) (magn : Int32) (mltr : Nat → Int32) (mbeg : Nat → Int32) (mcmd : Nat → Int32) (mcmM : Int32) (mpl : Int32) (msz : Int32) (mwr : Int32) (mlin : Nat → Int32) (mliM : Int32) (sz : Nat) (p1 : Int32) (fu : Nat) (o : Int32 × Int32 × Int32) (hF : F_X11_numberBehind fu minp mpl msz mwr p1 = some o) : Met l yX11_numberBehind w_X11_numberBehind r_X11_numberBehind (va_Pc [.ref q0, .int p1] (zP g (wModel g q0 q1 q2 q3 q4 q5 q6 q7 q8 q9 q10 q11 q12 mm masd msav misS mpst mchg merr mfai mthr minp minM mUp mcar mcam mahd magn mltr mbeg mcmd mcmM mpl msz mwr mlin mliM) sz)) (q_X11_numberBehind g q0 q1 q2 q3 q4 q5 q6 q7 q8 q9 q10 q11 q12 mm masd msav misS mpst mchg merr mfai mthr minp minM mUp mcar mcam mahd magn mltr mbeg mcmd mcmM mpl msz mwr mlin mliM o (va_A (wModel g q0 q1 q2 q3 q4 q5 q6 q7 q8 q9 q10 q11 q12 mm masd msav misS mpst mchg merr mfai mthr minp minM mUp mcar mcam mahd magn mltr mbeg mcmd mcmM mpl msz mwr mlin mliM) sz)) 0 0 (va_A (wModel g q0 q1 q2 q3 q4 q5 q6 q7 q8 q9 q10 q11 q12 mm masd msav misS mpst mchg merr mfai mthr minp minM mUp mcar mcam mahd magn mltr mbeg mcmd mcmM mpl msz mwr mlin mliM) sz) := by
  refine Met.ofW (cc := cX11_numberBehind) (maxL := 2) (ret := (some .int)) (by decide) rfl ?_
  intro p e s m args below meth c s₁ B hml hv
  obtain ⟨rfl, rfl, hP, hK, hD0, hB⟩ := hv
  have hx := B.exec
  have hb := B.bytes
  have hr := B.returns
  have hts : ∀ w ∈ wU, w.before _ s = true := fun w h => atoms_spec (ws := w_X11_numberBehind) B.pre w (List.mem_cons_of_mem _ h)
  have hown : s.vm.findClass RX11 = some m.cls := findClass_of_methodNamed B.named
  have hlocks := B.notSynchronized
  have hD := hD0.self (sz := s.heap.size)
  generalize hAe : va_A (wModel g q0 q1 q2 q3 q4 q5 q6 q7 q8 q9 q10 q11 q12 mm masd msav misS mpst mchg merr mfai mthr minp minM mUp mcar mcam mahd magn mltr mbeg mcmd mcmM mpl msz mwr mlin mliM) s.heap.size = A at hD hB ⊢
  have hA : ∀ q : Nat, s.heap.size ≤ q → A q := fun q h => by rw [← hAe]; exact Or.inr h
  have hS : va_S A s.heap s.heap [] := va_S.rf
  have hl := lv_entry ([.ref q0, .int p1]) (n := 2) (Nat.le_of_ble_eq_true rfl)
  rw [lg_entry_eq]
  generalize (lg_sl ([.ref q0, .int p1]) ++ List.replicate (2 - (lg_sl ([.ref q0, .int p1])).length) Slot.unset).toArray = ls at hl ⊢
  have hl : lv_has ls 2 [(0, .ref q0), (1, .int p1)] := hl
  unfold F_X11_numberBehind at hF
  refine lv_aload_n hx hb dX11_numberBehind_0 rfl (lv_at hl 0 rfl) ?_
  refine lv_iload_n hx hb dX11_numberBehind_1 rfl (lv_at hl 1 rfl) ?_
  obtain ⟨zo1, hzo1, hF⟩ := z_bind hF
  refine z_callvE (fun (u : Int32 × Int32) => (wModel g q0 q1 q2 q3 q4 q5 q6 q7 q8 q9 q10 q11 q12 mm masd msav misS mpst mchg merr mfai mthr minp minM mUp mcar mcam mahd magn mltr mbeg mcmd mcmM u.1 msz u.2 mlin mliM)) (va_runV (As := [.int p1]) (rest := []) ⟨hx, hb, hml, hown, hts⟩ (c_X11_expects l g q0 q1 q2 q3 q4 q5 q6 q7 q8 q9 q10 q11 q12 mm masd msav misS mpst mchg merr mfai mthr minp minM mUp mcar mcam mahd magn mltr mbeg mcmd mcmM mpl msz mwr mlin mliM _ p1 _ hzo1) (cwV 1 hts (gdV mU_1650 mU_1652 mU_59 mU_75 mU_1653) rfl rfl rfl (by decide +kernel) ⟨Nat.le_of_ble_eq_true rfl, Nat.le_of_ble_eq_true rfl⟩) ⟨z_blind _ _ _ _, va_recv hK hP (ci := 7) (q0 := 0) rfl rfl, fun U hU hW => z_preE hP hD hK hB hS hA hU hW⟩ rfl rfl hl.1 rfl (lv_room (Nat.le_of_ble_eq_true rfl)) dX11_numberBehind_2 ⟨Nat.le_of_ble_eq_true rfl, Nat.le_of_ble_eq_true rfl⟩) hD hS hA (fun _ => rfl) (fun u H locs hw hP hD hS => ?_)
  subst hw
  have hP : va_P (gD g) zCl (wModel g q0 q1 q2 q3 q4 q5 q6 q7 q8 q9 q10 q11 q12 mm masd msav misS mpst mchg merr mfai mthr minp minM mUp mcar mcam mahd magn mltr mbeg mcmd mcmM zo1.1 msz zo1.2 mlin mliM) H := hP
  have hD : va_D A (wModel g q0 q1 q2 q3 q4 q5 q6 q7 q8 q9 q10 q11 q12 mm masd msav misS mpst mchg merr mfai mthr minp minM mUp mcar mcam mahd magn mltr mbeg mcmd mcmM zo1.1 msz zo1.2 mlin mliM) := hD
  refine lv_aload_n hx hb dX11_numberBehind_5 rfl (lv_at hl 0 rfl) ?_
  obtain ⟨zo2, hzo2, hF⟩ := z_bind hF
  refine z_calliE (fun (u : Int32 × Int32) => (wModel g q0 q1 q2 q3 q4 q5 q6 q7 q8 q9 q10 q11 q12 mm masd msav misS mpst mchg merr mfai mthr minp minM mUp mcar mcam mahd magn mltr mbeg mcmd mcmM u.1 msz u.2 mlin mliM)) (va_runV (As := []) (rest := []) ⟨hx, hb, hml, hown, hts⟩ (c_X11_number l g q0 q1 q2 q3 q4 q5 q6 q7 q8 q9 q10 q11 q12 mm masd msav misS mpst mchg merr mfai mthr minp minM mUp mcar mcam mahd magn mltr mbeg mcmd mcmM zo1.1 msz zo1.2 mlin mliM _ fu _ hzo2) (cwV 0 hts (gdV mU_1638 mU_1640 mU_56 mU_75 mU_1641) rfl rfl rfl (by decide +kernel) ⟨Nat.le_of_ble_eq_true rfl, Nat.le_of_ble_eq_true rfl⟩) ⟨z_blind _ _ _ _, va_recv hK hP (ci := 7) (q0 := 0) rfl rfl, fun U hU hW => z_preE hP hD hK hB hS hA hU hW⟩ rfl rfl hl.1 rfl (lv_room (Nat.le_of_ble_eq_true rfl)) dX11_numberBehind_6 ⟨Nat.le_of_ble_eq_true rfl, Nat.le_of_ble_eq_true rfl⟩) hD hS hA (fun _ => rfl) (fun r u H locs hw hP hD hS => ?_)
  obtain ⟨rfl, rfl⟩ := hw
  have hP : va_P (gD g) zCl (wModel g q0 q1 q2 q3 q4 q5 q6 q7 q8 q9 q10 q11 q12 mm masd msav misS mpst mchg merr mfai mthr minp minM mUp mcar mcam mahd magn mltr mbeg mcmd mcmM zo2.2.1 msz zo2.2.2 mlin mliM) H := hP
  have hD : va_D A (wModel g q0 q1 q2 q3 q4 q5 q6 q7 q8 q9 q10 q11 q12 mm masd msav misS mpst mchg merr mfai mthr minp minM mUp mcar mcam mahd magn mltr mbeg mcmd mcmM zo2.2.1 msz zo2.2.2 mlin mliM) := hD
  have ho := (Option.some.inj hF).symm
  exact W.iret (v := zo2.1) hx hb hr (fun t ht hW => ⟨⟨zo2.1, (zo2.2.1, zo2.2.2), rfl, ⟨by rw [ho], by rw [ho]⟩, z_end ht hP⟩, hS.F ht⟩) hS.2.2 dX11_numberBehind_9
abbrev w_X11_digitBehind : List Cond := .code yX11_digitBehind cX11_digitBehind 1 (some .int) :: wU
abbrev r_X11_digitBehind : Room := { frames := 2, cells := 0, slots := 0, locals := 46 }
abbrev q_X11_digitBehind (g : GG) (q0 q1 q2 q3 q4 q5 q6 q7 q8 q9 q10 q11 q12 : Nat) (mm : Nat → Int64) (masd : Nat → Int64) (msav : Nat → Int64) (misS : Int32) (mpst : Nat → Int64) (mchg : Int32) (merr : Int32) (mfai : Int32) (mthr : Int32) (minp : Nat → Int32) (minM : Int32) (mUp : Nat → Int32) (mcar : Nat → Int32) (mcam : Nat → Int32) (mahd : Int32) (magn : Int32) (mltr : Nat → Int32) (mbeg : Nat → Int32) (mcmd : Nat → Int32) (mcmM : Int32) (mpl : Int32) (msz : Int32) (mwr : Int32) (mlin : Nat → Int32) (mliM : Int32) (o : Int32 × Int32 × Int32) (A : Nat → Prop) := va_Qi (fun (r : Int32) (u : Int32 × Int32) => o.1 = r ∧ o.2 = u) (fun u t => va_P (gD g) zCl (wModel g q0 q1 q2 q3 q4 q5 q6 q7 q8 q9 q10 q11 q12 mm masd msav misS mpst mchg merr mfai mthr minp minM mUp mcar mcam mahd magn mltr mbeg mcmd mcmM u.1 msz u.2 mlin mliM) t.heap) A
set_option maxHeartbeats 4000000 in
set_option maxRecDepth 100000 in
theorem c_X11_digitBehind (l : Launch) (g : GG) (q0 q1 q2 q3 q4 q5 q6 q7 q8 q9 q10 q11 q12 : Nat) (mm : Nat → Int64) (masd : Nat → Int64) (msav : Nat → Int64) (misS : Int32) (mpst : Nat → Int64) (mchg : Int32) (merr : Int32) (mfai : Int32) (mthr : Int32) (minp : Nat → Int32) (minM : Int32) (mUp : Nat → Int32) (mcar : Nat → Int32) (mcam : Nat → Int32) (mahd : Int32) (magn : Int32) (mltr : Nat → Int32) (mbeg : Nat → Int32) (mcmd : Nat → Int32) (mcmM : Int32) (mpl : Int32) (msz : Int32) (mwr : Int32) (mlin : Nat → Int32) (mliM : Int32) (sz : Nat) (o : Int32 × Int32 × Int32) (hF : F_X11_digitBehind minp mpl msz mwr = some o) : Met l yX11_digitBehind w_X11_digitBehind r_X11_digitBehind (va_Pc [.ref q0] (zP g (wModel g q0 q1 q2 q3 q4 q5 q6 q7 q8 q9 q10 q11 q12 mm masd msav misS mpst mchg merr mfai mthr minp minM mUp mcar mcam mahd magn mltr mbeg mcmd mcmM mpl msz mwr mlin mliM) sz)) (q_X11_digitBehind g q0 q1 q2 q3 q4 q5 q6 q7 q8 q9 q10 q11 q12 mm masd msav misS mpst mchg merr mfai mthr minp minM mUp mcar mcam mahd magn mltr mbeg mcmd mcmM mpl msz mwr mlin mliM o (va_A (wModel g q0 q1 q2 q3 q4 q5 q6 q7 q8 q9 q10 q11 q12 mm masd msav misS mpst mchg merr mfai mthr minp minM mUp mcar mcam mahd magn mltr mbeg mcmd mcmM mpl msz mwr mlin mliM) sz)) 0 0 (va_A (wModel g q0 q1 q2 q3 q4 q5 q6 q7 q8 q9 q10 q11 q12 mm masd msav misS mpst mchg merr mfai mthr minp minM mUp mcar mcam mahd magn mltr mbeg mcmd mcmM mpl msz mwr mlin mliM) sz) := by
  refine Met.ofW (cc := cX11_digitBehind) (maxL := 1) (ret := (some .int)) (by decide) rfl ?_
  intro p e s m args below meth c s₁ B hml hv
  obtain ⟨rfl, rfl, hP, hK, hD0, hB⟩ := hv
  have hx := B.exec
  have hb := B.bytes
  have hr := B.returns
  have hts : ∀ w ∈ wU, w.before _ s = true := fun w h => atoms_spec (ws := w_X11_digitBehind) B.pre w (List.mem_cons_of_mem _ h)
  have hown : s.vm.findClass RX11 = some m.cls := findClass_of_methodNamed B.named
  have hlocks := B.notSynchronized
  have hD := hD0.self (sz := s.heap.size)
  generalize hAe : va_A (wModel g q0 q1 q2 q3 q4 q5 q6 q7 q8 q9 q10 q11 q12 mm masd msav misS mpst mchg merr mfai mthr minp minM mUp mcar mcam mahd magn mltr mbeg mcmd mcmM mpl msz mwr mlin mliM) s.heap.size = A at hD hB ⊢
  have hA : ∀ q : Nat, s.heap.size ≤ q → A q := fun q h => by rw [← hAe]; exact Or.inr h
  have hS : va_S A s.heap s.heap [] := va_S.rf
  have hl := lv_entry ([.ref q0]) (n := 1) (Nat.le_of_ble_eq_true rfl)
  rw [lg_entry_eq]
  generalize (lg_sl ([.ref q0]) ++ List.replicate (1 - (lg_sl ([.ref q0])).length) Slot.unset).toArray = ls at hl ⊢
  have hl : lv_has ls 1 [(0, .ref q0)] := hl
  unfold F_X11_digitBehind at hF
  refine lv_aload_n hx hb dX11_digitBehind_0 rfl (lv_at hl 0 rfl) ?_
  refine lv_bipush (v := 32) hx hb dX11_digitBehind_1 (by decide) ?_
  obtain ⟨zo1, hzo1, hF⟩ := z_bind hF
  refine z_callvE (fun (u : Int32 × Int32) => (wModel g q0 q1 q2 q3 q4 q5 q6 q7 q8 q9 q10 q11 q12 mm masd msav misS mpst mchg merr mfai mthr minp minM mUp mcar mcam mahd magn mltr mbeg mcmd mcmM u.1 msz u.2 mlin mliM)) (va_runV (As := [.int 32]) (rest := []) ⟨hx, hb, hml, hown, hts⟩ (c_X11_expects l g q0 q1 q2 q3 q4 q5 q6 q7 q8 q9 q10 q11 q12 mm masd msav misS mpst mchg merr mfai mthr minp minM mUp mcar mcam mahd magn mltr mbeg mcmd mcmM mpl msz mwr mlin mliM _ 32 _ hzo1) (cwV 1 hts (gdV mU_1650 mU_1652 mU_59 mU_75 mU_1653) rfl rfl rfl (by decide +kernel) ⟨Nat.le_of_ble_eq_true rfl, Nat.le_of_ble_eq_true rfl⟩) ⟨z_blind _ _ _ _, va_recv hK hP (ci := 7) (q0 := 0) rfl rfl, fun U hU hW => z_preE hP hD hK hB hS hA hU hW⟩ rfl rfl hl.1 rfl (lv_room (Nat.le_of_ble_eq_true rfl)) dX11_digitBehind_3 ⟨Nat.le_of_ble_eq_true rfl, Nat.le_of_ble_eq_true rfl⟩) hD hS hA (fun _ => rfl) (fun u H locs hw hP hD hS => ?_)
  subst hw
  have hP : va_P (gD g) zCl (wModel g q0 q1 q2 q3 q4 q5 q6 q7 q8 q9 q10 q11 q12 mm masd msav misS mpst mchg merr mfai mthr minp minM mUp mcar mcam mahd magn mltr mbeg mcmd mcmM zo1.1 msz zo1.2 mlin mliM) H := hP
  have hD : va_D A (wModel g q0 q1 q2 q3 q4 q5 q6 q7 q8 q9 q10 q11 q12 mm masd msav misS mpst mchg merr mfai mthr minp minM mUp mcar mcam mahd magn mltr mbeg mcmd mcmM zo1.1 msz zo1.2 mlin mliM) := hD
  refine lv_aload_n hx hb dX11_digitBehind_6 rfl (lv_at hl 0 rfl) ?_
  obtain ⟨zo2, hzo2, hF⟩ := z_bind hF
  refine z_calliE (fun (u : Int32 × Int32) => (wModel g q0 q1 q2 q3 q4 q5 q6 q7 q8 q9 q10 q11 q12 mm masd msav misS mpst mchg merr mfai mthr minp minM mUp mcar mcam mahd magn mltr mbeg mcmd mcmM u.1 msz u.2 mlin mliM)) (va_runV (As := []) (rest := []) ⟨hx, hb, hml, hown, hts⟩ (c_X11_digitHere l g q0 q1 q2 q3 q4 q5 q6 q7 q8 q9 q10 q11 q12 mm masd msav misS mpst mchg merr mfai mthr minp minM mUp mcar mcam mahd magn mltr mbeg mcmd mcmM zo1.1 msz zo1.2 mlin mliM _ _ hzo2) (cwV 0 hts (gdV mU_1628 mU_1630 mU_54 mU_75 mU_1631) rfl rfl rfl (by decide +kernel) ⟨Nat.le_of_ble_eq_true rfl, Nat.le_of_ble_eq_true rfl⟩) ⟨z_blind _ _ _ _, va_recv hK hP (ci := 7) (q0 := 0) rfl rfl, fun U hU hW => z_preE hP hD hK hB hS hA hU hW⟩ rfl rfl hl.1 rfl (lv_room (Nat.le_of_ble_eq_true rfl)) dX11_digitBehind_7 ⟨Nat.le_of_ble_eq_true rfl, Nat.le_of_ble_eq_true rfl⟩) hD hS hA (fun _ => rfl) (fun r u H locs hw hP hD hS => ?_)
  obtain ⟨rfl, rfl⟩ := hw
  have hP : va_P (gD g) zCl (wModel g q0 q1 q2 q3 q4 q5 q6 q7 q8 q9 q10 q11 q12 mm masd msav misS mpst mchg merr mfai mthr minp minM mUp mcar mcam mahd magn mltr mbeg mcmd mcmM zo2.2.1 msz zo2.2.2 mlin mliM) H := hP
  have hD : va_D A (wModel g q0 q1 q2 q3 q4 q5 q6 q7 q8 q9 q10 q11 q12 mm masd msav misS mpst mchg merr mfai mthr minp minM mUp mcar mcam mahd magn mltr mbeg mcmd mcmM zo2.2.1 msz zo2.2.2 mlin mliM) := hD
  have ho := (Option.some.inj hF).symm
  exact W.iret (v := zo2.1) hx hb hr (fun t ht hW => ⟨⟨zo2.1, (zo2.2.1, zo2.2.2), rfl, ⟨by rw [ho], by rw [ho]⟩, z_end ht hP⟩, hS.F ht⟩) hS.2.2 dX11_digitBehind_10
abbrev w_X11_modeBehind : List Cond := .code yX11_modeBehind cX11_modeBehind 2 (some .int) :: wU
abbrev r_X11_modeBehind : Room := { frames := 2, cells := 0, slots := 0, locals := 41 }
abbrev q_X11_modeBehind (g : GG) (q0 q1 q2 q3 q4 q5 q6 q7 q8 q9 q10 q11 q12 : Nat) (mm : Nat → Int64) (masd : Nat → Int64) (msav : Nat → Int64) (misS : Int32) (mpst : Nat → Int64) (mchg : Int32) (merr : Int32) (mfai : Int32) (mthr : Int32) (minp : Nat → Int32) (minM : Int32) (mUp : Nat → Int32) (mcar : Nat → Int32) (mcam : Nat → Int32) (mahd : Int32) (magn : Int32) (mltr : Nat → Int32) (mbeg : Nat → Int32) (mcmd : Nat → Int32) (mcmM : Int32) (mpl : Int32) (msz : Int32) (mwr : Int32) (mlin : Nat → Int32) (mliM : Int32) (o : Int32 × Int32 × Int32) (A : Nat → Prop) := va_Qi (fun (r : Int32) (u : Int32 × Int32) => o.1 = r ∧ o.2 = u) (fun u t => va_P (gD g) zCl (wModel g q0 q1 q2 q3 q4 q5 q6 q7 q8 q9 q10 q11 q12 mm masd msav misS mpst mchg merr mfai mthr minp minM mUp mcar mcam mahd magn mltr mbeg mcmd mcmM u.1 msz u.2 mlin mliM) t.heap) A
set_option maxHeartbeats 4000000 in
set_option maxRecDepth 100000 in
theorem c_X11_modeBehind (l : Launch) (g : GG) (q0 q1 q2 q3 q4 q5 q6 q7 q8 q9 q10 q11 q12 : Nat) (mm : Nat → Int64) (masd : Nat → Int64) (msav : Nat → Int64) (misS : Int32) (mpst : Nat → Int64) (mchg : Int32) (merr : Int32) (mfai : Int32) (mthr : Int32) (minp : Nat → Int32) (minM : Int32) (mUp : Nat → Int32) (mcar : Nat → Int32) (mcam : Nat → Int32) (mahd : Int32) (magn : Int32) (mltr : Nat → Int32) (mbeg : Nat → Int32) (mcmd : Nat → Int32) (mcmM : Int32) (mpl : Int32) (msz : Int32) (mwr : Int32) (mlin : Nat → Int32) (mliM : Int32) (sz : Nat) (o : Int32 × Int32 × Int32) (hF : F_X11_modeBehind minp mpl msz mwr = some o) : Met l yX11_modeBehind w_X11_modeBehind r_X11_modeBehind (va_Pc [.ref q0] (zP g (wModel g q0 q1 q2 q3 q4 q5 q6 q7 q8 q9 q10 q11 q12 mm masd msav misS mpst mchg merr mfai mthr minp minM mUp mcar mcam mahd magn mltr mbeg mcmd mcmM mpl msz mwr mlin mliM) sz)) (q_X11_modeBehind g q0 q1 q2 q3 q4 q5 q6 q7 q8 q9 q10 q11 q12 mm masd msav misS mpst mchg merr mfai mthr minp minM mUp mcar mcam mahd magn mltr mbeg mcmd mcmM mpl msz mwr mlin mliM o (va_A (wModel g q0 q1 q2 q3 q4 q5 q6 q7 q8 q9 q10 q11 q12 mm masd msav misS mpst mchg merr mfai mthr minp minM mUp mcar mcam mahd magn mltr mbeg mcmd mcmM mpl msz mwr mlin mliM) sz)) 0 0 (va_A (wModel g q0 q1 q2 q3 q4 q5 q6 q7 q8 q9 q10 q11 q12 mm masd msav misS mpst mchg merr mfai mthr minp minM mUp mcar mcam mahd magn mltr mbeg mcmd mcmM mpl msz mwr mlin mliM) sz) := by
  refine Met.ofW (cc := cX11_modeBehind) (maxL := 2) (ret := (some .int)) (by decide) rfl ?_
  intro p e s m args below meth c s₁ B hml hv
  obtain ⟨rfl, rfl, hP, hK, hD0, hB⟩ := hv
  have hx := B.exec
  have hb := B.bytes
  have hr := B.returns
  have hts : ∀ w ∈ wU, w.before _ s = true := fun w h => atoms_spec (ws := w_X11_modeBehind) B.pre w (List.mem_cons_of_mem _ h)
  have hown : s.vm.findClass RX11 = some m.cls := findClass_of_methodNamed B.named
  have hlocks := B.notSynchronized
  have hD := hD0.self (sz := s.heap.size)
  generalize hAe : va_A (wModel g q0 q1 q2 q3 q4 q5 q6 q7 q8 q9 q10 q11 q12 mm masd msav misS mpst mchg merr mfai mthr minp minM mUp mcar mcam mahd magn mltr mbeg mcmd mcmM mpl msz mwr mlin mliM) s.heap.size = A at hD hB ⊢
  have hA : ∀ q : Nat, s.heap.size ≤ q → A q := fun q h => by rw [← hAe]; exact Or.inr h
  have hS : va_S A s.heap s.heap [] := va_S.rf
  have hl := lv_entry ([.ref q0]) (n := 2) (Nat.le_of_ble_eq_true rfl)
  rw [lg_entry_eq]
  generalize (lg_sl ([.ref q0]) ++ List.replicate (2 - (lg_sl ([.ref q0])).length) Slot.unset).toArray = ls at hl ⊢
  have hl : lv_has ls 2 [(0, .ref q0)] := hl
  unfold F_X11_modeBehind at hF
  have K29 : ∀ (_ : Unit) (mpl : Int32) (mwr : Int32) (y1 : Int32), F_X11_modeBehind_29 minp mpl msz mwr y1 = some o → ∀ (H : Heap) (locs : List Loc) (ls : Array Slot), lv_has ls 2 [(0, .ref q0)] → va_P (gD g) zCl (wModel g q0 q1 q2 q3 q4 q5 q6 q7 q8 q9 q10 q11 q12 mm masd msav misS mpst mchg merr mfai mthr minp minM mUp mcar mcam mahd magn mltr mbeg mcmd mcmM mpl msz mwr mlin mliM) H → va_D A (wModel g q0 q1 q2 q3 q4 q5 q6 q7 q8 q9 q10 q11 q12 mm masd msav misS mpst mchg merr mfai mthr minp minM mUp mcar mcam mahd magn mltr mbeg mcmd mcmM mpl msz mwr mlin mliM) → va_S A s.heap H locs → W p l e (headSpec w_X11_modeBehind r_X11_modeBehind).room s m ([.ref q0] : List Value).toArray below meth c H locs 0 0 (MQ below (q_X11_modeBehind g q0 q1 q2 q3 q4 q5 q6 q7 q8 q9 q10 q11 q12 mm masd msav misS mpst mchg merr mfai mthr minp minM mUp mcar mcam mahd magn mltr mbeg mcmd mcmM mpl msz mwr mlin mliM o A) ([.ref q0] : List Value).toArray s 0 0 A) (F0 m 29 ls [.int y1, .ref q0]) := by
    intro _ mpl mwr y1 hF H locs ls hl hP hD hS
    unfold F_X11_modeBehind_29 at hF
    obtain ⟨zg1, hF⟩ := z_grd hF
    refine va_put (D := gD g) (ci := 7) (v := .int y1) (ty := .boolean) (C := RX11) (T := TX11) (N := 25) hx hb hts inX11 tyX11 tyX11_ok nmX11 hown hK hP hD hS 0 rfl rfl 22 (by decide) (hts _ mU_1266) (fun _ h9 => h9) rfl (by decide +kernel) (z_narb (Classical.not_not.mp zg1)).1 (z_narb (Classical.not_not.mp zg1)).2 (Nat.le_of_ble_eq_true rfl) dX11_modeBehind_29 (fun H locs hP hD hS => ?_)
    have hP : va_P (gD g) zCl (wModel g q0 q1 q2 q3 q4 q5 q6 q7 q8 q9 q10 q11 q12 mm masd msav misS mpst mchg merr mfai mthr minp minM mUp mcar mcam mahd magn mltr mbeg mcmd mcmM mpl msz y1 mlin mliM) H := hP
    have hD : va_D A (wModel g q0 q1 q2 q3 q4 q5 q6 q7 q8 q9 q10 q11 q12 mm masd msav misS mpst mchg merr mfai mthr minp minM mUp mcar mcam mahd magn mltr mbeg mcmd mcmM mpl msz y1 mlin mliM) := hD
    refine lv_aload_n hx hb dX11_modeBehind_32 rfl (lv_at hl 0 rfl) ?_
    obtain ⟨zo2, hzo2, hF⟩ := z_bind hF
    refine z_calliE (fun (_ : Unit) => (wModel g q0 q1 q2 q3 q4 q5 q6 q7 q8 q9 q10 q11 q12 mm masd msav misS mpst mchg merr mfai mthr minp minM mUp mcar mcam mahd magn mltr mbeg mcmd mcmM mpl msz y1 mlin mliM)) (va_runV (As := []) (rest := []) ⟨hx, hb, hml, hown, hts⟩ (c_X11_here l g q0 q1 q2 q3 q4 q5 q6 q7 q8 q9 q10 q11 q12 mm masd msav misS mpst mchg merr mfai mthr minp minM mUp mcar mcam mahd magn mltr mbeg mcmd mcmM mpl msz y1 mlin mliM _ _ hzo2) (cwV 0 hts (gdV mU_1632 mU_1634 mU_55 mU_75 mU_1635) rfl rfl rfl (by decide +kernel) ⟨Nat.le_of_ble_eq_true rfl, Nat.le_of_ble_eq_true rfl⟩) ⟨z_blind _ _ _ _, va_recv hK hP (ci := 7) (q0 := 0) rfl rfl, fun U hU hW => z_preE hP hD hK hB hS hA hU hW⟩ rfl rfl hl.1 rfl (lv_room (Nat.le_of_ble_eq_true rfl)) dX11_modeBehind_33 ⟨Nat.le_of_ble_eq_true rfl, Nat.le_of_ble_eq_true rfl⟩) hD hS hA (fun _ => rfl) (fun r u H locs hw hP hD hS => ?_)
    subst hw
    have hP : va_P (gD g) zCl (wModel g q0 q1 q2 q3 q4 q5 q6 q7 q8 q9 q10 q11 q12 mm masd msav misS mpst mchg merr mfai mthr minp minM mUp mcar mcam mahd magn mltr mbeg mcmd mcmM mpl msz y1 mlin mliM) H := hP
    have hD : va_D A (wModel g q0 q1 q2 q3 q4 q5 q6 q7 q8 q9 q10 q11 q12 mm masd msav misS mpst mchg merr mfai mthr minp minM mUp mcar mcam mahd magn mltr mbeg mcmd mcmM mpl msz y1 mlin mliM) := hD
    refine lv_istore_n (lv' := [(1, .int zo2), (0, .ref q0)]) hx hb dX11_modeBehind_36 rfl hl (by decide) rfl (fun ls hl => ?_)
    refine lv_aload_n hx hb dX11_modeBehind_37 rfl (lv_at hl 1 rfl) ?_
    refine lv_dup hx hb dX11_modeBehind_38 rfl ?_
    refine va_get (D := gD g) (ci := 7) (v := .int mpl) (C := RX11) (T := TX11) (N := 25) hx hb hts inX11 hown hK hP 0 rfl rfl 20 (by decide) (hts _ mU_1264) (fun _ h9 => h9) rfl dX11_modeBehind_39 ?_
    refine lv_aload_n hx hb dX11_modeBehind_42 rfl (lv_at hl 1 rfl) ?_
    refine va_get (D := gD g) (ci := 7) (v := .int y1) (C := RX11) (T := TX11) (N := 25) hx hb hts inX11 hown hK hP 0 rfl rfl 22 (by decide) (hts _ mU_1266) (fun _ h9 => h9) rfl dX11_modeBehind_43 ?_
    refine lv_if_eq (tgt := 53) hx hb dX11_modeBehind_46 (by decide) (fun zc3 => ?_) (fun zc3 => ?_)
    · have hF := z_pos hF zc3
      refine lv_iconst (v := 1) hx hb dX11_modeBehind_53 (by decide) ?_
      refine lv_iadd hx hb dX11_modeBehind_54 ?_
      refine va_put (D := gD g) (ci := 7) (v := .int (mpl + 1)) (ty := .int) (C := RX11) (T := TX11) (N := 25) hx hb hts inX11 tyX11 tyX11_ok nmX11 hown hK hP hD hS 0 rfl rfl 20 (by decide) (hts _ mU_1264) (fun _ h9 => h9) rfl (by decide +kernel) rfl rfl (Nat.le_of_ble_eq_true rfl) dX11_modeBehind_55 (fun H locs hP hD hS => ?_)
      have hP : va_P (gD g) zCl (wModel g q0 q1 q2 q3 q4 q5 q6 q7 q8 q9 q10 q11 q12 mm masd msav misS mpst mchg merr mfai mthr minp minM mUp mcar mcam mahd magn mltr mbeg mcmd mcmM (mpl + 1) msz y1 mlin mliM) H := hP
      have hD : va_D A (wModel g q0 q1 q2 q3 q4 q5 q6 q7 q8 q9 q10 q11 q12 mm masd msav misS mpst mchg merr mfai mthr minp minM mUp mcar mcam mahd magn mltr mbeg mcmd mcmM (mpl + 1) msz y1 mlin mliM) := hD
      refine lv_iload_n hx hb dX11_modeBehind_58 rfl (lv_at hl 0 rfl) ?_
      have ho := (Option.some.inj hF).symm
      exact W.iret (v := zo2) hx hb hr (fun t ht hW => ⟨⟨zo2, ((mpl + 1), y1), rfl, ⟨by rw [ho], by rw [ho]⟩, z_end ht hP⟩, hS.F ht⟩) hS.2.2 dX11_modeBehind_59
    · have hF := z_neg hF zc3
      refine lv_iconst (v := 0) hx hb dX11_modeBehind_49 (by decide) ?_
      refine lv_goto (tgt := 54) hx hb dX11_modeBehind_50 (by decide) ?_
      refine lv_iadd hx hb dX11_modeBehind_54 ?_
      refine va_put (D := gD g) (ci := 7) (v := .int (mpl + 0)) (ty := .int) (C := RX11) (T := TX11) (N := 25) hx hb hts inX11 tyX11 tyX11_ok nmX11 hown hK hP hD hS 0 rfl rfl 20 (by decide) (hts _ mU_1264) (fun _ h9 => h9) rfl (by decide +kernel) rfl rfl (Nat.le_of_ble_eq_true rfl) dX11_modeBehind_55 (fun H locs hP hD hS => ?_)
      have hP : va_P (gD g) zCl (wModel g q0 q1 q2 q3 q4 q5 q6 q7 q8 q9 q10 q11 q12 mm masd msav misS mpst mchg merr mfai mthr minp minM mUp mcar mcam mahd magn mltr mbeg mcmd mcmM (mpl + 0) msz y1 mlin mliM) H := hP
      have hD : va_D A (wModel g q0 q1 q2 q3 q4 q5 q6 q7 q8 q9 q10 q11 q12 mm masd msav misS mpst mchg merr mfai mthr minp minM mUp mcar mcam mahd magn mltr mbeg mcmd mcmM (mpl + 0) msz y1 mlin mliM) := hD
      refine lv_iload_n hx hb dX11_modeBehind_58 rfl (lv_at hl 0 rfl) ?_
      have ho := (Option.some.inj hF).symm
      exact W.iret (v := zo2) hx hb hr (fun t ht hW => ⟨⟨zo2, ((mpl + 0), y1), rfl, ⟨by rw [ho], by rw [ho]⟩, z_end ht hP⟩, hS.F ht⟩) hS.2.2 dX11_modeBehind_59
  refine lv_aload_n hx hb dX11_modeBehind_0 rfl (lv_at hl 0 rfl) ?_
  refine lv_bipush (v := 32) hx hb dX11_modeBehind_1 (by decide) ?_
  obtain ⟨zo4, hzo4, hF⟩ := z_bind hF
  refine z_callvE (fun (u : Int32 × Int32) => (wModel g q0 q1 q2 q3 q4 q5 q6 q7 q8 q9 q10 q11 q12 mm masd msav misS mpst mchg merr mfai mthr minp minM mUp mcar mcam mahd magn mltr mbeg mcmd mcmM u.1 msz u.2 mlin mliM)) (va_runV (As := [.int 32]) (rest := []) ⟨hx, hb, hml, hown, hts⟩ (c_X11_expects l g q0 q1 q2 q3 q4 q5 q6 q7 q8 q9 q10 q11 q12 mm masd msav misS mpst mchg merr mfai mthr minp minM mUp mcar mcam mahd magn mltr mbeg mcmd mcmM mpl msz mwr mlin mliM _ 32 _ hzo4) (cwV 1 hts (gdV mU_1650 mU_1652 mU_59 mU_75 mU_1653) rfl rfl rfl (by decide +kernel) ⟨Nat.le_of_ble_eq_true rfl, Nat.le_of_ble_eq_true rfl⟩) ⟨z_blind _ _ _ _, va_recv hK hP (ci := 7) (q0 := 0) rfl rfl, fun U hU hW => z_preE hP hD hK hB hS hA hU hW⟩ rfl rfl hl.1 rfl (lv_room (Nat.le_of_ble_eq_true rfl)) dX11_modeBehind_3 ⟨Nat.le_of_ble_eq_true rfl, Nat.le_of_ble_eq_true rfl⟩) hD hS hA (fun _ => rfl) (fun u H locs hw hP hD hS => ?_)
  subst hw
  have hP : va_P (gD g) zCl (wModel g q0 q1 q2 q3 q4 q5 q6 q7 q8 q9 q10 q11 q12 mm masd msav misS mpst mchg merr mfai mthr minp minM mUp mcar mcam mahd magn mltr mbeg mcmd mcmM zo4.1 msz zo4.2 mlin mliM) H := hP
  have hD : va_D A (wModel g q0 q1 q2 q3 q4 q5 q6 q7 q8 q9 q10 q11 q12 mm masd msav misS mpst mchg merr mfai mthr minp minM mUp mcar mcam mahd magn mltr mbeg mcmd mcmM zo4.1 msz zo4.2 mlin mliM) := hD
  refine lv_aload_n hx hb dX11_modeBehind_6 rfl (lv_at hl 0 rfl) ?_
  refine lv_aload_n hx hb dX11_modeBehind_7 rfl (lv_at hl 0 rfl) ?_
  refine va_get (D := gD g) (ci := 7) (v := .int zo4.2) (C := RX11) (T := TX11) (N := 25) hx hb hts inX11 hown hK hP 0 rfl rfl 22 (by decide) (hts _ mU_1266) (fun _ h9 => h9) rfl dX11_modeBehind_8 ?_
  refine lv_if_ne (tgt := 24) hx hb dX11_modeBehind_11 (by decide) (fun zc5 => ?_) (fun zc5 => ?_)
  · have hF := z_neg hF zc5
    refine lv_iconst (v := 1) hx hb dX11_modeBehind_24 (by decide) ?_
    refine lv_goto (tgt := 29) hx hb dX11_modeBehind_25 (by decide) ?_
    exact K29 () zo4.1 zo4.2 1 hF _ _ _ (lv_sub hl [0] rfl) hP hD hS
  · have hF := z_pos hF zc5
    refine lv_aload_n hx hb dX11_modeBehind_14 rfl (lv_at hl 0 rfl) ?_
    obtain ⟨zo6, hzo6, hF⟩ := z_bind hF
    refine z_calliE (fun (_ : Unit) => (wModel g q0 q1 q2 q3 q4 q5 q6 q7 q8 q9 q10 q11 q12 mm masd msav misS mpst mchg merr mfai mthr minp minM mUp mcar mcam mahd magn mltr mbeg mcmd mcmM zo4.1 msz zo4.2 mlin mliM)) (va_runV (As := []) (rest := [.ref q0]) ⟨hx, hb, hml, hown, hts⟩ (c_X11_here l g q0 q1 q2 q3 q4 q5 q6 q7 q8 q9 q10 q11 q12 mm masd msav misS mpst mchg merr mfai mthr minp minM mUp mcar mcam mahd magn mltr mbeg mcmd mcmM zo4.1 msz zo4.2 mlin mliM _ _ hzo6) (cwV 0 hts (gdV mU_1632 mU_1634 mU_55 mU_75 mU_1635) rfl rfl rfl (by decide +kernel) ⟨Nat.le_of_ble_eq_true rfl, Nat.le_of_ble_eq_true rfl⟩) ⟨z_blind _ _ _ _, va_recv hK hP (ci := 7) (q0 := 0) rfl rfl, fun U hU hW => z_preE hP hD hK hB hS hA hU hW⟩ rfl rfl hl.1 rfl (lv_room (Nat.le_of_ble_eq_true rfl)) dX11_modeBehind_15 ⟨Nat.le_of_ble_eq_true rfl, Nat.le_of_ble_eq_true rfl⟩) hD hS hA (fun _ => rfl) (fun r u H locs hw hP hD hS => ?_)
    subst hw
    have hP : va_P (gD g) zCl (wModel g q0 q1 q2 q3 q4 q5 q6 q7 q8 q9 q10 q11 q12 mm masd msav misS mpst mchg merr mfai mthr minp minM mUp mcar mcam mahd magn mltr mbeg mcmd mcmM zo4.1 msz zo4.2 mlin mliM) H := hP
    have hD : va_D A (wModel g q0 q1 q2 q3 q4 q5 q6 q7 q8 q9 q10 q11 q12 mm masd msav misS mpst mchg merr mfai mthr minp minM mUp mcar mcam mahd magn mltr mbeg mcmd mcmM zo4.1 msz zo4.2 mlin mliM) := hD
    obtain ⟨zo7, hzo7, hF⟩ := z_bind hF
    refine z_calli (fun (_ : Unit) => []) [] (va_runS (As := [.int zo6]) (rest := [.ref q0]) ⟨hx, hb, hml, hown, hts⟩ (c_X11_isMode l g _ zo6 _ hzo7) (va_cwS 1 hts (gdS mU_1349 mU_1350 mU_75 mU_1351) rfl rfl rfl (by decide +kernel) ⟨Nat.le_of_ble_eq_true rfl, Nat.le_of_ble_eq_true rfl⟩) ⟨z_blind _ _ _ _, fun U hU hW => z_pre [] hP hD hK hB hS hA rfl rfl hU hW⟩ rfl rfl hl.1 rfl (lv_room (Nat.le_of_ble_eq_true rfl)) dX11_modeBehind_18 ⟨Nat.le_of_ble_eq_true rfl, Nat.le_of_ble_eq_true rfl⟩) hP hD hS hA rfl (fun _ => rfl) (fun r u H locs hw hP hD hS => ?_)
    subst hw
    have hP : va_P (gD g) zCl (wModel g q0 q1 q2 q3 q4 q5 q6 q7 q8 q9 q10 q11 q12 mm masd msav misS mpst mchg merr mfai mthr minp minM mUp mcar mcam mahd magn mltr mbeg mcmd mcmM zo4.1 msz zo4.2 mlin mliM) H := hP
    have hD : va_D A (wModel g q0 q1 q2 q3 q4 q5 q6 q7 q8 q9 q10 q11 q12 mm masd msav misS mpst mchg merr mfai mthr minp minM mUp mcar mcam mahd magn mltr mbeg mcmd mcmM zo4.1 msz zo4.2 mlin mliM) := hD
    refine lv_if_ne (tgt := 28) hx hb dX11_modeBehind_21 (by decide) (fun zc8 => ?_) (fun zc8 => ?_)
    · have hF := z_neg hF zc8
      refine lv_iconst (v := 0) hx hb dX11_modeBehind_28 (by decide) ?_
      exact K29 () zo4.1 zo4.2 0 hF _ _ _ (lv_sub hl [0] rfl) hP hD hS
    · have hF := z_pos hF zc8
      refine lv_iconst (v := 1) hx hb dX11_modeBehind_24 (by decide) ?_
      refine lv_goto (tgt := 29) hx hb dX11_modeBehind_25 (by decide) ?_
      exact K29 () zo4.1 zo4.2 1 hF _ _ _ (lv_sub hl [0] rfl) hP hD hS
