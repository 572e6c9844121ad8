abbrev w_X11_fractionHere : List Cond := .code yX11_fractionHere cX11_fractionHere 3 (some .int) :: wU
abbrev r_X11_fractionHere : Room := { frames := 2, cells := 0, slots := 0, locals := 46 }
abbrev q_X11_fractionHere (g : GG) (q0 q1 q2 q3 q4 q5 q6 q7 q8 q9 q10 q11 q12 : Nat) (mm : Nat → Int64) (masd : Nat → Int64) (msav : Nat → Int64) (misS : Int32) (mpst : Nat → Int64) (mchg : Int32) (merr : Int32) (mfai : Int32) (mthr : Int32) (minp : Nat → Int32) (minM : Int32) (mUp : Nat → Int32) (mcar : Nat → Int32) (mcam : Nat → Int32) (mahd : Int32) (magn : Int32) (mltr : Nat → Int32) (mbeg : Nat → Int32) (mcmd : Nat → Int32) (mcmM : Int32) (mpl : Int32) (msz : Int32) (mwr : Int32) (mlin : Nat → Int32) (mliM : Int32) (o : Int32 × Int32 × Int32) (A : Nat → Prop) := va_Qi (fun (r : Int32) (u : Int32 × Int32) => o.1 = r ∧ o.2 = u) (fun u t => va_P (gD g) zCl (wModel g q0 q1 q2 q3 q4 q5 q6 q7 q8 q9 q10 q11 q12 mm masd msav misS mpst mchg merr mfai mthr minp minM mUp mcar mcam mahd magn mltr mbeg mcmd mcmM u.1 msz u.2 mlin mliM) t.heap) A
set_option maxHeartbeats 4000000 in
set_option maxRecDepth 100000 in
theorem c_X11_fractionHere (l : Launch) (g : GG) (q0 q1 q2 q3 q4 q5 q6 q7 q8 q9 q10 q11 q12 : Nat) (mm : Nat → Int64) (masd : Nat → Int64) (msav : Nat → Int64) (misS : Int32) (mpst : Nat → Int64) (mchg : Int32) (merr : Int32) (mfai : Int32) (mthr : Int32) (minp : Nat → Int32) (minM : Int32) (mUp : Nat → Int32) (mcar : Nat → Int32) (mcam : Nat → Int32) (mahd : Int32) (magn : Int32) (mltr : Nat → Int32) (mbeg : Nat → Int32) (mcmd : Nat → Int32) (mcmM : Int32) (mpl : Int32) (msz : Int32) (mwr : Int32) (mlin : Nat → Int32) (mliM : Int32) (sz : Nat) (fu : Nat) (o : Int32 × Int32 × Int32) (hF : F_X11_fractionHere fu minp mpl msz mwr = some o) : Met l yX11_fractionHere w_X11_fractionHere r_X11_fractionHere (va_Pc [.ref q0] (zP g (wModel g q0 q1 q2 q3 q4 q5 q6 q7 q8 q9 q10 q11 q12 mm masd msav misS mpst mchg merr mfai mthr minp minM mUp mcar mcam mahd magn mltr mbeg mcmd mcmM mpl msz mwr mlin mliM) sz)) (q_X11_fractionHere g q0 q1 q2 q3 q4 q5 q6 q7 q8 q9 q10 q11 q12 mm masd msav misS mpst mchg merr mfai mthr minp minM mUp mcar mcam mahd magn mltr mbeg mcmd mcmM mpl msz mwr mlin mliM o (va_A (wModel g q0 q1 q2 q3 q4 q5 q6 q7 q8 q9 q10 q11 q12 mm masd msav misS mpst mchg merr mfai mthr minp minM mUp mcar mcam mahd magn mltr mbeg mcmd mcmM mpl msz mwr mlin mliM) sz)) 0 0 (va_A (wModel g q0 q1 q2 q3 q4 q5 q6 q7 q8 q9 q10 q11 q12 mm masd msav misS mpst mchg merr mfai mthr minp minM mUp mcar mcam mahd magn mltr mbeg mcmd mcmM mpl msz mwr mlin mliM) sz) := by
  refine Met.ofW (cc := cX11_fractionHere) (maxL := 3) (ret := (some .int)) (by decide) rfl ?_
  intro p e s m args below meth c s₁ B hml hv
  obtain ⟨rfl, rfl, hP, hK, hD0, hB⟩ := hv
  have hx := B.exec
  have hb := B.bytes
  have hr := B.returns
  have hts : ∀ w ∈ wU, w.before _ s = true := fun w h => atoms_spec (ws := w_X11_fractionHere) B.pre w (List.mem_cons_of_mem _ h)
  have hown : s.vm.findClass RX11 = some m.cls := findClass_of_methodNamed B.named
  have hlocks := B.notSynchronized
  have hD := hD0.self (sz := s.heap.size)
  generalize hAe : va_A (wModel g q0 q1 q2 q3 q4 q5 q6 q7 q8 q9 q10 q11 q12 mm masd msav misS mpst mchg merr mfai mthr minp minM mUp mcar mcam mahd magn mltr mbeg mcmd mcmM mpl msz mwr mlin mliM) s.heap.size = A at hD hB ⊢
  have hA : ∀ q : Nat, s.heap.size ≤ q → A q := fun q h => by rw [← hAe]; exact Or.inr h
  have hS : va_S A s.heap s.heap [] := va_S.rf
  have hl := lv_entry ([.ref q0]) (n := 3) (Nat.le_of_ble_eq_true rfl)
  rw [lg_entry_eq]
  generalize (lg_sl ([.ref q0]) ++ List.replicate (3 - (lg_sl ([.ref q0])).length) Slot.unset).toArray = ls at hl ⊢
  have hl : lv_has ls 3 [(0, .ref q0)] := hl
  unfold F_X11_fractionHere at hF
  have K80 : ∀ (n80 : Nat) (mpl : Int32) (mwr : Int32) (x1 : Int32) (x2 : Int32), F_X11_fractionHere_80 fu n80 minp mpl msz mwr x1 x2 = some o → ∀ (H : Heap) (locs : List Loc) (ls : Array Slot), lv_has ls 3 [(1, .int x1), (2, .int x2)] → va_P (gD g) zCl (wModel g q0 q1 q2 q3 q4 q5 q6 q7 q8 q9 q10 q11 q12 mm masd msav misS mpst mchg merr mfai mthr minp minM mUp mcar mcam mahd magn mltr mbeg mcmd mcmM mpl msz mwr mlin mliM) H → va_D A (wModel g q0 q1 q2 q3 q4 q5 q6 q7 q8 q9 q10 q11 q12 mm masd msav misS mpst mchg merr mfai mthr minp minM mUp mcar mcam mahd magn mltr mbeg mcmd mcmM mpl msz mwr mlin mliM) → va_S A s.heap H locs → W p l e (headSpec w_X11_fractionHere r_X11_fractionHere).room s m ([.ref q0] : List Value).toArray below meth c H locs 0 0 (MQ below (q_X11_fractionHere g q0 q1 q2 q3 q4 q5 q6 q7 q8 q9 q10 q11 q12 mm masd msav misS mpst mchg merr mfai mthr minp minM mUp mcar mcam mahd magn mltr mbeg mcmd mcmM mpl msz mwr mlin mliM o A) ([.ref q0] : List Value).toArray s 0 0 A) (F0 m 80 ls []) := by
    intro n80
    induction n80 with
    | zero =>
      intro mpl mwr x1 x2 hF
      exact absurd hF (by simp [F_X11_fractionHere_80])
    | succ n80 ih80 =>
      intro mpl mwr x1 x2 hF H locs ls hl hP hD hS
      unfold F_X11_fractionHere_80 at hF
      refine lv_iload_n hx hb dX11_fractionHere_80 rfl (lv_at hl 1 rfl) ?_
      refine lv_iconst (v := 4) hx hb dX11_fractionHere_81 (by decide) ?_
      refine lv_icmp_ge (tgt := 96) hx hb dX11_fractionHere_82 (by decide) (fun zc1 => ?_) (fun zc1 => ?_)
      · have hF := z_pos hF zc1
        refine lv_iload_n hx hb dX11_fractionHere_96 rfl (lv_at hl 0 rfl) ?_
        have ho := (Option.some.inj hF).symm
        exact W.iret (v := x1) hx hb hr (fun t ht hW => ⟨⟨x1, (mpl, mwr), rfl, ⟨by rw [ho], by rw [ho]⟩, z_end ht hP⟩, hS.F ht⟩) hS.2.2 dX11_fractionHere_97
      · have hF := z_neg hF zc1
        refine lv_iload_n hx hb dX11_fractionHere_85 rfl (lv_at hl 0 rfl) ?_
        refine lv_bipush (v := 10) hx hb dX11_fractionHere_86 (by decide) ?_
        refine lv_imul hx hb dX11_fractionHere_88 ?_
        obtain ⟨zv2, ezv2, hF⟩ := z_let hF
        refine z_topi ezv2 ?_
        refine lv_istore_n (lv' := [(1, .int zv2), (2, .int x2)]) hx hb dX11_fractionHere_89 rfl hl (by decide) rfl (fun ls hl => ?_)
        obtain ⟨zv3, ezv3, hF⟩ := z_let hF
        refine lv_iinc (v := zv3) (lv' := [(2, .int zv3), (1, .int zv2)]) hx hb dX11_fractionHere_90 hl (k := 1) rfl (by rw [ezv3]; rfl) (by decide) rfl (fun ls hl => ?_)
        refine lv_goto (tgt := 80) hx hb dX11_fractionHere_93 (by decide) ?_
        exact ih80 mpl mwr zv2 zv3 hF _ _ _ (lv_sub hl [1, 0] rfl) hP hD hS
  have K35 : ∀ (n35 : Nat) (mpl : Int32) (mwr : Int32) (x1 : Int32) (x2 : Int32), F_X11_fractionHere_35 fu n35 minp mpl msz mwr x1 x2 = some o → ∀ (H : Heap) (locs : List Loc) (ls : Array Slot), lv_has ls 3 [(0, .ref q0), (1, .int x1), (2, .int x2)] → va_P (gD g) zCl (wModel g q0 q1 q2 q3 q4 q5 q6 q7 q8 q9 q10 q11 q12 mm masd msav misS mpst mchg merr mfai mthr minp minM mUp mcar mcam mahd magn mltr mbeg mcmd mcmM mpl msz mwr mlin mliM) H → va_D A (wModel g q0 q1 q2 q3 q4 q5 q6 q7 q8 q9 q10 q11 q12 mm masd msav misS mpst mchg merr mfai mthr minp minM mUp mcar mcam mahd magn mltr mbeg mcmd mcmM mpl msz mwr mlin mliM) → va_S A s.heap H locs → W p l e (headSpec w_X11_fractionHere r_X11_fractionHere).room s m ([.ref q0] : List Value).toArray below meth c H locs 0 0 (MQ below (q_X11_fractionHere g q0 q1 q2 q3 q4 q5 q6 q7 q8 q9 q10 q11 q12 mm masd msav misS mpst mchg merr mfai mthr minp minM mUp mcar mcam mahd magn mltr mbeg mcmd mcmM mpl msz mwr mlin mliM o A) ([.ref q0] : List Value).toArray s 0 0 A) (F0 m 35 ls []) := by
    intro n35
    induction n35 with
    | zero =>
      intro mpl mwr x1 x2 hF
      exact absurd hF (by simp [F_X11_fractionHere_35])
    | succ n35 ih35 =>
      intro mpl mwr x1 x2 hF H locs ls hl hP hD hS
      unfold F_X11_fractionHere_35 at hF
      refine lv_iload_n hx hb dX11_fractionHere_35 rfl (lv_at hl 2 rfl) ?_
      refine lv_iconst (v := 4) hx hb dX11_fractionHere_36 (by decide) ?_
      refine lv_icmp_ge (tgt := 80) hx hb dX11_fractionHere_37 (by decide) (fun zc4 => ?_) (fun zc4 => ?_)
      · have hF := z_pos hF zc4
        exact K80 fu mpl mwr x1 x2 hF _ _ _ (lv_sub hl [1, 2] rfl) hP hD hS
      · have hF := z_neg hF zc4
        refine lv_aload_n hx hb dX11_fractionHere_40 rfl (lv_at hl 0 rfl) ?_
        refine va_get (D := gD g) (ci := 7) (v := .int mwr) (C := RX11) (T := TX11) (N := 25) hx hb hts inX11 hown hK hP 0 rfl rfl 22 (by decide) (hts _ mU_1266) (fun _ h9 => h9) rfl dX11_fractionHere_41 ?_
        refine lv_if_ne (tgt := 80) hx hb dX11_fractionHere_44 (by decide) (fun zc5 => ?_) (fun zc5 => ?_)
        · have hF := z_neg hF zc5
          exact K80 fu mpl mwr x1 x2 hF _ _ _ (lv_sub hl [1, 2] rfl) hP hD hS
        · have hF := z_pos hF zc5
          refine lv_aload_n hx hb dX11_fractionHere_47 rfl (lv_at hl 0 rfl) ?_
          obtain ⟨zo6, hzo6, hF⟩ := z_bind hF
          refine z_calliE (fun (_ : Unit) => (wModel g q0 q1 q2 q3 q4 q5 q6 q7 q8 q9 q10 q11 q12 mm masd msav misS mpst mchg merr mfai mthr minp minM mUp mcar mcam mahd magn mltr mbeg mcmd mcmM mpl msz mwr mlin mliM)) (va_runV (As := []) (rest := []) ⟨hx, hb, hml, hown, hts⟩ (c_X11_here l g q0 q1 q2 q3 q4 q5 q6 q7 q8 q9 q10 q11 q12 mm masd msav misS mpst mchg merr mfai mthr minp minM mUp mcar mcam mahd magn mltr mbeg mcmd mcmM mpl msz mwr mlin mliM _ _ hzo6) (cwV 0 hts (gdV mU_1632 mU_1634 mU_55 mU_75 mU_1635) rfl rfl rfl (by decide +kernel) ⟨Nat.le_of_ble_eq_true rfl, Nat.le_of_ble_eq_true rfl⟩) ⟨z_blind _ _ _ _, va_recv hK hP (ci := 7) (q0 := 0) rfl rfl, fun U hU hW => z_preE hP hD hK hB hS hA hU hW⟩ rfl rfl hl.1 rfl (lv_room (Nat.le_of_ble_eq_true rfl)) dX11_fractionHere_48 ⟨Nat.le_of_ble_eq_true rfl, Nat.le_of_ble_eq_true rfl⟩) hD hS hA (fun _ => rfl) (fun r u H locs hw hP hD hS => ?_)
          subst hw
          have hP : va_P (gD g) zCl (wModel g q0 q1 q2 q3 q4 q5 q6 q7 q8 q9 q10 q11 q12 mm masd msav misS mpst mchg merr mfai mthr minp minM mUp mcar mcam mahd magn mltr mbeg mcmd mcmM mpl msz mwr mlin mliM) H := hP
          have hD : va_D A (wModel g q0 q1 q2 q3 q4 q5 q6 q7 q8 q9 q10 q11 q12 mm masd msav misS mpst mchg merr mfai mthr minp minM mUp mcar mcam mahd magn mltr mbeg mcmd mcmM mpl msz mwr mlin mliM) := hD
          refine lv_i2l (v := (Int32.toInt64 zo6)) hx hb dX11_fractionHere_51 rfl ?_
          refine lv_ldc2 (v := 48) hx hb hown (hts _ mU_1636) dX11_fractionHere_52 ?_
          refine lv_ldc2 (v := 57) hx hb hown (hts _ mU_1637) dX11_fractionHere_55 ?_
          obtain ⟨zo7, hzo7, hF⟩ := z_bind hF
          refine z_calli (fun (_ : Unit) => []) [] (va_runS (As := [.long (Int32.toInt64 zo6), .long 48, .long 57]) (rest := []) ⟨hx, hb, hml, hown, hts⟩ (c_X11_in l g _ (Int32.toInt64 zo6) 48 57 _ hzo7) (va_cwS 3 hts (gdS mU_1341 mU_1342 mU_75 mU_1343) rfl rfl rfl (by decide +kernel) ⟨Nat.le_of_ble_eq_true rfl, Nat.le_of_ble_eq_true rfl⟩) ⟨z_blind _ _ _ _, fun U hU hW => z_pre [] hP hD hK hB hS hA rfl rfl hU hW⟩ rfl rfl hl.1 rfl (lv_room (Nat.le_of_ble_eq_true rfl)) dX11_fractionHere_58 ⟨Nat.le_of_ble_eq_true rfl, Nat.le_of_ble_eq_true rfl⟩) hP hD hS hA rfl (fun _ => rfl) (fun r u H locs hw hP hD hS => ?_)
          subst hw
          have hP : va_P (gD g) zCl (wModel g q0 q1 q2 q3 q4 q5 q6 q7 q8 q9 q10 q11 q12 mm masd msav misS mpst mchg merr mfai mthr minp minM mUp mcar mcam mahd magn mltr mbeg mcmd mcmM mpl msz mwr mlin mliM) H := hP
          have hD : va_D A (wModel g q0 q1 q2 q3 q4 q5 q6 q7 q8 q9 q10 q11 q12 mm masd msav misS mpst mchg merr mfai mthr minp minM mUp mcar mcam mahd magn mltr mbeg mcmd mcmM mpl msz mwr mlin mliM) := hD
          refine lv_if_eq (tgt := 80) hx hb dX11_fractionHere_61 (by decide) (fun zc8 => ?_) (fun zc8 => ?_)
          · have hF := z_pos hF zc8
            exact K80 fu mpl mwr x1 x2 hF _ _ _ (lv_sub hl [1, 2] rfl) hP hD hS
          · have hF := z_neg hF zc8
            refine lv_bipush (v := 10) hx hb dX11_fractionHere_64 (by decide) ?_
            refine lv_iload_n hx hb dX11_fractionHere_66 rfl (lv_at hl 1 rfl) ?_
            refine lv_imul hx hb dX11_fractionHere_67 ?_
            refine lv_aload_n hx hb dX11_fractionHere_68 rfl (lv_at hl 0 rfl) ?_
            obtain ⟨zo9, hzo9, hF⟩ := z_bind hF
            refine z_calliE (fun (u : Int32 × Int32) => (wModel g q0 q1 q2 q3 q4 q5 q6 q7 q8 q9 q10 q11 q12 mm masd msav misS mpst mchg merr mfai mthr minp minM mUp mcar mcam mahd magn mltr mbeg mcmd mcmM u.1 msz u.2 mlin mliM)) (va_runV (As := []) (rest := [.int (10 * x1)]) ⟨hx, hb, hml, hown, hts⟩ (c_X11_digitHere l g q0 q1 q2 q3 q4 q5 q6 q7 q8 q9 q10 q11 q12 mm masd msav misS mpst mchg merr mfai mthr minp minM mUp mcar mcam mahd magn mltr mbeg mcmd mcmM mpl msz mwr mlin mliM _ _ hzo9) (cwV 0 hts (gdV mU_1628 mU_1630 mU_54 mU_75 mU_1631) rfl rfl rfl (by decide +kernel) ⟨Nat.le_of_ble_eq_true rfl, Nat.le_of_ble_eq_true rfl⟩) ⟨z_blind _ _ _ _, va_recv hK hP (ci := 7) (q0 := 0) rfl rfl, fun U hU hW => z_preE hP hD hK hB hS hA hU hW⟩ rfl rfl hl.1 rfl (lv_room (Nat.le_of_ble_eq_true rfl)) dX11_fractionHere_69 ⟨Nat.le_of_ble_eq_true rfl, Nat.le_of_ble_eq_true rfl⟩) hD hS hA (fun _ => rfl) (fun r u H locs hw hP hD hS => ?_)
            obtain ⟨rfl, rfl⟩ := hw
            have hP : va_P (gD g) zCl (wModel g q0 q1 q2 q3 q4 q5 q6 q7 q8 q9 q10 q11 q12 mm masd msav misS mpst mchg merr mfai mthr minp minM mUp mcar mcam mahd magn mltr mbeg mcmd mcmM zo9.2.1 msz zo9.2.2 mlin mliM) H := hP
            have hD : va_D A (wModel g q0 q1 q2 q3 q4 q5 q6 q7 q8 q9 q10 q11 q12 mm masd msav misS mpst mchg merr mfai mthr minp minM mUp mcar mcam mahd magn mltr mbeg mcmd mcmM zo9.2.1 msz zo9.2.2 mlin mliM) := hD
            refine lv_iadd hx hb dX11_fractionHere_72 ?_
            obtain ⟨zv10, ezv10, hF⟩ := z_let hF
            refine z_topi ezv10 ?_
            refine lv_istore_n (lv' := [(1, .int zv10), (0, .ref q0), (2, .int x2)]) hx hb dX11_fractionHere_73 rfl hl (by decide) rfl (fun ls hl => ?_)
            obtain ⟨zv11, ezv11, hF⟩ := z_let hF
            refine lv_iinc (v := zv11) (lv' := [(2, .int zv11), (1, .int zv10), (0, .ref q0)]) hx hb dX11_fractionHere_74 hl (k := 2) rfl (by rw [ezv11]; rfl) (by decide) rfl (fun ls hl => ?_)
            refine lv_goto (tgt := 35) hx hb dX11_fractionHere_77 (by decide) ?_
            exact ih35 zo9.2.1 zo9.2.2 zv10 zv11 hF _ _ _ (lv_sub hl [2, 1, 0] rfl) hP hD hS
  refine lv_aload_n hx hb dX11_fractionHere_0 rfl (lv_at hl 0 rfl) ?_
  refine va_get (D := gD g) (ci := 7) (v := .int mwr) (C := RX11) (T := TX11) (N := 25) hx hb hts inX11 hown hK hP 0 rfl rfl 22 (by decide) (hts _ mU_1266) (fun _ h9 => h9) rfl dX11_fractionHere_1 ?_
  refine lv_if_ne (tgt := 16) hx hb dX11_fractionHere_4 (by decide) (fun zc12 => ?_) (fun zc12 => ?_)
  · have hF := z_neg hF zc12
    refine lv_iconst (v := 0) hx hb dX11_fractionHere_16 (by decide) ?_
    have ho := (Option.some.inj hF).symm
    exact W.iret (v := 0) hx hb hr (fun t ht hW => ⟨⟨0, (mpl, mwr), rfl, ⟨by rw [ho], by rw [ho]⟩, z_end ht hP⟩, hS.F ht⟩) hS.2.2 dX11_fractionHere_17
  · have hF := z_pos hF zc12
    refine lv_aload_n hx hb dX11_fractionHere_7 rfl (lv_at hl 0 rfl) ?_
    obtain ⟨zo13, hzo13, hF⟩ := z_bind hF
    refine z_calliE (fun (_ : Unit) => (wModel g q0 q1 q2 q3 q4 q5 q6 q7 q8 q9 q10 q11 q12 mm masd msav misS mpst mchg merr mfai mthr minp minM mUp mcar mcam mahd magn mltr mbeg mcmd mcmM mpl msz mwr mlin mliM)) (va_runV (As := []) (rest := []) ⟨hx, hb, hml, hown, hts⟩ (c_X11_here l g q0 q1 q2 q3 q4 q5 q6 q7 q8 q9 q10 q11 q12 mm masd msav misS mpst mchg merr mfai mthr minp minM mUp mcar mcam mahd magn mltr mbeg mcmd mcmM mpl msz mwr mlin mliM _ _ hzo13) (cwV 0 hts (gdV mU_1632 mU_1634 mU_55 mU_75 mU_1635) rfl rfl rfl (by decide +kernel) ⟨Nat.le_of_ble_eq_true rfl, Nat.le_of_ble_eq_true rfl⟩) ⟨z_blind _ _ _ _, va_recv hK hP (ci := 7) (q0 := 0) rfl rfl, fun U hU hW => z_preE hP hD hK hB hS hA hU hW⟩ rfl rfl hl.1 rfl (lv_room (Nat.le_of_ble_eq_true rfl)) dX11_fractionHere_8 ⟨Nat.le_of_ble_eq_true rfl, Nat.le_of_ble_eq_true rfl⟩) hD hS hA (fun _ => rfl) (fun r u H locs hw hP hD hS => ?_)
    subst hw
    have hP : va_P (gD g) zCl (wModel g q0 q1 q2 q3 q4 q5 q6 q7 q8 q9 q10 q11 q12 mm masd msav misS mpst mchg merr mfai mthr minp minM mUp mcar mcam mahd magn mltr mbeg mcmd mcmM mpl msz mwr mlin mliM) H := hP
    have hD : va_D A (wModel g q0 q1 q2 q3 q4 q5 q6 q7 q8 q9 q10 q11 q12 mm masd msav misS mpst mchg merr mfai mthr minp minM mUp mcar mcam mahd magn mltr mbeg mcmd mcmM mpl msz mwr mlin mliM) := hD
    refine lv_bipush (v := 46) hx hb dX11_fractionHere_11 (by decide) ?_
    refine lv_icmp_eq (tgt := 18) hx hb dX11_fractionHere_13 (by decide) (fun zc14 => ?_) (fun zc14 => ?_)
    · have hF := z_pos hF zc14
      refine lv_aload_n hx hb dX11_fractionHere_18 rfl (lv_at hl 0 rfl) ?_
      refine lv_dup hx hb dX11_fractionHere_19 rfl ?_
      refine va_get (D := gD g) (ci := 7) (v := .int mpl) (C := RX11) (T := TX11) (N := 25) hx hb hts inX11 hown hK hP 0 rfl rfl 20 (by decide) (hts _ mU_1264) (fun _ h9 => h9) rfl dX11_fractionHere_20 ?_
      refine lv_iconst (v := 1) hx hb dX11_fractionHere_23 (by decide) ?_
      refine lv_iadd hx hb dX11_fractionHere_24 ?_
      refine va_put (D := gD g) (ci := 7) (v := .int (mpl + 1)) (ty := .int) (C := RX11) (T := TX11) (N := 25) hx hb hts inX11 tyX11 tyX11_ok nmX11 hown hK hP hD hS 0 rfl rfl 20 (by decide) (hts _ mU_1264) (fun _ h9 => h9) rfl (by decide +kernel) rfl rfl (Nat.le_of_ble_eq_true rfl) dX11_fractionHere_25 (fun H locs hP hD hS => ?_)
      have hP : va_P (gD g) zCl (wModel g q0 q1 q2 q3 q4 q5 q6 q7 q8 q9 q10 q11 q12 mm masd msav misS mpst mchg merr mfai mthr minp minM mUp mcar mcam mahd magn mltr mbeg mcmd mcmM (mpl + 1) msz mwr mlin mliM) H := hP
      have hD : va_D A (wModel g q0 q1 q2 q3 q4 q5 q6 q7 q8 q9 q10 q11 q12 mm masd msav misS mpst mchg merr mfai mthr minp minM mUp mcar mcam mahd magn mltr mbeg mcmd mcmM (mpl + 1) msz mwr mlin mliM) := hD
      refine lv_aload_n hx hb dX11_fractionHere_28 rfl (lv_at hl 0 rfl) ?_
      obtain ⟨zo15, hzo15, hF⟩ := z_bind hF
      refine z_calliE (fun (u : Int32 × Int32) => (wModel g q0 q1 q2 q3 q4 q5 q6 q7 q8 q9 q10 q11 q12 mm masd msav misS mpst mchg merr mfai mthr minp minM mUp mcar mcam mahd magn mltr mbeg mcmd mcmM u.1 msz u.2 mlin mliM)) (va_runV (As := []) (rest := []) ⟨hx, hb, hml, hown, hts⟩ (c_X11_digitHere l g q0 q1 q2 q3 q4 q5 q6 q7 q8 q9 q10 q11 q12 mm masd msav misS mpst mchg merr mfai mthr minp minM mUp mcar mcam mahd magn mltr mbeg mcmd mcmM (mpl + 1) msz mwr mlin mliM _ _ hzo15) (cwV 0 hts (gdV mU_1628 mU_1630 mU_54 mU_75 mU_1631) rfl rfl rfl (by decide +kernel) ⟨Nat.le_of_ble_eq_true rfl, Nat.le_of_ble_eq_true rfl⟩) ⟨z_blind _ _ _ _, va_recv hK hP (ci := 7) (q0 := 0) rfl rfl, fun U hU hW => z_preE hP hD hK hB hS hA hU hW⟩ rfl rfl hl.1 rfl (lv_room (Nat.le_of_ble_eq_true rfl)) dX11_fractionHere_29 ⟨Nat.le_of_ble_eq_true rfl, Nat.le_of_ble_eq_true rfl⟩) hD hS hA (fun _ => rfl) (fun r u H locs hw hP hD hS => ?_)
      obtain ⟨rfl, rfl⟩ := hw
      have hP : va_P (gD g) zCl (wModel g q0 q1 q2 q3 q4 q5 q6 q7 q8 q9 q10 q11 q12 mm masd msav misS mpst mchg merr mfai mthr minp minM mUp mcar mcam mahd magn mltr mbeg mcmd mcmM zo15.2.1 msz zo15.2.2 mlin mliM) H := hP
      have hD : va_D A (wModel g q0 q1 q2 q3 q4 q5 q6 q7 q8 q9 q10 q11 q12 mm masd msav misS mpst mchg merr mfai mthr minp minM mUp mcar mcam mahd magn mltr mbeg mcmd mcmM zo15.2.1 msz zo15.2.2 mlin mliM) := hD
      refine lv_istore_n (lv' := [(1, .int zo15.1), (0, .ref q0)]) hx hb dX11_fractionHere_32 rfl hl (by decide) rfl (fun ls hl => ?_)
      refine lv_iconst (v := 1) hx hb dX11_fractionHere_33 (by decide) ?_
      refine lv_istore_n (lv' := [(2, .int 1), (1, .int zo15.1), (0, .ref q0)]) hx hb dX11_fractionHere_34 rfl hl (by decide) rfl (fun ls hl => ?_)
      exact K35 fu zo15.2.1 zo15.2.2 zo15.1 1 hF _ _ _ (lv_sub hl [2, 1, 0] rfl) hP hD hS
    · have hF := z_neg hF zc14
      refine lv_iconst (v := 0) hx hb dX11_fractionHere_16 (by decide) ?_
      have ho := (Option.some.inj hF).symm
      exact W.iret (v := 0) hx hb hr (fun t ht hW => ⟨⟨0, (mpl, mwr), rfl, ⟨by rw [ho], by rw [ho]⟩, z_end ht hP⟩, hS.F ht⟩) hS.2.2 dX11_fractionHere_17
abbrev w_X11_likeness : List Cond := .code yX11_likeness cX11_likeness 4 (some .int) :: wU
abbrev r_X11_likeness : Room := { frames := 0, cells := 0, slots := 0, locals := 0 }
abbrev q_X11_likeness (g : GG) (q0 q1 q2 q3 q4 q5 q6 q7 q8 q9 q10 q11 q12 : Nat) (mm : Nat → Int64) (masd : Nat → Int64) (msav : Nat → Int64) (misS : Int32) (mpst : Nat → Int64) (mchg : Int32) (merr : Int32) (mfai : Int32) (mthr : Int32) (minp : Nat → Int32) (minM : Int32) (mUp : Nat → Int32) (mcar : Nat → Int32) (mcam : Nat → Int32) (mahd : Int32) (magn : Int32) (mltr : Nat → Int32) (mbeg : Nat → Int32) (mcmd : Nat → Int32) (mcmM : Int32) (mpl : Int32) (msz : Int32) (mwr : Int32) (mlin : Nat → Int32) (mliM : Int32) (o : Int32) (A : Nat → Prop) := va_Qi (fun (r : Int32) (u : Unit) => o = r) (fun u t => va_P (gD g) zCl (wModel g q0 q1 q2 q3 q4 q5 q6 q7 q8 q9 q10 q11 q12 mm masd msav misS mpst mchg merr mfai mthr minp minM mUp mcar mcam mahd magn mltr mbeg mcmd mcmM mpl msz mwr mlin mliM) t.heap) A
set_option maxHeartbeats 4000000 in
set_option maxRecDepth 100000 in
theorem c_X11_likeness (l : Launch) (g : GG) (q0 q1 q2 q3 q4 q5 q6 q7 q8 q9 q10 q11 q12 : Nat) (mm : Nat → Int64) (masd : Nat → Int64) (msav : Nat → Int64) (misS : Int32) (mpst : Nat → Int64) (mchg : Int32) (merr : Int32) (mfai : Int32) (mthr : Int32) (minp : Nat → Int32) (minM : Int32) (mUp : Nat → Int32) (mcar : Nat → Int32) (mcam : Nat → Int32) (mahd : Int32) (magn : Int32) (mltr : Nat → Int32) (mbeg : Nat → Int32) (mcmd : Nat → Int32) (mcmM : Int32) (mpl : Int32) (msz : Int32) (mwr : Int32) (mlin : Nat → Int32) (mliM : Int32) (sz : Nat) (p1 : Int32) (fu : Nat) (o : Int32) (hF : F_X11_likeness fu minp mltr mbeg mpl msz p1 = some o) : Met l yX11_likeness w_X11_likeness r_X11_likeness (va_Pc [.ref q0, .int p1] (zP g (wModel g q0 q1 q2 q3 q4 q5 q6 q7 q8 q9 q10 q11 q12 mm masd msav misS mpst mchg merr mfai mthr minp minM mUp mcar mcam mahd magn mltr mbeg mcmd mcmM mpl msz mwr mlin mliM) sz)) (q_X11_likeness g q0 q1 q2 q3 q4 q5 q6 q7 q8 q9 q10 q11 q12 mm masd msav misS mpst mchg merr mfai mthr minp minM mUp mcar mcam mahd magn mltr mbeg mcmd mcmM mpl msz mwr mlin mliM o (va_A (wModel g q0 q1 q2 q3 q4 q5 q6 q7 q8 q9 q10 q11 q12 mm masd msav misS mpst mchg merr mfai mthr minp minM mUp mcar mcam mahd magn mltr mbeg mcmd mcmM mpl msz mwr mlin mliM) sz)) 0 0 (va_A (wModel g q0 q1 q2 q3 q4 q5 q6 q7 q8 q9 q10 q11 q12 mm masd msav misS mpst mchg merr mfai mthr minp minM mUp mcar mcam mahd magn mltr mbeg mcmd mcmM mpl msz mwr mlin mliM) sz) := by
  refine Met.ofW (cc := cX11_likeness) (maxL := 4) (ret := (some .int)) (by decide) rfl ?_
  intro p e s m args below meth c s₁ B hml hv
  obtain ⟨rfl, rfl, hP, hK, hD0, hB⟩ := hv
  have hx := B.exec
  have hb := B.bytes
  have hr := B.returns
  have hts : ∀ w ∈ wU, w.before _ s = true := fun w h => atoms_spec (ws := w_X11_likeness) B.pre w (List.mem_cons_of_mem _ h)
  have hown : s.vm.findClass RX11 = some m.cls := findClass_of_methodNamed B.named
  have hlocks := B.notSynchronized
  have hD := hD0.self (sz := s.heap.size)
  generalize hAe : va_A (wModel g q0 q1 q2 q3 q4 q5 q6 q7 q8 q9 q10 q11 q12 mm masd msav misS mpst mchg merr mfai mthr minp minM mUp mcar mcam mahd magn mltr mbeg mcmd mcmM mpl msz mwr mlin mliM) s.heap.size = A at hD hB ⊢
  have hA : ∀ q : Nat, s.heap.size ≤ q → A q := fun q h => by rw [← hAe]; exact Or.inr h
  have hS : va_S A s.heap s.heap [] := va_S.rf
  have hl := lv_entry ([.ref q0, .int p1]) (n := 4) (Nat.le_of_ble_eq_true rfl)
  rw [lg_entry_eq]
  generalize (lg_sl ([.ref q0, .int p1]) ++ List.replicate (4 - (lg_sl ([.ref q0, .int p1])).length) Slot.unset).toArray = ls at hl ⊢
  have hl : lv_has ls 4 [(0, .ref q0), (1, .int p1)] := hl
  unfold F_X11_likeness at hF
  have K18 : ∀ (n18 : Nat) (x2 : Int32) (x3 : Int32), F_X11_likeness_18 fu n18 minp mltr mbeg mpl msz p1 x2 x3 = some o → ∀ (H : Heap) (locs : List Loc) (ls : Array Slot), lv_has ls 4 [(0, .ref q0), (1, .int p1), (2, .int x2), (3, .int x3)] → va_P (gD g) zCl (wModel g q0 q1 q2 q3 q4 q5 q6 q7 q8 q9 q10 q11 q12 mm masd msav misS mpst mchg merr mfai mthr minp minM mUp mcar mcam mahd magn mltr mbeg mcmd mcmM mpl msz mwr mlin mliM) H → va_D A (wModel g q0 q1 q2 q3 q4 q5 q6 q7 q8 q9 q10 q11 q12 mm masd msav misS mpst mchg merr mfai mthr minp minM mUp mcar mcam mahd magn mltr mbeg mcmd mcmM mpl msz mwr mlin mliM) → va_S A s.heap H locs → W p l e (headSpec w_X11_likeness r_X11_likeness).room s m ([.ref q0, .int p1] : List Value).toArray below meth c H locs 0 0 (MQ below (q_X11_likeness g q0 q1 q2 q3 q4 q5 q6 q7 q8 q9 q10 q11 q12 mm masd msav misS mpst mchg merr mfai mthr minp minM mUp mcar mcam mahd magn mltr mbeg mcmd mcmM mpl msz mwr mlin mliM o A) ([.ref q0, .int p1] : List Value).toArray s 0 0 A) (F0 m 18 ls []) := by
    intro n18
    induction n18 with
    | zero =>
      intro x2 x3 hF
      exact absurd hF (by simp [F_X11_likeness_18])
    | succ n18 ih18 =>
      intro x2 x3 hF H locs ls hl hP hD hS
      unfold F_X11_likeness_18 at hF
      refine lv_iload_n hx hb dX11_likeness_18 rfl (lv_at hl 2 rfl) ?_
      refine lv_iload_n hx hb dX11_likeness_19 rfl (lv_at hl 3 rfl) ?_
      refine lv_icmp_ge (tgt := 69) hx hb dX11_likeness_20 (by decide) (fun zc1 => ?_) (fun zc1 => ?_)
      · have hF := z_pos hF zc1
        refine lv_iload_n hx hb dX11_likeness_69 rfl (lv_at hl 2 rfl) ?_
        have ho := (Option.some.inj hF).symm
        exact W.iret (v := x2) hx hb hr (fun t ht hW => ⟨⟨x2, (), rfl, ho, z_end ht hP⟩, hS.F ht⟩) hS.2.2 dX11_likeness_70
      · have hF := z_neg hF zc1
        refine lv_aload_n hx hb dX11_likeness_23 rfl (lv_at hl 0 rfl) ?_
        refine va_get (D := gD g) (ci := 7) (v := .int mpl) (C := RX11) (T := TX11) (N := 25) hx hb hts inX11 hown hK hP 0 rfl rfl 20 (by decide) (hts _ mU_1264) (fun _ h9 => h9) rfl dX11_likeness_24 ?_
        refine lv_iload_n hx hb dX11_likeness_27 rfl (lv_at hl 2 rfl) ?_
        refine lv_iadd hx hb dX11_likeness_28 ?_
        refine lv_aload_n hx hb dX11_likeness_29 rfl (lv_at hl 0 rfl) ?_
        refine va_get (D := gD g) (ci := 7) (v := .int msz) (C := RX11) (T := TX11) (N := 25) hx hb hts inX11 hown hK hP 0 rfl rfl 21 (by decide) (hts _ mU_1265) (fun _ h9 => h9) rfl dX11_likeness_30 ?_
        refine lv_icmp_ge (tgt := 69) hx hb dX11_likeness_33 (by decide) (fun zc2 => ?_) (fun zc2 => ?_)
        · have hF := z_pos hF zc2
          refine lv_iload_n hx hb dX11_likeness_69 rfl (lv_at hl 2 rfl) ?_
          have ho := (Option.some.inj hF).symm
          exact W.iret (v := x2) hx hb hr (fun t ht hW => ⟨⟨x2, (), rfl, ho, z_end ht hP⟩, hS.F ht⟩) hS.2.2 dX11_likeness_70
        · have hF := z_neg hF zc2
          refine lv_aload_n hx hb dX11_likeness_36 rfl (lv_at hl 0 rfl) ?_
          refine va_get (D := gD g) (ci := 7) (v := .ref q5) (C := RX11) (T := TX11) (N := 25) hx hb hts inX11 hown hK hP 0 rfl rfl 9 (by decide) (hts _ mU_1253) (fun _ h9 => h9) rfl dX11_likeness_37 ?_
          refine lv_aload_n hx hb dX11_likeness_40 rfl (lv_at hl 0 rfl) ?_
          refine va_get (D := gD g) (ci := 7) (v := .int mpl) (C := RX11) (T := TX11) (N := 25) hx hb hts inX11 hown hK hP 0 rfl rfl 20 (by decide) (hts _ mU_1264) (fun _ h9 => h9) rfl dX11_likeness_41 ?_
          refine lv_iload_n hx hb dX11_likeness_44 rfl (lv_at hl 2 rfl) ?_
          refine lv_iadd hx hb dX11_likeness_45 ?_
          obtain ⟨zg3, hF⟩ := z_grd hF
          refine va_iald hx hb hK hP 5 1 rfl rfl zg3 dX11_likeness_46 ?_
          refine lv_aload_n hx hb dX11_likeness_47 rfl (lv_at hl 0 rfl) ?_
          refine va_get (D := gD g) (ci := 7) (v := .ref q9) (C := RX11) (T := TX11) (N := 25) hx hb hts inX11 hown hK hP 0 rfl rfl 16 (by decide) (hts _ mU_1260) (fun _ h9 => h9) rfl dX11_likeness_48 ?_
          refine lv_aload_n hx hb dX11_likeness_51 rfl (lv_at hl 0 rfl) ?_
          refine va_get (D := gD g) (ci := 7) (v := .ref q10) (C := RX11) (T := TX11) (N := 25) hx hb hts inX11 hown hK hP 0 rfl rfl 17 (by decide) (hts _ mU_1261) (fun _ h9 => h9) rfl dX11_likeness_52 ?_
          refine lv_iload_n hx hb dX11_likeness_55 rfl (lv_at hl 1 rfl) ?_
          obtain ⟨zg4, hF⟩ := z_grd hF
          refine va_iald hx hb hK hP 10 1 rfl rfl zg4 dX11_likeness_56 ?_
          refine lv_iload_n hx hb dX11_likeness_57 rfl (lv_at hl 2 rfl) ?_
          refine lv_iadd hx hb dX11_likeness_58 ?_
          obtain ⟨zg5, hF⟩ := z_grd hF
          refine va_cald hx hb hK hP 9 0 rfl rfl zg5 dX11_likeness_59 ?_
          refine lv_icmp_ne (tgt := 69) hx hb dX11_likeness_60 (by decide) (fun zc6 => ?_) (fun zc6 => ?_)
          · have hF := z_neg hF zc6
            refine lv_iload_n hx hb dX11_likeness_69 rfl (lv_at hl 2 rfl) ?_
            have ho := (Option.some.inj hF).symm
            exact W.iret (v := x2) hx hb hr (fun t ht hW => ⟨⟨x2, (), rfl, ho, z_end ht hP⟩, hS.F ht⟩) hS.2.2 dX11_likeness_70
          · have hF := z_pos hF zc6
            obtain ⟨zv7, ezv7, hF⟩ := z_let hF
            refine lv_iinc (v := zv7) (lv' := [(2, .int zv7), (0, .ref q0), (1, .int p1), (3, .int x3)]) hx hb dX11_likeness_63 hl (k := 2) rfl (by rw [ezv7]; rfl) (by decide) rfl (fun ls hl => ?_)
            refine lv_goto (tgt := 18) hx hb dX11_likeness_66 (by decide) ?_
            exact ih18 zv7 x3 hF _ _ _ (lv_sub hl [1, 2, 0, 3] rfl) hP hD hS
  refine lv_iconst (v := 0) hx hb dX11_likeness_0 (by decide) ?_
  refine lv_istore_n (lv' := [(2, .int 0), (0, .ref q0), (1, .int p1)]) hx hb dX11_likeness_1 rfl hl (by decide) rfl (fun ls hl => ?_)
  refine lv_aload_n hx hb dX11_likeness_2 rfl (lv_at hl 1 rfl) ?_
  refine va_get (D := gD g) (ci := 7) (v := .ref q10) (C := RX11) (T := TX11) (N := 25) hx hb hts inX11 hown hK hP 0 rfl rfl 17 (by decide) (hts _ mU_1261) (fun _ h9 => h9) rfl dX11_likeness_3 ?_
  refine lv_iload_n hx hb dX11_likeness_6 rfl (lv_at hl 2 rfl) ?_
  refine lv_iconst (v := 1) hx hb dX11_likeness_7 (by decide) ?_
  refine lv_iadd hx hb dX11_likeness_8 ?_
  obtain ⟨zg8, hF⟩ := z_grd hF
  refine va_iald hx hb hK hP 10 1 rfl rfl zg8 dX11_likeness_9 ?_
  refine lv_aload_n hx hb dX11_likeness_10 rfl (lv_at hl 1 rfl) ?_
  refine va_get (D := gD g) (ci := 7) (v := .ref q10) (C := RX11) (T := TX11) (N := 25) hx hb hts inX11 hown hK hP 0 rfl rfl 17 (by decide) (hts _ mU_1261) (fun _ h9 => h9) rfl dX11_likeness_11 ?_
  refine lv_iload_n hx hb dX11_likeness_14 rfl (lv_at hl 2 rfl) ?_
  obtain ⟨zg9, hF⟩ := z_grd hF
  refine va_iald hx hb hK hP 10 1 rfl rfl zg9 dX11_likeness_15 ?_
  refine lv_isub hx hb dX11_likeness_16 ?_
  obtain ⟨zv10, ezv10, hF⟩ := z_let hF
  refine z_topi ezv10 ?_
  refine lv_istore_n (lv' := [(3, .int zv10), (2, .int 0), (0, .ref q0), (1, .int p1)]) hx hb dX11_likeness_17 rfl hl (by decide) rfl (fun ls hl => ?_)
  exact K18 fu 0 zv10 hF _ _ _ (lv_sub hl [2, 3, 1, 0] rfl) hP hD hS
abbrev w_X11_readArguments : List Cond := .code yX11_readArguments cX11_readArguments 3 none :: wU
abbrev r_X11_readArguments : Room := { frames := 4, cells := 0, slots := 0, locals := 89 }
abbrev q_X11_readArguments (g : GG) (q0 q1 q2 q3 q4 q5 q6 q7 q8 q9 q10 q11 q12 : Nat) (mm : Nat → Int64) (masd : Nat → Int64) (msav : Nat → Int64) (misS : Int32) (mpst : Nat → Int64) (mchg : Int32) (merr : Int32) (mfai : Int32) (mthr : Int32) (minp : Nat → Int32) (minM : Int32) (mUp : Nat → Int32) (mcar : Nat → Int32) (mcam : Nat → Int32) (mahd : Int32) (magn : Int32) (mltr : Nat → Int32) (mbeg : Nat → Int32) (mcmd : Nat → Int32) (mcmM : Int32) (mpl : Int32) (msz : Int32) (mwr : Int32) (mlin : Nat → Int32) (mliM : Int32) (o : (Nat → Int32) × Int32 × Int32) (A : Nat → Prop) := va_Qv (fun (u : (Nat → Int32) × Int32 × Int32) => o = u) (fun u t => va_P (gD g) zCl (wModel g q0 q1 q2 q3 q4 q5 q6 q7 q8 q9 q10 q11 q12 mm masd msav misS mpst mchg merr mfai mthr minp minM mUp mcar mcam mahd magn mltr mbeg u.1 mcmM u.2.1 msz u.2.2 mlin mliM) t.heap) A
set_option maxHeartbeats 4000000 in
set_option maxRecDepth 100000 in
theorem c_X11_readArguments (l : Launch) (g : GG) (q0 q1 q2 q3 q4 q5 q6 q7 q8 q9 q10 q11 q12 : Nat) (mm : Nat → Int64) (masd : Nat → Int64) (msav : Nat → Int64) (misS : Int32) (mpst : Nat → Int64) (mchg : Int32) (merr : Int32) (mfai : Int32) (mthr : Int32) (minp : Nat → Int32) (minM : Int32) (mUp : Nat → Int32) (mcar : Nat → Int32) (mcam : Nat → Int32) (mahd : Int32) (magn : Int32) (mltr : Nat → Int32) (mbeg : Nat → Int32) (mcmd : Nat → Int32) (mcmM : Int32) (mpl : Int32) (msz : Int32) (mwr : Int32) (mlin : Nat → Int32) (mliM : Int32) (sz : Nat) (p1 : Int32) (p2 : Int32) (fu : Nat) (o : (Nat → Int32) × Int32 × Int32) (hF : F_X11_readArguments fu minp mcmd mpl msz mwr p1 p2 = some o) : Met l yX11_readArguments w_X11_readArguments r_X11_readArguments (va_Pc [.ref q0, .int p1, .int p2] (zP g (wModel g q0 q1 q2 q3 q4 q5 q6 q7 q8 q9 q10 q11 q12 mm masd msav misS mpst mchg merr mfai mthr minp minM mUp mcar mcam mahd magn mltr mbeg mcmd mcmM mpl msz mwr mlin mliM) sz)) (q_X11_readArguments g q0 q1 q2 q3 q4 q5 q6 q7 q8 q9 q10 q11 q12 mm masd msav misS mpst mchg merr mfai mthr minp minM mUp mcar mcam mahd magn mltr mbeg mcmd mcmM mpl msz mwr mlin mliM o (va_A (wModel g q0 q1 q2 q3 q4 q5 q6 q7 q8 q9 q10 q11 q12 mm masd msav misS mpst mchg merr mfai mthr minp minM mUp mcar mcam mahd magn mltr mbeg mcmd mcmM mpl msz mwr mlin mliM) sz)) 0 0 (va_A (wModel g q0 q1 q2 q3 q4 q5 q6 q7 q8 q9 q10 q11 q12 mm masd msav misS mpst mchg merr mfai mthr minp minM mUp mcar mcam mahd magn mltr mbeg mcmd mcmM mpl msz mwr mlin mliM) sz) := by
  refine Met.ofW (cc := cX11_readArguments) (maxL := 3) (ret := none) (by decide) rfl ?_
  intro p e s m args below meth c s₁ B hml hv
  obtain ⟨rfl, rfl, hP, hK, hD0, hB⟩ := hv
  have hx := B.exec
  have hb := B.bytes
  have hr := B.returns
  have hts : ∀ w ∈ wU, w.before _ s = true := fun w h => atoms_spec (ws := w_X11_readArguments) B.pre w (List.mem_cons_of_mem _ h)
  have hown : s.vm.findClass RX11 = some m.cls := findClass_of_methodNamed B.named
  have hlocks := B.notSynchronized
  have hD := hD0.self (sz := s.heap.size)
  generalize hAe : va_A (wModel g q0 q1 q2 q3 q4 q5 q6 q7 q8 q9 q10 q11 q12 mm masd msav misS mpst mchg merr mfai mthr minp minM mUp mcar mcam mahd magn mltr mbeg mcmd mcmM mpl msz mwr mlin mliM) s.heap.size = A at hD hB ⊢
  have hA : ∀ q : Nat, s.heap.size ≤ q → A q := fun q h => by rw [← hAe]; exact Or.inr h
  have hS : va_S A s.heap s.heap [] := va_S.rf
  have hl := lv_entry ([.ref q0, .int p1, .int p2]) (n := 3) (Nat.le_of_ble_eq_true rfl)
  rw [lg_entry_eq]
  generalize (lg_sl ([.ref q0, .int p1, .int p2]) ++ List.replicate (3 - (lg_sl ([.ref q0, .int p1, .int p2])).length) Slot.unset).toArray = ls at hl ⊢
  have hl : lv_has ls 3 [(0, .ref q0), (1, .int p1), (2, .int p2)] := hl
  unfold F_X11_readArguments at hF
  have K22 : ∀ (_ : Unit) (mcmd : Nat → Int32) (mpl : Int32) (mwr : Int32) (y1 : Int32) (y2 : Int32), F_X11_readArguments_22 fu minp mcmd mpl msz mwr p1 p2 y1 y2 = some o → ∀ (H : Heap) (locs : List Loc) (ls : Array Slot), lv_has ls 3 [(0, .ref q0), (1, .int p1), (2, .int p2)] → va_P (gD g) zCl (wModel g q0 q1 q2 q3 q4 q5 q6 q7 q8 q9 q10 q11 q12 mm masd msav misS mpst mchg merr mfai mthr minp minM mUp mcar mcam mahd magn mltr mbeg mcmd mcmM mpl msz mwr mlin mliM) H → va_D A (wModel g q0 q1 q2 q3 q4 q5 q6 q7 q8 q9 q10 q11 q12 mm masd msav misS mpst mchg merr mfai mthr minp minM mUp mcar mcam mahd magn mltr mbeg mcmd mcmM mpl msz mwr mlin mliM) → va_S A s.heap H locs → W p l e (headSpec w_X11_readArguments r_X11_readArguments).room s m ([.ref q0, .int p1, .int p2] : List Value).toArray below meth c H locs 0 0 (MQ below (q_X11_readArguments g q0 q1 q2 q3 q4 q5 q6 q7 q8 q9 q10 q11 q12 mm masd msav misS mpst mchg merr mfai mthr minp minM mUp mcar mcam mahd magn mltr mbeg mcmd mcmM mpl msz mwr mlin mliM o A) ([.ref q0, .int p1, .int p2] : List Value).toArray s 0 0 A) (F0 m 22 ls [.int y2, .int y1, .ref q11]) := by
    intro _ mcmd mpl mwr y1 y2 hF H locs ls hl hP hD hS
    unfold F_X11_readArguments_22 at hF
    obtain ⟨zg1, hF⟩ := z_grd hF
    refine va_iast hx hb hK hP hD hS 11 1 rfl rfl zg1 dX11_readArguments_22 (fun H locs hP hD hS => ?_)
    have hP : va_P (gD g) zCl (wModel g q0 q1 q2 q3 q4 q5 q6 q7 q8 q9 q10 q11 q12 mm masd msav misS mpst mchg merr mfai mthr minp minM mUp mcar mcam mahd magn mltr mbeg (upd mcmd (Int32.toNatClampNeg y1) y2) mcmM mpl msz mwr mlin mliM) H := hP
    have hD : va_D A (wModel g q0 q1 q2 q3 q4 q5 q6 q7 q8 q9 q10 q11 q12 mm masd msav misS mpst mchg merr mfai mthr minp minM mUp mcar mcam mahd magn mltr mbeg (upd mcmd (Int32.toNatClampNeg y1) y2) mcmM mpl msz mwr mlin mliM) := hD
    refine lv_iload_n hx hb dX11_readArguments_23 rfl (lv_at hl 1 rfl) ?_
    by_cases zc2 : p1 = 0
    · have hF := z_pos hF zc2
      refine lv_tableIn (tgt := 68) (off := 44) hx hb dX11_readArguments_24 (by rw [zc2]; decide) (by rw [zc2]; decide) (by rw [zc2]; rfl) (by decide) ?_
      refine lv_aload_n hx hb dX11_readArguments_68 rfl (lv_at hl 0 rfl) ?_
      refine va_get (D := gD g) (ci := 7) (v := .ref q11) (C := RX11) (T := TX11) (N := 25) hx hb hts inX11 hown hK hP 0 rfl rfl 18 (by decide) (hts _ mU_1262) (fun _ h9 => h9) rfl dX11_readArguments_69 ?_
      refine lv_iload_n hx hb dX11_readArguments_72 rfl (lv_at hl 2 rfl) ?_
      refine lv_iconst (v := 1) hx hb dX11_readArguments_73 (by decide) ?_
      refine lv_iadd hx hb dX11_readArguments_74 ?_
      refine lv_aload_n hx hb dX11_readArguments_75 rfl (lv_at hl 0 rfl) ?_
      obtain ⟨zo3, hzo3, hF⟩ := z_bind hF
      refine z_calliE (fun (u : Int32 × Int32) => (wModel g q0 q1 q2 q3 q4 q5 q6 q7 q8 q9 q10 q11 q12 mm masd msav misS mpst mchg merr mfai mthr minp minM mUp mcar mcam mahd magn mltr mbeg (upd mcmd (Int32.toNatClampNeg y1) y2) mcmM u.1 msz u.2 mlin mliM)) (va_runV (As := []) (rest := [.int (p2 + 1), .ref q11]) ⟨hx, hb, hml, hown, hts⟩ (c_X11_fractionHere l g q0 q1 q2 q3 q4 q5 q6 q7 q8 q9 q10 q11 q12 mm masd msav misS mpst mchg merr mfai mthr minp minM mUp mcar mcam mahd magn mltr mbeg (upd mcmd (Int32.toNatClampNeg y1) y2) mcmM mpl msz mwr mlin mliM _ fu _ hzo3) (cwV 0 hts (gdV mU_1642 mU_1644 mU_57 mU_75 mU_1645) rfl rfl rfl (by decide +kernel) ⟨Nat.le_of_ble_eq_true rfl, Nat.le_of_ble_eq_true rfl⟩) ⟨z_blind _ _ _ _, va_recv hK hP (ci := 7) (q0 := 0) rfl rfl, fun U hU hW => z_preE hP hD hK hB hS hA hU hW⟩ rfl rfl hl.1 rfl (lv_room (Nat.le_of_ble_eq_true rfl)) dX11_readArguments_76 ⟨Nat.le_of_ble_eq_true rfl, Nat.le_of_ble_eq_true rfl⟩) hD hS hA (fun _ => rfl) (fun r u H locs hw hP hD hS => ?_)
      obtain ⟨rfl, rfl⟩ := hw
      have hP : va_P (gD g) zCl (wModel g q0 q1 q2 q3 q4 q5 q6 q7 q8 q9 q10 q11 q12 mm masd msav misS mpst mchg merr mfai mthr minp minM mUp mcar mcam mahd magn mltr mbeg (upd mcmd (Int32.toNatClampNeg y1) y2) mcmM zo3.2.1 msz zo3.2.2 mlin mliM) H := hP
      have hD : va_D A (wModel g q0 q1 q2 q3 q4 q5 q6 q7 q8 q9 q10 q11 q12 mm masd msav misS mpst mchg merr mfai mthr minp minM mUp mcar mcam mahd magn mltr mbeg (upd mcmd (Int32.toNatClampNeg y1) y2) mcmM zo3.2.1 msz zo3.2.2 mlin mliM) := hD
      obtain ⟨zg4, hF⟩ := z_grd hF
      refine va_iast hx hb hK hP hD hS 11 1 rfl rfl zg4 dX11_readArguments_79 (fun H locs hP hD hS => ?_)
      have hP : va_P (gD g) zCl (wModel g q0 q1 q2 q3 q4 q5 q6 q7 q8 q9 q10 q11 q12 mm masd msav misS mpst mchg merr mfai mthr minp minM mUp mcar mcam mahd magn mltr mbeg (upd (upd mcmd (Int32.toNatClampNeg y1) y2) (Int32.toNatClampNeg (p2 + 1)) zo3.1) mcmM zo3.2.1 msz zo3.2.2 mlin mliM) H := hP
      have hD : va_D A (wModel g q0 q1 q2 q3 q4 q5 q6 q7 q8 q9 q10 q11 q12 mm masd msav misS mpst mchg merr mfai mthr minp minM mUp mcar mcam mahd magn mltr mbeg (upd (upd mcmd (Int32.toNatClampNeg y1) y2) (Int32.toNatClampNeg (p2 + 1)) zo3.1) mcmM zo3.2.1 msz zo3.2.2 mlin mliM) := hD
      refine lv_aload_n hx hb dX11_readArguments_80 rfl (lv_at hl 0 rfl) ?_
      refine va_get (D := gD g) (ci := 7) (v := .ref q11) (C := RX11) (T := TX11) (N := 25) hx hb hts inX11 hown hK hP 0 rfl rfl 18 (by decide) (hts _ mU_1262) (fun _ h9 => h9) rfl dX11_readArguments_81 ?_
      refine lv_iload_n hx hb dX11_readArguments_84 rfl (lv_at hl 2 rfl) ?_
      refine lv_iconst (v := 2) hx hb dX11_readArguments_85 (by decide) ?_
      refine lv_iadd hx hb dX11_readArguments_86 ?_
      refine lv_aload_n hx hb dX11_readArguments_87 rfl (lv_at hl 0 rfl) ?_
      obtain ⟨zo5, hzo5, hF⟩ := z_bind hF
      refine z_calliE (fun (u : Int32 × Int32) => (wModel g q0 q1 q2 q3 q4 q5 q6 q7 q8 q9 q10 q11 q12 mm masd msav misS mpst mchg merr mfai mthr minp minM mUp mcar mcam mahd magn mltr mbeg (upd (upd mcmd (Int32.toNatClampNeg y1) y2) (Int32.toNatClampNeg (p2 + 1)) zo3.1) mcmM u.1 msz u.2 mlin mliM)) (va_runV (As := []) (rest := [.int (p2 + 2), .ref q11]) ⟨hx, hb, hml, hown, hts⟩ (c_X11_digitBehind l g q0 q1 q2 q3 q4 q5 q6 q7 q8 q9 q10 q11 q12 mm masd msav misS mpst mchg merr mfai mthr minp minM mUp mcar mcam mahd magn mltr mbeg (upd (upd mcmd (Int32.toNatClampNeg y1) y2) (Int32.toNatClampNeg (p2 + 1)) zo3.1) mcmM zo3.2.1 msz zo3.2.2 mlin mliM _ _ hzo5) (cwV 0 hts (gdV mU_1646 mU_1648 mU_58 mU_75 mU_1649) rfl rfl rfl (by decide +kernel) ⟨Nat.le_of_ble_eq_true rfl, Nat.le_of_ble_eq_true rfl⟩) ⟨z_blind _ _ _ _, va_recv hK hP (ci := 7) (q0 := 0) rfl rfl, fun U hU hW => z_preE hP hD hK hB hS hA hU hW⟩ rfl rfl hl.1 rfl (lv_room (Nat.le_of_ble_eq_true rfl)) dX11_readArguments_88 ⟨Nat.le_of_ble_eq_true rfl, Nat.le_of_ble_eq_true rfl⟩) hD hS hA (fun _ => rfl) (fun r u H locs hw hP hD hS => ?_)
      obtain ⟨rfl, rfl⟩ := hw
      have hP : va_P (gD g) zCl (wModel g q0 q1 q2 q3 q4 q5 q6 q7 q8 q9 q10 q11 q12 mm masd msav misS mpst mchg merr mfai mthr minp minM mUp mcar mcam mahd magn mltr mbeg (upd (upd mcmd (Int32.toNatClampNeg y1) y2) (Int32.toNatClampNeg (p2 + 1)) zo3.1) mcmM zo5.2.1 msz zo5.2.2 mlin mliM) H := hP
      have hD : va_D A (wModel g q0 q1 q2 q3 q4 q5 q6 q7 q8 q9 q10 q11 q12 mm masd msav misS mpst mchg merr mfai mthr minp minM mUp mcar mcam mahd magn mltr mbeg (upd (upd mcmd (Int32.toNatClampNeg y1) y2) (Int32.toNatClampNeg (p2 + 1)) zo3.1) mcmM zo5.2.1 msz zo5.2.2 mlin mliM) := hD
      obtain ⟨zg6, hF⟩ := z_grd hF
      refine va_iast hx hb hK hP hD hS 11 1 rfl rfl zg6 dX11_readArguments_91 (fun H locs hP hD hS => ?_)
      have hP : va_P (gD g) zCl (wModel g q0 q1 q2 q3 q4 q5 q6 q7 q8 q9 q10 q11 q12 mm masd msav misS mpst mchg merr mfai mthr minp minM mUp mcar mcam mahd magn mltr mbeg (upd (upd (upd mcmd (Int32.toNatClampNeg y1) y2) (Int32.toNatClampNeg (p2 + 1)) zo3.1) (Int32.toNatClampNeg (p2 + 2)) zo5.1) mcmM zo5.2.1 msz zo5.2.2 mlin mliM) H := hP
      have hD : va_D A (wModel g q0 q1 q2 q3 q4 q5 q6 q7 q8 q9 q10 q11 q12 mm masd msav misS mpst mchg merr mfai mthr minp minM mUp mcar mcam mahd magn mltr mbeg (upd (upd (upd mcmd (Int32.toNatClampNeg y1) y2) (Int32.toNatClampNeg (p2 + 1)) zo3.1) (Int32.toNatClampNeg (p2 + 2)) zo5.1) mcmM zo5.2.1 msz zo5.2.2 mlin mliM) := hD
      refine lv_aload_n hx hb dX11_readArguments_92 rfl (lv_at hl 0 rfl) ?_
      refine va_get (D := gD g) (ci := 7) (v := .ref q11) (C := RX11) (T := TX11) (N := 25) hx hb hts inX11 hown hK hP 0 rfl rfl 18 (by decide) (hts _ mU_1262) (fun _ h9 => h9) rfl dX11_readArguments_93 ?_
      refine lv_iload_n hx hb dX11_readArguments_96 rfl (lv_at hl 2 rfl) ?_
      refine lv_iconst (v := 3) hx hb dX11_readArguments_97 (by decide) ?_
      refine lv_iadd hx hb dX11_readArguments_98 ?_
      refine lv_aload_n hx hb dX11_readArguments_99 rfl (lv_at hl 0 rfl) ?_
      obtain ⟨zo7, hzo7, hF⟩ := z_bind hF
      refine z_calliE (fun (u : Int32 × Int32) => (wModel g q0 q1 q2 q3 q4 q5 q6 q7 q8 q9 q10 q11 q12 mm masd msav misS mpst mchg merr mfai mthr minp minM mUp mcar mcam mahd magn mltr mbeg (upd (upd (upd mcmd (Int32.toNatClampNeg y1) y2) (Int32.toNatClampNeg (p2 + 1)) zo3.1) (Int32.toNatClampNeg (p2 + 2)) zo5.1) mcmM u.1 msz u.2 mlin mliM)) (va_runV (As := []) (rest := [.int (p2 + 3), .ref q11]) ⟨hx, hb, hml, hown, hts⟩ (c_X11_modeBehind l g q0 q1 q2 q3 q4 q5 q6 q7 q8 q9 q10 q11 q12 mm masd msav misS mpst mchg merr mfai mthr minp minM mUp mcar mcam mahd magn mltr mbeg (upd (upd (upd mcmd (Int32.toNatClampNeg y1) y2) (Int32.toNatClampNeg (p2 + 1)) zo3.1) (Int32.toNatClampNeg (p2 + 2)) zo5.1) mcmM zo5.2.1 msz zo5.2.2 mlin mliM _ _ hzo7) (cwV 0 hts (gdV mU_1654 mU_1656 mU_60 mU_75 mU_1657) rfl rfl rfl (by decide +kernel) ⟨Nat.le_of_ble_eq_true rfl, Nat.le_of_ble_eq_true rfl⟩) ⟨z_blind _ _ _ _, va_recv hK hP (ci := 7) (q0 := 0) rfl rfl, fun U hU hW => z_preE hP hD hK hB hS hA hU hW⟩ rfl rfl hl.1 rfl (lv_room (Nat.le_of_ble_eq_true rfl)) dX11_readArguments_100 ⟨Nat.le_of_ble_eq_true rfl, Nat.le_of_ble_eq_true rfl⟩) hD hS hA (fun _ => rfl) (fun r u H locs hw hP hD hS => ?_)
      obtain ⟨rfl, rfl⟩ := hw
      have hP : va_P (gD g) zCl (wModel g q0 q1 q2 q3 q4 q5 q6 q7 q8 q9 q10 q11 q12 mm masd msav misS mpst mchg merr mfai mthr minp minM mUp mcar mcam mahd magn mltr mbeg (upd (upd (upd mcmd (Int32.toNatClampNeg y1) y2) (Int32.toNatClampNeg (p2 + 1)) zo3.1) (Int32.toNatClampNeg (p2 + 2)) zo5.1) mcmM zo7.2.1 msz zo7.2.2 mlin mliM) H := hP
      have hD : va_D A (wModel g q0 q1 q2 q3 q4 q5 q6 q7 q8 q9 q10 q11 q12 mm masd msav misS mpst mchg merr mfai mthr minp minM mUp mcar mcam mahd magn mltr mbeg (upd (upd (upd mcmd (Int32.toNatClampNeg y1) y2) (Int32.toNatClampNeg (p2 + 1)) zo3.1) (Int32.toNatClampNeg (p2 + 2)) zo5.1) mcmM zo7.2.1 msz zo7.2.2 mlin mliM) := hD
      obtain ⟨zg8, hF⟩ := z_grd hF
      refine va_iast hx hb hK hP hD hS 11 1 rfl rfl zg8 dX11_readArguments_103 (fun H locs hP hD hS => ?_)
      have hP : va_P (gD g) zCl (wModel g q0 q1 q2 q3 q4 q5 q6 q7 q8 q9 q10 q11 q12 mm masd msav misS mpst mchg merr mfai mthr minp minM mUp mcar mcam mahd magn mltr mbeg (upd (upd (upd (upd mcmd (Int32.toNatClampNeg y1) y2) (Int32.toNatClampNeg (p2 + 1)) zo3.1) (Int32.toNatClampNeg (p2 + 2)) zo5.1) (Int32.toNatClampNeg (p2 + 3)) zo7.1) mcmM zo7.2.1 msz zo7.2.2 mlin mliM) H := hP
      have hD : va_D A (wModel g q0 q1 q2 q3 q4 q5 q6 q7 q8 q9 q10 q11 q12 mm masd msav misS mpst mchg merr mfai mthr minp minM mUp mcar mcam mahd magn mltr mbeg (upd (upd (upd (upd mcmd (Int32.toNatClampNeg y1) y2) (Int32.toNatClampNeg (p2 + 1)) zo3.1) (Int32.toNatClampNeg (p2 + 2)) zo5.1) (Int32.toNatClampNeg (p2 + 3)) zo7.1) mcmM zo7.2.1 msz zo7.2.2 mlin mliM) := hD
      refine lv_goto (tgt := 250) hx hb dX11_readArguments_104 (by decide) ?_
      have ho := (Option.some.inj hF).symm
      exact W.vret hx hb hr (fun t ht hW => ⟨⟨((upd (upd (upd (upd mcmd (Int32.toNatClampNeg y1) y2) (Int32.toNatClampNeg (p2 + 1)) zo3.1) (Int32.toNatClampNeg (p2 + 2)) zo5.1) (Int32.toNatClampNeg (p2 + 3)) zo7.1), zo7.2.1, zo7.2.2), rfl, ho, z_end ht hP⟩, hS.F ht⟩) hS.2.2 dX11_readArguments_250
    have hF := z_neg hF zc2
    by_cases zc9 : p1 = 1
    · have hF := z_pos hF zc9
      refine lv_tableIn (tgt := 107) (off := 83) hx hb dX11_readArguments_24 (by rw [zc9]; decide) (by rw [zc9]; decide) (by rw [zc9]; rfl) (by decide) ?_
      refine lv_aload_n hx hb dX11_readArguments_107 rfl (lv_at hl 0 rfl) ?_
      refine va_get (D := gD g) (ci := 7) (v := .ref q11) (C := RX11) (T := TX11) (N := 25) hx hb hts inX11 hown hK hP 0 rfl rfl 18 (by decide) (hts _ mU_1262) (fun _ h9 => h9) rfl dX11_readArguments_108 ?_
      refine lv_iload_n hx hb dX11_readArguments_111 rfl (lv_at hl 2 rfl) ?_
      refine lv_iconst (v := 1) hx hb dX11_readArguments_112 (by decide) ?_
      refine lv_iadd hx hb dX11_readArguments_113 ?_
      refine lv_aload_n hx hb dX11_readArguments_114 rfl (lv_at hl 0 rfl) ?_
      refine lv_bipush (v := 47) hx hb dX11_readArguments_115 (by decide) ?_
      obtain ⟨zo10, hzo10, hF⟩ := z_bind hF
      refine z_calliE (fun (u : Int32 × Int32) => (wModel g q0 q1 q2 q3 q4 q5 q6 q7 q8 q9 q10 q11 q12 mm masd msav misS mpst mchg merr mfai mthr minp minM mUp mcar mcam mahd magn mltr mbeg (upd mcmd (Int32.toNatClampNeg y1) y2) mcmM u.1 msz u.2 mlin mliM)) (va_runV (As := [.int 47]) (rest := [.int (p2 + 1), .ref q11]) ⟨hx, hb, hml, hown, hts⟩ (c_X11_numberBehind l g q0 q1 q2 q3 q4 q5 q6 q7 q8 q9 q10 q11 q12 mm masd msav misS mpst mchg merr mfai mthr minp minM mUp mcar mcam mahd magn mltr mbeg (upd mcmd (Int32.toNatClampNeg y1) y2) mcmM mpl msz mwr mlin mliM _ 47 fu _ hzo10) (cwV 1 hts (gdV mU_1658 mU_1660 mU_61 mU_75 mU_1661) rfl rfl rfl (by decide +kernel) ⟨Nat.le_of_ble_eq_true rfl, Nat.le_of_ble_eq_true rfl⟩) ⟨z_blind _ _ _ _, va_recv hK hP (ci := 7) (q0 := 0) rfl rfl, fun U hU hW => z_preE hP hD hK hB hS hA hU hW⟩ rfl rfl hl.1 rfl (lv_room (Nat.le_of_ble_eq_true rfl)) dX11_readArguments_117 ⟨Nat.le_of_ble_eq_true rfl, Nat.le_of_ble_eq_true rfl⟩) hD hS hA (fun _ => rfl) (fun r u H locs hw hP hD hS => ?_)
      obtain ⟨rfl, rfl⟩ := hw
      have hP : va_P (gD g) zCl (wModel g q0 q1 q2 q3 q4 q5 q6 q7 q8 q9 q10 q11 q12 mm masd msav misS mpst mchg merr mfai mthr minp minM mUp mcar mcam mahd magn mltr mbeg (upd mcmd (Int32.toNatClampNeg y1) y2) mcmM zo10.2.1 msz zo10.2.2 mlin mliM) H := hP
      have hD : va_D A (wModel g q0 q1 q2 q3 q4 q5 q6 q7 q8 q9 q10 q11 q12 mm masd msav misS mpst mchg merr mfai mthr minp minM mUp mcar mcam mahd magn mltr mbeg (upd mcmd (Int32.toNatClampNeg y1) y2) mcmM zo10.2.1 msz zo10.2.2 mlin mliM) := hD
      obtain ⟨zg11, hF⟩ := z_grd hF
      refine va_iast hx hb hK hP hD hS 11 1 rfl rfl zg11 dX11_readArguments_120 (fun H locs hP hD hS => ?_)
      have hP : va_P (gD g) zCl (wModel g q0 q1 q2 q3 q4 q5 q6 q7 q8 q9 q10 q11 q12 mm masd msav misS mpst mchg merr mfai mthr minp minM mUp mcar mcam mahd magn mltr mbeg (upd (upd mcmd (Int32.toNatClampNeg y1) y2) (Int32.toNatClampNeg (p2 + 1)) zo10.1) mcmM zo10.2.1 msz zo10.2.2 mlin mliM) H := hP
      have hD : va_D A (wModel g q0 q1 q2 q3 q4 q5 q6 q7 q8 q9 q10 q11 q12 mm masd msav misS mpst mchg merr mfai mthr minp minM mUp mcar mcam mahd magn mltr mbeg (upd (upd mcmd (Int32.toNatClampNeg y1) y2) (Int32.toNatClampNeg (p2 + 1)) zo10.1) mcmM zo10.2.1 msz zo10.2.2 mlin mliM) := hD
      refine lv_aload_n hx hb dX11_readArguments_121 rfl (lv_at hl 0 rfl) ?_
      refine va_get (D := gD g) (ci := 7) (v := .ref q11) (C := RX11) (T := TX11) (N := 25) hx hb hts inX11 hown hK hP 0 rfl rfl 18 (by decide) (hts _ mU_1262) (fun _ h9 => h9) rfl dX11_readArguments_122 ?_
      refine lv_iload_n hx hb dX11_readArguments_125 rfl (lv_at hl 2 rfl) ?_
      refine lv_iconst (v := 2) hx hb dX11_readArguments_126 (by decide) ?_
      refine lv_iadd hx hb dX11_readArguments_127 ?_
      refine lv_aload_n hx hb dX11_readArguments_128 rfl (lv_at hl 0 rfl) ?_
      obtain ⟨zo12, hzo12, hF⟩ := z_bind hF
      refine z_calliE (fun (u : Int32 × Int32) => (wModel g q0 q1 q2 q3 q4 q5 q6 q7 q8 q9 q10 q11 q12 mm masd msav misS mpst mchg merr mfai mthr minp minM mUp mcar mcam mahd magn mltr mbeg (upd (upd mcmd (Int32.toNatClampNeg y1) y2) (Int32.toNatClampNeg (p2 + 1)) zo10.1) mcmM u.1 msz u.2 mlin mliM)) (va_runV (As := []) (rest := [.int (p2 + 2), .ref q11]) ⟨hx, hb, hml, hown, hts⟩ (c_X11_digitBehind l g q0 q1 q2 q3 q4 q5 q6 q7 q8 q9 q10 q11 q12 mm masd msav misS mpst mchg merr mfai mthr minp minM mUp mcar mcam mahd magn mltr mbeg (upd (upd mcmd (Int32.toNatClampNeg y1) y2) (Int32.toNatClampNeg (p2 + 1)) zo10.1) mcmM zo10.2.1 msz zo10.2.2 mlin mliM _ _ hzo12) (cwV 0 hts (gdV mU_1646 mU_1648 mU_58 mU_75 mU_1649) rfl rfl rfl (by decide +kernel) ⟨Nat.le_of_ble_eq_true rfl, Nat.le_of_ble_eq_true rfl⟩) ⟨z_blind _ _ _ _, va_recv hK hP (ci := 7) (q0 := 0) rfl rfl, fun U hU hW => z_preE hP hD hK hB hS hA hU hW⟩ rfl rfl hl.1 rfl (lv_room (Nat.le_of_ble_eq_true rfl)) dX11_readArguments_129 ⟨Nat.le_of_ble_eq_true rfl, Nat.le_of_ble_eq_true rfl⟩) hD hS hA (fun _ => rfl) (fun r u H locs hw hP hD hS => ?_)
      obtain ⟨rfl, rfl⟩ := hw
      have hP : va_P (gD g) zCl (wModel g q0 q1 q2 q3 q4 q5 q6 q7 q8 q9 q10 q11 q12 mm masd msav misS mpst mchg merr mfai mthr minp minM mUp mcar mcam mahd magn mltr mbeg (upd (upd mcmd (Int32.toNatClampNeg y1) y2) (Int32.toNatClampNeg (p2 + 1)) zo10.1) mcmM zo12.2.1 msz zo12.2.2 mlin mliM) H := hP
      have hD : va_D A (wModel g q0 q1 q2 q3 q4 q5 q6 q7 q8 q9 q10 q11 q12 mm masd msav misS mpst mchg merr mfai mthr minp minM mUp mcar mcam mahd magn mltr mbeg (upd (upd mcmd (Int32.toNatClampNeg y1) y2) (Int32.toNatClampNeg (p2 + 1)) zo10.1) mcmM zo12.2.1 msz zo12.2.2 mlin mliM) := hD
      obtain ⟨zg13, hF⟩ := z_grd hF
      refine va_iast hx hb hK hP hD hS 11 1 rfl rfl zg13 dX11_readArguments_132 (fun H locs hP hD hS => ?_)
      have hP : va_P (gD g) zCl (wModel g q0 q1 q2 q3 q4 q5 q6 q7 q8 q9 q10 q11 q12 mm masd msav misS mpst mchg merr mfai mthr minp minM mUp mcar mcam mahd magn mltr mbeg (upd (upd (upd mcmd (Int32.toNatClampNeg y1) y2) (Int32.toNatClampNeg (p2 + 1)) zo10.1) (Int32.toNatClampNeg (p2 + 2)) zo12.1) mcmM zo12.2.1 msz zo12.2.2 mlin mliM) H := hP
      have hD : va_D A (wModel g q0 q1 q2 q3 q4 q5 q6 q7 q8 q9 q10 q11 q12 mm masd msav misS mpst mchg merr mfai mthr minp minM mUp mcar mcam mahd magn mltr mbeg (upd (upd (upd mcmd (Int32.toNatClampNeg y1) y2) (Int32.toNatClampNeg (p2 + 1)) zo10.1) (Int32.toNatClampNeg (p2 + 2)) zo12.1) mcmM zo12.2.1 msz zo12.2.2 mlin mliM) := hD
      refine lv_aload_n hx hb dX11_readArguments_133 rfl (lv_at hl 0 rfl) ?_
      refine va_get (D := gD g) (ci := 7) (v := .ref q11) (C := RX11) (T := TX11) (N := 25) hx hb hts inX11 hown hK hP 0 rfl rfl 18 (by decide) (hts _ mU_1262) (fun _ h9 => h9) rfl dX11_readArguments_134 ?_
      refine lv_iload_n hx hb dX11_readArguments_137 rfl (lv_at hl 2 rfl) ?_
      refine lv_iconst (v := 3) hx hb dX11_readArguments_138 (by decide) ?_
      refine lv_iadd hx hb dX11_readArguments_139 ?_
      refine lv_aload_n hx hb dX11_readArguments_140 rfl (lv_at hl 0 rfl) ?_
      obtain ⟨zo14, hzo14, hF⟩ := z_bind hF
      refine z_calliE (fun (u : Int32 × Int32) => (wModel g q0 q1 q2 q3 q4 q5 q6 q7 q8 q9 q10 q11 q12 mm masd msav misS mpst mchg merr mfai mthr minp minM mUp mcar mcam mahd magn mltr mbeg (upd (upd (upd mcmd (Int32.toNatClampNeg y1) y2) (Int32.toNatClampNeg (p2 + 1)) zo10.1) (Int32.toNatClampNeg (p2 + 2)) zo12.1) mcmM u.1 msz u.2 mlin mliM)) (va_runV (As := []) (rest := [.int (p2 + 3), .ref q11]) ⟨hx, hb, hml, hown, hts⟩ (c_X11_modeBehind l g q0 q1 q2 q3 q4 q5 q6 q7 q8 q9 q10 q11 q12 mm masd msav misS mpst mchg merr mfai mthr minp minM mUp mcar mcam mahd magn mltr mbeg (upd (upd (upd mcmd (Int32.toNatClampNeg y1) y2) (Int32.toNatClampNeg (p2 + 1)) zo10.1) (Int32.toNatClampNeg (p2 + 2)) zo12.1) mcmM zo12.2.1 msz zo12.2.2 mlin mliM _ _ hzo14) (cwV 0 hts (gdV mU_1654 mU_1656 mU_60 mU_75 mU_1657) rfl rfl rfl (by decide +kernel) ⟨Nat.le_of_ble_eq_true rfl, Nat.le_of_ble_eq_true rfl⟩) ⟨z_blind _ _ _ _, va_recv hK hP (ci := 7) (q0 := 0) rfl rfl, fun U hU hW => z_preE hP hD hK hB hS hA hU hW⟩ rfl rfl hl.1 rfl (lv_room (Nat.le_of_ble_eq_true rfl)) dX11_readArguments_141 ⟨Nat.le_of_ble_eq_true rfl, Nat.le_of_ble_eq_true rfl⟩) hD hS hA (fun _ => rfl) (fun r u H locs hw hP hD hS => ?_)
      obtain ⟨rfl, rfl⟩ := hw
      have hP : va_P (gD g) zCl (wModel g q0 q1 q2 q3 q4 q5 q6 q7 q8 q9 q10 q11 q12 mm masd msav misS mpst mchg merr mfai mthr minp minM mUp mcar mcam mahd magn mltr mbeg (upd (upd (upd mcmd (Int32.toNatClampNeg y1) y2) (Int32.toNatClampNeg (p2 + 1)) zo10.1) (Int32.toNatClampNeg (p2 + 2)) zo12.1) mcmM zo14.2.1 msz zo14.2.2 mlin mliM) H := hP
      have hD : va_D A (wModel g q0 q1 q2 q3 q4 q5 q6 q7 q8 q9 q10 q11 q12 mm masd msav misS mpst mchg merr mfai mthr minp minM mUp mcar mcam mahd magn mltr mbeg (upd (upd (upd mcmd (Int32.toNatClampNeg y1) y2) (Int32.toNatClampNeg (p2 + 1)) zo10.1) (Int32.toNatClampNeg (p2 + 2)) zo12.1) mcmM zo14.2.1 msz zo14.2.2 mlin mliM) := hD
      obtain ⟨zg15, hF⟩ := z_grd hF
      refine va_iast hx hb hK hP hD hS 11 1 rfl rfl zg15 dX11_readArguments_144 (fun H locs hP hD hS => ?_)
      have hP : va_P (gD g) zCl (wModel g q0 q1 q2 q3 q4 q5 q6 q7 q8 q9 q10 q11 q12 mm masd msav misS mpst mchg merr mfai mthr minp minM mUp mcar mcam mahd magn mltr mbeg (upd (upd (upd (upd mcmd (Int32.toNatClampNeg y1) y2) (Int32.toNatClampNeg (p2 + 1)) zo10.1) (Int32.toNatClampNeg (p2 + 2)) zo12.1) (Int32.toNatClampNeg (p2 + 3)) zo14.1) mcmM zo14.2.1 msz zo14.2.2 mlin mliM) H := hP
      have hD : va_D A (wModel g q0 q1 q2 q3 q4 q5 q6 q7 q8 q9 q10 q11 q12 mm masd msav misS mpst mchg merr mfai mthr minp minM mUp mcar mcam mahd magn mltr mbeg (upd (upd (upd (upd mcmd (Int32.toNatClampNeg y1) y2) (Int32.toNatClampNeg (p2 + 1)) zo10.1) (Int32.toNatClampNeg (p2 + 2)) zo12.1) (Int32.toNatClampNeg (p2 + 3)) zo14.1) mcmM zo14.2.1 msz zo14.2.2 mlin mliM) := hD
      refine lv_goto (tgt := 250) hx hb dX11_readArguments_145 (by decide) ?_
      have ho := (Option.some.inj hF).symm
      exact W.vret hx hb hr (fun t ht hW => ⟨⟨((upd (upd (upd (upd mcmd (Int32.toNatClampNeg y1) y2) (Int32.toNatClampNeg (p2 + 1)) zo10.1) (Int32.toNatClampNeg (p2 + 2)) zo12.1) (Int32.toNatClampNeg (p2 + 3)) zo14.1), zo14.2.1, zo14.2.2), rfl, ho, z_end ht hP⟩, hS.F ht⟩) hS.2.2 dX11_readArguments_250
    have hF := z_neg hF zc9
    by_cases zc16 : p1 = 2
    · have hF := z_pos hF zc16
      refine lv_tableIn (tgt := 250) (off := 226) hx hb dX11_readArguments_24 (by rw [zc16]; decide) (by rw [zc16]; decide) (by rw [zc16]; rfl) (by decide) ?_
      have ho := (Option.some.inj hF).symm
      exact W.vret hx hb hr (fun t ht hW => ⟨⟨((upd mcmd (Int32.toNatClampNeg y1) y2), mpl, mwr), rfl, ho, z_end ht hP⟩, hS.F ht⟩) hS.2.2 dX11_readArguments_250
    have hF := z_neg hF zc16
    by_cases zc17 : p1 = 3
    · have hF := z_pos hF zc17
      refine lv_tableIn (tgt := 148) (off := 124) hx hb dX11_readArguments_24 (by rw [zc17]; decide) (by rw [zc17]; decide) (by rw [zc17]; rfl) (by decide) ?_
      refine lv_aload_n hx hb dX11_readArguments_148 rfl (lv_at hl 0 rfl) ?_
      refine va_get (D := gD g) (ci := 7) (v := .ref q11) (C := RX11) (T := TX11) (N := 25) hx hb hts inX11 hown hK hP 0 rfl rfl 18 (by decide) (hts _ mU_1262) (fun _ h9 => h9) rfl dX11_readArguments_149 ?_
      refine lv_iload_n hx hb dX11_readArguments_152 rfl (lv_at hl 2 rfl) ?_
      refine lv_iconst (v := 1) hx hb dX11_readArguments_153 (by decide) ?_
      refine lv_iadd hx hb dX11_readArguments_154 ?_
      refine lv_aload_n hx hb dX11_readArguments_155 rfl (lv_at hl 0 rfl) ?_
      refine lv_bipush (v := 32) hx hb dX11_readArguments_156 (by decide) ?_
      obtain ⟨zo18, hzo18, hF⟩ := z_bind hF
      refine z_calliE (fun (u : Int32 × Int32) => (wModel g q0 q1 q2 q3 q4 q5 q6 q7 q8 q9 q10 q11 q12 mm masd msav misS mpst mchg merr mfai mthr minp minM mUp mcar mcam mahd magn mltr mbeg (upd mcmd (Int32.toNatClampNeg y1) y2) mcmM u.1 msz u.2 mlin mliM)) (va_runV (As := [.int 32]) (rest := [.int (p2 + 1), .ref q11]) ⟨hx, hb, hml, hown, hts⟩ (c_X11_numberBehind l g q0 q1 q2 q3 q4 q5 q6 q7 q8 q9 q10 q11 q12 mm masd msav misS mpst mchg merr mfai mthr minp minM mUp mcar mcam mahd magn mltr mbeg (upd mcmd (Int32.toNatClampNeg y1) y2) mcmM mpl msz mwr mlin mliM _ 32 fu _ hzo18) (cwV 1 hts (gdV mU_1658 mU_1660 mU_61 mU_75 mU_1661) rfl rfl rfl (by decide +kernel) ⟨Nat.le_of_ble_eq_true rfl, Nat.le_of_ble_eq_true rfl⟩) ⟨z_blind _ _ _ _, va_recv hK hP (ci := 7) (q0 := 0) rfl rfl, fun U hU hW => z_preE hP hD hK hB hS hA hU hW⟩ rfl rfl hl.1 rfl (lv_room (Nat.le_of_ble_eq_true rfl)) dX11_readArguments_158 ⟨Nat.le_of_ble_eq_true rfl, Nat.le_of_ble_eq_true rfl⟩) hD hS hA (fun _ => rfl) (fun r u H locs hw hP hD hS => ?_)
      obtain ⟨rfl, rfl⟩ := hw
      have hP : va_P (gD g) zCl (wModel g q0 q1 q2 q3 q4 q5 q6 q7 q8 q9 q10 q11 q12 mm masd msav misS mpst mchg merr mfai mthr minp minM mUp mcar mcam mahd magn mltr mbeg (upd mcmd (Int32.toNatClampNeg y1) y2) mcmM zo18.2.1 msz zo18.2.2 mlin mliM) H := hP
      have hD : va_D A (wModel g q0 q1 q2 q3 q4 q5 q6 q7 q8 q9 q10 q11 q12 mm masd msav misS mpst mchg merr mfai mthr minp minM mUp mcar mcam mahd magn mltr mbeg (upd mcmd (Int32.toNatClampNeg y1) y2) mcmM zo18.2.1 msz zo18.2.2 mlin mliM) := hD
      obtain ⟨zg19, hF⟩ := z_grd hF
      refine va_iast hx hb hK hP hD hS 11 1 rfl rfl zg19 dX11_readArguments_161 (fun H locs hP hD hS => ?_)
      have hP : va_P (gD g) zCl (wModel g q0 q1 q2 q3 q4 q5 q6 q7 q8 q9 q10 q11 q12 mm masd msav misS mpst mchg merr mfai mthr minp minM mUp mcar mcam mahd magn mltr mbeg (upd (upd mcmd (Int32.toNatClampNeg y1) y2) (Int32.toNatClampNeg (p2 + 1)) zo18.1) mcmM zo18.2.1 msz zo18.2.2 mlin mliM) H := hP
      have hD : va_D A (wModel g q0 q1 q2 q3 q4 q5 q6 q7 q8 q9 q10 q11 q12 mm masd msav misS mpst mchg merr mfai mthr minp minM mUp mcar mcam mahd magn mltr mbeg (upd (upd mcmd (Int32.toNatClampNeg y1) y2) (Int32.toNatClampNeg (p2 + 1)) zo18.1) mcmM zo18.2.1 msz zo18.2.2 mlin mliM) := hD
      refine lv_aload_n hx hb dX11_readArguments_162 rfl (lv_at hl 0 rfl) ?_
      refine va_get (D := gD g) (ci := 7) (v := .ref q11) (C := RX11) (T := TX11) (N := 25) hx hb hts inX11 hown hK hP 0 rfl rfl 18 (by decide) (hts _ mU_1262) (fun _ h9 => h9) rfl dX11_readArguments_163 ?_
      refine lv_iload_n hx hb dX11_readArguments_166 rfl (lv_at hl 2 rfl) ?_
      refine lv_iconst (v := 2) hx hb dX11_readArguments_167 (by decide) ?_
      refine lv_iadd hx hb dX11_readArguments_168 ?_
      refine lv_aload_n hx hb dX11_readArguments_169 rfl (lv_at hl 0 rfl) ?_
      obtain ⟨zo20, hzo20, hF⟩ := z_bind hF
      refine z_calliE (fun (u : Int32 × Int32) => (wModel g q0 q1 q2 q3 q4 q5 q6 q7 q8 q9 q10 q11 q12 mm masd msav misS mpst mchg merr mfai mthr minp minM mUp mcar mcam mahd magn mltr mbeg (upd (upd mcmd (Int32.toNatClampNeg y1) y2) (Int32.toNatClampNeg (p2 + 1)) zo18.1) mcmM u.1 msz u.2 mlin mliM)) (va_runV (As := []) (rest := [.int (p2 + 2), .ref q11]) ⟨hx, hb, hml, hown, hts⟩ (c_X11_fractionHere l g q0 q1 q2 q3 q4 q5 q6 q7 q8 q9 q10 q11 q12 mm masd msav misS mpst mchg merr mfai mthr minp minM mUp mcar mcam mahd magn mltr mbeg (upd (upd mcmd (Int32.toNatClampNeg y1) y2) (Int32.toNatClampNeg (p2 + 1)) zo18.1) mcmM zo18.2.1 msz zo18.2.2 mlin mliM _ fu _ hzo20) (cwV 0 hts (gdV mU_1642 mU_1644 mU_57 mU_75 mU_1645) rfl rfl rfl (by decide +kernel) ⟨Nat.le_of_ble_eq_true rfl, Nat.le_of_ble_eq_true rfl⟩) ⟨z_blind _ _ _ _, va_recv hK hP (ci := 7) (q0 := 0) rfl rfl, fun U hU hW => z_preE hP hD hK hB hS hA hU hW⟩ rfl rfl hl.1 rfl (lv_room (Nat.le_of_ble_eq_true rfl)) dX11_readArguments_170 ⟨Nat.le_of_ble_eq_true rfl, Nat.le_of_ble_eq_true rfl⟩) hD hS hA (fun _ => rfl) (fun r u H locs hw hP hD hS => ?_)
      obtain ⟨rfl, rfl⟩ := hw
      have hP : va_P (gD g) zCl (wModel g q0 q1 q2 q3 q4 q5 q6 q7 q8 q9 q10 q11 q12 mm masd msav misS mpst mchg merr mfai mthr minp minM mUp mcar mcam mahd magn mltr mbeg (upd (upd mcmd (Int32.toNatClampNeg y1) y2) (Int32.toNatClampNeg (p2 + 1)) zo18.1) mcmM zo20.2.1 msz zo20.2.2 mlin mliM) H := hP
      have hD : va_D A (wModel g q0 q1 q2 q3 q4 q5 q6 q7 q8 q9 q10 q11 q12 mm masd msav misS mpst mchg merr mfai mthr minp minM mUp mcar mcam mahd magn mltr mbeg (upd (upd mcmd (Int32.toNatClampNeg y1) y2) (Int32.toNatClampNeg (p2 + 1)) zo18.1) mcmM zo20.2.1 msz zo20.2.2 mlin mliM) := hD
      obtain ⟨zg21, hF⟩ := z_grd hF
      refine va_iast hx hb hK hP hD hS 11 1 rfl rfl zg21 dX11_readArguments_173 (fun H locs hP hD hS => ?_)
      have hP : va_P (gD g) zCl (wModel g q0 q1 q2 q3 q4 q5 q6 q7 q8 q9 q10 q11 q12 mm masd msav misS mpst mchg merr mfai mthr minp minM mUp mcar mcam mahd magn mltr mbeg (upd (upd (upd mcmd (Int32.toNatClampNeg y1) y2) (Int32.toNatClampNeg (p2 + 1)) zo18.1) (Int32.toNatClampNeg (p2 + 2)) zo20.1) mcmM zo20.2.1 msz zo20.2.2 mlin mliM) H := hP
      have hD : va_D A (wModel g q0 q1 q2 q3 q4 q5 q6 q7 q8 q9 q10 q11 q12 mm masd msav misS mpst mchg merr mfai mthr minp minM mUp mcar mcam mahd magn mltr mbeg (upd (upd (upd mcmd (Int32.toNatClampNeg y1) y2) (Int32.toNatClampNeg (p2 + 1)) zo18.1) (Int32.toNatClampNeg (p2 + 2)) zo20.1) mcmM zo20.2.1 msz zo20.2.2 mlin mliM) := hD
      refine lv_goto (tgt := 250) hx hb dX11_readArguments_174 (by decide) ?_
      have ho := (Option.some.inj hF).symm
      exact W.vret hx hb hr (fun t ht hW => ⟨⟨((upd (upd (upd mcmd (Int32.toNatClampNeg y1) y2) (Int32.toNatClampNeg (p2 + 1)) zo18.1) (Int32.toNatClampNeg (p2 + 2)) zo20.1), zo20.2.1, zo20.2.2), rfl, ho, z_end ht hP⟩, hS.F ht⟩) hS.2.2 dX11_readArguments_250
    have hF := z_neg hF zc17
    by_cases zc22 : p1 = 4
    · have hF := z_pos hF zc22
      refine lv_tableIn (tgt := 177) (off := 153) hx hb dX11_readArguments_24 (by rw [zc22]; decide) (by rw [zc22]; decide) (by rw [zc22]; rfl) (by decide) ?_
      refine lv_aload_n hx hb dX11_readArguments_177 rfl (lv_at hl 0 rfl) ?_
      refine va_get (D := gD g) (ci := 7) (v := .ref q11) (C := RX11) (T := TX11) (N := 25) hx hb hts inX11 hown hK hP 0 rfl rfl 18 (by decide) (hts _ mU_1262) (fun _ h9 => h9) rfl dX11_readArguments_178 ?_
      refine lv_iload_n hx hb dX11_readArguments_181 rfl (lv_at hl 2 rfl) ?_
      refine lv_iconst (v := 1) hx hb dX11_readArguments_182 (by decide) ?_
      refine lv_iadd hx hb dX11_readArguments_183 ?_
      refine lv_aload_n hx hb dX11_readArguments_184 rfl (lv_at hl 0 rfl) ?_
      refine lv_bipush (v := 45) hx hb dX11_readArguments_185 (by decide) ?_
      obtain ⟨zo23, hzo23, hF⟩ := z_bind hF
      refine z_calliE (fun (u : Int32 × Int32) => (wModel g q0 q1 q2 q3 q4 q5 q6 q7 q8 q9 q10 q11 q12 mm masd msav misS mpst mchg merr mfai mthr minp minM mUp mcar mcam mahd magn mltr mbeg (upd mcmd (Int32.toNatClampNeg y1) y2) mcmM u.1 msz u.2 mlin mliM)) (va_runV (As := [.int 45]) (rest := [.int (p2 + 1), .ref q11]) ⟨hx, hb, hml, hown, hts⟩ (c_X11_numberBehind l g q0 q1 q2 q3 q4 q5 q6 q7 q8 q9 q10 q11 q12 mm masd msav misS mpst mchg merr mfai mthr minp minM mUp mcar mcam mahd magn mltr mbeg (upd mcmd (Int32.toNatClampNeg y1) y2) mcmM mpl msz mwr mlin mliM _ 45 fu _ hzo23) (cwV 1 hts (gdV mU_1658 mU_1660 mU_61 mU_75 mU_1661) rfl rfl rfl (by decide +kernel) ⟨Nat.le_of_ble_eq_true rfl, Nat.le_of_ble_eq_true rfl⟩) ⟨z_blind _ _ _ _, va_recv hK hP (ci := 7) (q0 := 0) rfl rfl, fun U hU hW => z_preE hP hD hK hB hS hA hU hW⟩ rfl rfl hl.1 rfl (lv_room (Nat.le_of_ble_eq_true rfl)) dX11_readArguments_187 ⟨Nat.le_of_ble_eq_true rfl, Nat.le_of_ble_eq_true rfl⟩) hD hS hA (fun _ => rfl) (fun r u H locs hw hP hD hS => ?_)
      obtain ⟨rfl, rfl⟩ := hw
      have hP : va_P (gD g) zCl (wModel g q0 q1 q2 q3 q4 q5 q6 q7 q8 q9 q10 q11 q12 mm masd msav misS mpst mchg merr mfai mthr minp minM mUp mcar mcam mahd magn mltr mbeg (upd mcmd (Int32.toNatClampNeg y1) y2) mcmM zo23.2.1 msz zo23.2.2 mlin mliM) H := hP
      have hD : va_D A (wModel g q0 q1 q2 q3 q4 q5 q6 q7 q8 q9 q10 q11 q12 mm masd msav misS mpst mchg merr mfai mthr minp minM mUp mcar mcam mahd magn mltr mbeg (upd mcmd (Int32.toNatClampNeg y1) y2) mcmM zo23.2.1 msz zo23.2.2 mlin mliM) := hD
      obtain ⟨zg24, hF⟩ := z_grd hF
      refine va_iast hx hb hK hP hD hS 11 1 rfl rfl zg24 dX11_readArguments_190 (fun H locs hP hD hS => ?_)
      have hP : va_P (gD g) zCl (wModel g q0 q1 q2 q3 q4 q5 q6 q7 q8 q9 q10 q11 q12 mm masd msav misS mpst mchg merr mfai mthr minp minM mUp mcar mcam mahd magn mltr mbeg (upd (upd mcmd (Int32.toNatClampNeg y1) y2) (Int32.toNatClampNeg (p2 + 1)) zo23.1) mcmM zo23.2.1 msz zo23.2.2 mlin mliM) H := hP
      have hD : va_D A (wModel g q0 q1 q2 q3 q4 q5 q6 q7 q8 q9 q10 q11 q12 mm masd msav misS mpst mchg merr mfai mthr minp minM mUp mcar mcam mahd magn mltr mbeg (upd (upd mcmd (Int32.toNatClampNeg y1) y2) (Int32.toNatClampNeg (p2 + 1)) zo23.1) mcmM zo23.2.1 msz zo23.2.2 mlin mliM) := hD
      refine lv_aload_n hx hb dX11_readArguments_191 rfl (lv_at hl 0 rfl) ?_
      refine va_get (D := gD g) (ci := 7) (v := .ref q11) (C := RX11) (T := TX11) (N := 25) hx hb hts inX11 hown hK hP 0 rfl rfl 18 (by decide) (hts _ mU_1262) (fun _ h9 => h9) rfl dX11_readArguments_192 ?_
      refine lv_iload_n hx hb dX11_readArguments_195 rfl (lv_at hl 2 rfl) ?_
      refine lv_iconst (v := 2) hx hb dX11_readArguments_196 (by decide) ?_
      refine lv_iadd hx hb dX11_readArguments_197 ?_
      refine lv_aload_n hx hb dX11_readArguments_198 rfl (lv_at hl 0 rfl) ?_
      refine lv_bipush (v := 32) hx hb dX11_readArguments_199 (by decide) ?_
      obtain ⟨zo25, hzo25, hF⟩ := z_bind hF
      refine z_calliE (fun (u : Int32 × Int32) => (wModel g q0 q1 q2 q3 q4 q5 q6 q7 q8 q9 q10 q11 q12 mm masd msav misS mpst mchg merr mfai mthr minp minM mUp mcar mcam mahd magn mltr mbeg (upd (upd mcmd (Int32.toNatClampNeg y1) y2) (Int32.toNatClampNeg (p2 + 1)) zo23.1) mcmM u.1 msz u.2 mlin mliM)) (va_runV (As := [.int 32]) (rest := [.int (p2 + 2), .ref q11]) ⟨hx, hb, hml, hown, hts⟩ (c_X11_numberBehind l g q0 q1 q2 q3 q4 q5 q6 q7 q8 q9 q10 q11 q12 mm masd msav misS mpst mchg merr mfai mthr minp minM mUp mcar mcam mahd magn mltr mbeg (upd (upd mcmd (Int32.toNatClampNeg y1) y2) (Int32.toNatClampNeg (p2 + 1)) zo23.1) mcmM zo23.2.1 msz zo23.2.2 mlin mliM _ 32 fu _ hzo25) (cwV 1 hts (gdV mU_1658 mU_1660 mU_61 mU_75 mU_1661) rfl rfl rfl (by decide +kernel) ⟨Nat.le_of_ble_eq_true rfl, Nat.le_of_ble_eq_true rfl⟩) ⟨z_blind _ _ _ _, va_recv hK hP (ci := 7) (q0 := 0) rfl rfl, fun U hU hW => z_preE hP hD hK hB hS hA hU hW⟩ rfl rfl hl.1 rfl (lv_room (Nat.le_of_ble_eq_true rfl)) dX11_readArguments_201 ⟨Nat.le_of_ble_eq_true rfl, Nat.le_of_ble_eq_true rfl⟩) hD hS hA (fun _ => rfl) (fun r u H locs hw hP hD hS => ?_)
      obtain ⟨rfl, rfl⟩ := hw
      have hP : va_P (gD g) zCl (wModel g q0 q1 q2 q3 q4 q5 q6 q7 q8 q9 q10 q11 q12 mm masd msav misS mpst mchg merr mfai mthr minp minM mUp mcar mcam mahd magn mltr mbeg (upd (upd mcmd (Int32.toNatClampNeg y1) y2) (Int32.toNatClampNeg (p2 + 1)) zo23.1) mcmM zo25.2.1 msz zo25.2.2 mlin mliM) H := hP
      have hD : va_D A (wModel g q0 q1 q2 q3 q4 q5 q6 q7 q8 q9 q10 q11 q12 mm masd msav misS mpst mchg merr mfai mthr minp minM mUp mcar mcam mahd magn mltr mbeg (upd (upd mcmd (Int32.toNatClampNeg y1) y2) (Int32.toNatClampNeg (p2 + 1)) zo23.1) mcmM zo25.2.1 msz zo25.2.2 mlin mliM) := hD
      obtain ⟨zg26, hF⟩ := z_grd hF
      refine va_iast hx hb hK hP hD hS 11 1 rfl rfl zg26 dX11_readArguments_204 (fun H locs hP hD hS => ?_)
      have hP : va_P (gD g) zCl (wModel g q0 q1 q2 q3 q4 q5 q6 q7 q8 q9 q10 q11 q12 mm masd msav misS mpst mchg merr mfai mthr minp minM mUp mcar mcam mahd magn mltr mbeg (upd (upd (upd mcmd (Int32.toNatClampNeg y1) y2) (Int32.toNatClampNeg (p2 + 1)) zo23.1) (Int32.toNatClampNeg (p2 + 2)) zo25.1) mcmM zo25.2.1 msz zo25.2.2 mlin mliM) H := hP
      have hD : va_D A (wModel g q0 q1 q2 q3 q4 q5 q6 q7 q8 q9 q10 q11 q12 mm masd msav misS mpst mchg merr mfai mthr minp minM mUp mcar mcam mahd magn mltr mbeg (upd (upd (upd mcmd (Int32.toNatClampNeg y1) y2) (Int32.toNatClampNeg (p2 + 1)) zo23.1) (Int32.toNatClampNeg (p2 + 2)) zo25.1) mcmM zo25.2.1 msz zo25.2.2 mlin mliM) := hD
      refine lv_aload_n hx hb dX11_readArguments_205 rfl (lv_at hl 0 rfl) ?_
      refine va_get (D := gD g) (ci := 7) (v := .ref q11) (C := RX11) (T := TX11) (N := 25) hx hb hts inX11 hown hK hP 0 rfl rfl 18 (by decide) (hts _ mU_1262) (fun _ h9 => h9) rfl dX11_readArguments_206 ?_
      refine lv_iload_n hx hb dX11_readArguments_209 rfl (lv_at hl 2 rfl) ?_
      refine lv_iconst (v := 3) hx hb dX11_readArguments_210 (by decide) ?_
      refine lv_iadd hx hb dX11_readArguments_211 ?_
      refine lv_aload_n hx hb dX11_readArguments_212 rfl (lv_at hl 0 rfl) ?_
      obtain ⟨zo27, hzo27, hF⟩ := z_bind hF
      refine z_calliE (fun (u : Int32 × Int32) => (wModel g q0 q1 q2 q3 q4 q5 q6 q7 q8 q9 q10 q11 q12 mm masd msav misS mpst mchg merr mfai mthr minp minM mUp mcar mcam mahd magn mltr mbeg (upd (upd (upd mcmd (Int32.toNatClampNeg y1) y2) (Int32.toNatClampNeg (p2 + 1)) zo23.1) (Int32.toNatClampNeg (p2 + 2)) zo25.1) mcmM u.1 msz u.2 mlin mliM)) (va_runV (As := []) (rest := [.int (p2 + 3), .ref q11]) ⟨hx, hb, hml, hown, hts⟩ (c_X11_fractionHere l g q0 q1 q2 q3 q4 q5 q6 q7 q8 q9 q10 q11 q12 mm masd msav misS mpst mchg merr mfai mthr minp minM mUp mcar mcam mahd magn mltr mbeg (upd (upd (upd mcmd (Int32.toNatClampNeg y1) y2) (Int32.toNatClampNeg (p2 + 1)) zo23.1) (Int32.toNatClampNeg (p2 + 2)) zo25.1) mcmM zo25.2.1 msz zo25.2.2 mlin mliM _ fu _ hzo27) (cwV 0 hts (gdV mU_1642 mU_1644 mU_57 mU_75 mU_1645) rfl rfl rfl (by decide +kernel) ⟨Nat.le_of_ble_eq_true rfl, Nat.le_of_ble_eq_true rfl⟩) ⟨z_blind _ _ _ _, va_recv hK hP (ci := 7) (q0 := 0) rfl rfl, fun U hU hW => z_preE hP hD hK hB hS hA hU hW⟩ rfl rfl hl.1 rfl (lv_room (Nat.le_of_ble_eq_true rfl)) dX11_readArguments_213 ⟨Nat.le_of_ble_eq_true rfl, Nat.le_of_ble_eq_true rfl⟩) hD hS hA (fun _ => rfl) (fun r u H locs hw hP hD hS => ?_)
      obtain ⟨rfl, rfl⟩ := hw
      have hP : va_P (gD g) zCl (wModel g q0 q1 q2 q3 q4 q5 q6 q7 q8 q9 q10 q11 q12 mm masd msav misS mpst mchg merr mfai mthr minp minM mUp mcar mcam mahd magn mltr mbeg (upd (upd (upd mcmd (Int32.toNatClampNeg y1) y2) (Int32.toNatClampNeg (p2 + 1)) zo23.1) (Int32.toNatClampNeg (p2 + 2)) zo25.1) mcmM zo27.2.1 msz zo27.2.2 mlin mliM) H := hP
      have hD : va_D A (wModel g q0 q1 q2 q3 q4 q5 q6 q7 q8 q9 q10 q11 q12 mm masd msav misS mpst mchg merr mfai mthr minp minM mUp mcar mcam mahd magn mltr mbeg (upd (upd (upd mcmd (Int32.toNatClampNeg y1) y2) (Int32.toNatClampNeg (p2 + 1)) zo23.1) (Int32.toNatClampNeg (p2 + 2)) zo25.1) mcmM zo27.2.1 msz zo27.2.2 mlin mliM) := hD
      obtain ⟨zg28, hF⟩ := z_grd hF
      refine va_iast hx hb hK hP hD hS 11 1 rfl rfl zg28 dX11_readArguments_216 (fun H locs hP hD hS => ?_)
      have hP : va_P (gD g) zCl (wModel g q0 q1 q2 q3 q4 q5 q6 q7 q8 q9 q10 q11 q12 mm masd msav misS mpst mchg merr mfai mthr minp minM mUp mcar mcam mahd magn mltr mbeg (upd (upd (upd (upd mcmd (Int32.toNatClampNeg y1) y2) (Int32.toNatClampNeg (p2 + 1)) zo23.1) (Int32.toNatClampNeg (p2 + 2)) zo25.1) (Int32.toNatClampNeg (p2 + 3)) zo27.1) mcmM zo27.2.1 msz zo27.2.2 mlin mliM) H := hP
      have hD : va_D A (wModel g q0 q1 q2 q3 q4 q5 q6 q7 q8 q9 q10 q11 q12 mm masd msav misS mpst mchg merr mfai mthr minp minM mUp mcar mcam mahd magn mltr mbeg (upd (upd (upd (upd mcmd (Int32.toNatClampNeg y1) y2) (Int32.toNatClampNeg (p2 + 1)) zo23.1) (Int32.toNatClampNeg (p2 + 2)) zo25.1) (Int32.toNatClampNeg (p2 + 3)) zo27.1) mcmM zo27.2.1 msz zo27.2.2 mlin mliM) := hD
      refine lv_goto (tgt := 250) hx hb dX11_readArguments_217 (by decide) ?_
      have ho := (Option.some.inj hF).symm
      exact W.vret hx hb hr (fun t ht hW => ⟨⟨((upd (upd (upd (upd mcmd (Int32.toNatClampNeg y1) y2) (Int32.toNatClampNeg (p2 + 1)) zo23.1) (Int32.toNatClampNeg (p2 + 2)) zo25.1) (Int32.toNatClampNeg (p2 + 3)) zo27.1), zo27.2.1, zo27.2.2), rfl, ho, z_end ht hP⟩, hS.F ht⟩) hS.2.2 dX11_readArguments_250
    have hF := z_neg hF zc22
    by_cases zc29 : p1 = 5
    · have hF := z_pos hF zc29
      refine lv_tableIn (tgt := 220) (off := 196) hx hb dX11_readArguments_24 (by rw [zc29]; decide) (by rw [zc29]; decide) (by rw [zc29]; rfl) (by decide) ?_
      refine lv_aload_n hx hb dX11_readArguments_220 rfl (lv_at hl 0 rfl) ?_
      refine va_get (D := gD g) (ci := 7) (v := .ref q11) (C := RX11) (T := TX11) (N := 25) hx hb hts inX11 hown hK hP 0 rfl rfl 18 (by decide) (hts _ mU_1262) (fun _ h9 => h9) rfl dX11_readArguments_221 ?_
      refine lv_iload_n hx hb dX11_readArguments_224 rfl (lv_at hl 2 rfl) ?_
      refine lv_iconst (v := 1) hx hb dX11_readArguments_225 (by decide) ?_
      refine lv_iadd hx hb dX11_readArguments_226 ?_
      refine lv_aload_n hx hb dX11_readArguments_227 rfl (lv_at hl 0 rfl) ?_
      obtain ⟨zo30, hzo30, hF⟩ := z_bind hF
      refine z_calliE (fun (u : Int32 × Int32) => (wModel g q0 q1 q2 q3 q4 q5 q6 q7 q8 q9 q10 q11 q12 mm masd msav misS mpst mchg merr mfai mthr minp minM mUp mcar mcam mahd magn mltr mbeg (upd mcmd (Int32.toNatClampNeg y1) y2) mcmM u.1 msz u.2 mlin mliM)) (va_runV (As := []) (rest := [.int (p2 + 1), .ref q11]) ⟨hx, hb, hml, hown, hts⟩ (c_X11_digitBehind l g q0 q1 q2 q3 q4 q5 q6 q7 q8 q9 q10 q11 q12 mm masd msav misS mpst mchg merr mfai mthr minp minM mUp mcar mcam mahd magn mltr mbeg (upd mcmd (Int32.toNatClampNeg y1) y2) mcmM mpl msz mwr mlin mliM _ _ hzo30) (cwV 0 hts (gdV mU_1646 mU_1648 mU_58 mU_75 mU_1649) rfl rfl rfl (by decide +kernel) ⟨Nat.le_of_ble_eq_true rfl, Nat.le_of_ble_eq_true rfl⟩) ⟨z_blind _ _ _ _, va_recv hK hP (ci := 7) (q0 := 0) rfl rfl, fun U hU hW => z_preE hP hD hK hB hS hA hU hW⟩ rfl rfl hl.1 rfl (lv_room (Nat.le_of_ble_eq_true rfl)) dX11_readArguments_228 ⟨Nat.le_of_ble_eq_true rfl, Nat.le_of_ble_eq_true rfl⟩) hD hS hA (fun _ => rfl) (fun r u H locs hw hP hD hS => ?_)
      obtain ⟨rfl, rfl⟩ := hw
      have hP : va_P (gD g) zCl (wModel g q0 q1 q2 q3 q4 q5 q6 q7 q8 q9 q10 q11 q12 mm masd msav misS mpst mchg merr mfai mthr minp minM mUp mcar mcam mahd magn mltr mbeg (upd mcmd (Int32.toNatClampNeg y1) y2) mcmM zo30.2.1 msz zo30.2.2 mlin mliM) H := hP
      have hD : va_D A (wModel g q0 q1 q2 q3 q4 q5 q6 q7 q8 q9 q10 q11 q12 mm masd msav misS mpst mchg merr mfai mthr minp minM mUp mcar mcam mahd magn mltr mbeg (upd mcmd (Int32.toNatClampNeg y1) y2) mcmM zo30.2.1 msz zo30.2.2 mlin mliM) := hD
      obtain ⟨zg31, hF⟩ := z_grd hF
      refine va_iast hx hb hK hP hD hS 11 1 rfl rfl zg31 dX11_readArguments_231 (fun H locs hP hD hS => ?_)
      have hP : va_P (gD g) zCl (wModel g q0 q1 q2 q3 q4 q5 q6 q7 q8 q9 q10 q11 q12 mm masd msav misS mpst mchg merr mfai mthr minp minM mUp mcar mcam mahd magn mltr mbeg (upd (upd mcmd (Int32.toNatClampNeg y1) y2) (Int32.toNatClampNeg (p2 + 1)) zo30.1) mcmM zo30.2.1 msz zo30.2.2 mlin mliM) H := hP
      have hD : va_D A (wModel g q0 q1 q2 q3 q4 q5 q6 q7 q8 q9 q10 q11 q12 mm masd msav misS mpst mchg merr mfai mthr minp minM mUp mcar mcam mahd magn mltr mbeg (upd (upd mcmd (Int32.toNatClampNeg y1) y2) (Int32.toNatClampNeg (p2 + 1)) zo30.1) mcmM zo30.2.1 msz zo30.2.2 mlin mliM) := hD
      refine lv_goto (tgt := 250) hx hb dX11_readArguments_232 (by decide) ?_
      have ho := (Option.some.inj hF).symm
      exact W.vret hx hb hr (fun t ht hW => ⟨⟨((upd (upd mcmd (Int32.toNatClampNeg y1) y2) (Int32.toNatClampNeg (p2 + 1)) zo30.1), zo30.2.1, zo30.2.2), rfl, ho, z_end ht hP⟩, hS.F ht⟩) hS.2.2 dX11_readArguments_250
    have hF := z_neg hF zc29
    by_cases zc32 : p1 = 6
    · have hF := z_pos hF zc32
      refine lv_tableIn (tgt := 235) (off := 211) hx hb dX11_readArguments_24 (by rw [zc32]; decide) (by rw [zc32]; decide) (by rw [zc32]; rfl) (by decide) ?_
      refine lv_aload_n hx hb dX11_readArguments_235 rfl (lv_at hl 0 rfl) ?_
      refine va_get (D := gD g) (ci := 7) (v := .ref q11) (C := RX11) (T := TX11) (N := 25) hx hb hts inX11 hown hK hP 0 rfl rfl 18 (by decide) (hts _ mU_1262) (fun _ h9 => h9) rfl dX11_readArguments_236 ?_
      refine lv_iload_n hx hb dX11_readArguments_239 rfl (lv_at hl 2 rfl) ?_
      refine lv_iconst (v := 1) hx hb dX11_readArguments_240 (by decide) ?_
      refine lv_iadd hx hb dX11_readArguments_241 ?_
      refine lv_aload_n hx hb dX11_readArguments_242 rfl (lv_at hl 0 rfl) ?_
      obtain ⟨zo33, hzo33, hF⟩ := z_bind hF
      refine z_calliE (fun (u : Int32 × Int32) => (wModel g q0 q1 q2 q3 q4 q5 q6 q7 q8 q9 q10 q11 q12 mm masd msav misS mpst mchg merr mfai mthr minp minM mUp mcar mcam mahd magn mltr mbeg (upd mcmd (Int32.toNatClampNeg y1) y2) mcmM u.1 msz u.2 mlin mliM)) (va_runV (As := []) (rest := [.int (p2 + 1), .ref q11]) ⟨hx, hb, hml, hown, hts⟩ (c_X11_modeBehind l g q0 q1 q2 q3 q4 q5 q6 q7 q8 q9 q10 q11 q12 mm masd msav misS mpst mchg merr mfai mthr minp minM mUp mcar mcam mahd magn mltr mbeg (upd mcmd (Int32.toNatClampNeg y1) y2) mcmM mpl msz mwr mlin mliM _ _ hzo33) (cwV 0 hts (gdV mU_1654 mU_1656 mU_60 mU_75 mU_1657) rfl rfl rfl (by decide +kernel) ⟨Nat.le_of_ble_eq_true rfl, Nat.le_of_ble_eq_true rfl⟩) ⟨z_blind _ _ _ _, va_recv hK hP (ci := 7) (q0 := 0) rfl rfl, fun U hU hW => z_preE hP hD hK hB hS hA hU hW⟩ rfl rfl hl.1 rfl (lv_room (Nat.le_of_ble_eq_true rfl)) dX11_readArguments_243 ⟨Nat.le_of_ble_eq_true rfl, Nat.le_of_ble_eq_true rfl⟩) hD hS hA (fun _ => rfl) (fun r u H locs hw hP hD hS => ?_)
      obtain ⟨rfl, rfl⟩ := hw
      have hP : va_P (gD g) zCl (wModel g q0 q1 q2 q3 q4 q5 q6 q7 q8 q9 q10 q11 q12 mm masd msav misS mpst mchg merr mfai mthr minp minM mUp mcar mcam mahd magn mltr mbeg (upd mcmd (Int32.toNatClampNeg y1) y2) mcmM zo33.2.1 msz zo33.2.2 mlin mliM) H := hP
      have hD : va_D A (wModel g q0 q1 q2 q3 q4 q5 q6 q7 q8 q9 q10 q11 q12 mm masd msav misS mpst mchg merr mfai mthr minp minM mUp mcar mcam mahd magn mltr mbeg (upd mcmd (Int32.toNatClampNeg y1) y2) mcmM zo33.2.1 msz zo33.2.2 mlin mliM) := hD
      obtain ⟨zg34, hF⟩ := z_grd hF
      refine va_iast hx hb hK hP hD hS 11 1 rfl rfl zg34 dX11_readArguments_246 (fun H locs hP hD hS => ?_)
      have hP : va_P (gD g) zCl (wModel g q0 q1 q2 q3 q4 q5 q6 q7 q8 q9 q10 q11 q12 mm masd msav misS mpst mchg merr mfai mthr minp minM mUp mcar mcam mahd magn mltr mbeg (upd (upd mcmd (Int32.toNatClampNeg y1) y2) (Int32.toNatClampNeg (p2 + 1)) zo33.1) mcmM zo33.2.1 msz zo33.2.2 mlin mliM) H := hP
      have hD : va_D A (wModel g q0 q1 q2 q3 q4 q5 q6 q7 q8 q9 q10 q11 q12 mm masd msav misS mpst mchg merr mfai mthr minp minM mUp mcar mcam mahd magn mltr mbeg (upd (upd mcmd (Int32.toNatClampNeg y1) y2) (Int32.toNatClampNeg (p2 + 1)) zo33.1) mcmM zo33.2.1 msz zo33.2.2 mlin mliM) := hD
      refine lv_goto (tgt := 250) hx hb dX11_readArguments_247 (by decide) ?_
      have ho := (Option.some.inj hF).symm
      exact W.vret hx hb hr (fun t ht hW => ⟨⟨((upd (upd mcmd (Int32.toNatClampNeg y1) y2) (Int32.toNatClampNeg (p2 + 1)) zo33.1), zo33.2.1, zo33.2.2), rfl, ho, z_end ht hP⟩, hS.F ht⟩) hS.2.2 dX11_readArguments_250
    have hF := z_neg hF zc32
    refine lv_tableOut (tgt := 250) hx hb dX11_readArguments_24 (by have hzc2 : (p1 : Int32).toInt ≠ 0 := fun h => zc2 (Int32.toInt_inj.mp h); have hzc9 : (p1 : Int32).toInt ≠ 1 := fun h => zc9 (Int32.toInt_inj.mp h); have hzc16 : (p1 : Int32).toInt ≠ 2 := fun h => zc16 (Int32.toInt_inj.mp h); have hzc17 : (p1 : Int32).toInt ≠ 3 := fun h => zc17 (Int32.toInt_inj.mp h); have hzc22 : (p1 : Int32).toInt ≠ 4 := fun h => zc22 (Int32.toInt_inj.mp h); have hzc29 : (p1 : Int32).toInt ≠ 5 := fun h => zc29 (Int32.toInt_inj.mp h); have hzc32 : (p1 : Int32).toInt ≠ 6 := fun h => zc32 (Int32.toInt_inj.mp h); omega) (by decide) ?_
    have ho := (Option.some.inj hF).symm
    exact W.vret hx hb hr (fun t ht hW => ⟨⟨((upd mcmd (Int32.toNatClampNeg y1) y2), mpl, mwr), rfl, ho, z_end ht hP⟩, hS.F ht⟩) hS.2.2 dX11_readArguments_250
  refine lv_aload_n hx hb dX11_readArguments_0 rfl (lv_at hl 0 rfl) ?_
  refine va_get (D := gD g) (ci := 7) (v := .ref q11) (C := RX11) (T := TX11) (N := 25) hx hb hts inX11 hown hK hP 0 rfl rfl 18 (by decide) (hts _ mU_1262) (fun _ h9 => h9) rfl dX11_readArguments_1 ?_
  refine lv_iload_n hx hb dX11_readArguments_4 rfl (lv_at hl 2 rfl) ?_
  refine lv_iload_n hx hb dX11_readArguments_5 rfl (lv_at hl 1 rfl) ?_
  refine lv_bipush (v := 7) hx hb dX11_readArguments_6 (by decide) ?_
  refine lv_icmp_ne (tgt := 18) hx hb dX11_readArguments_8 (by decide) (fun zc35 => ?_) (fun zc35 => ?_)
  · have hF := z_neg hF zc35
    refine lv_aload_n hx hb dX11_readArguments_18 rfl (lv_at hl 0 rfl) ?_
    obtain ⟨zo36, hzo36, hF⟩ := z_bind hF
    refine z_calliE (fun (u : Int32 × Int32) => (wModel g q0 q1 q2 q3 q4 q5 q6 q7 q8 q9 q10 q11 q12 mm masd msav misS mpst mchg merr mfai mthr minp minM mUp mcar mcam mahd magn mltr mbeg mcmd mcmM u.1 msz u.2 mlin mliM)) (va_runV (As := []) (rest := [.int p2, .ref q11]) ⟨hx, hb, hml, hown, hts⟩ (c_X11_number l g q0 q1 q2 q3 q4 q5 q6 q7 q8 q9 q10 q11 q12 mm masd msav misS mpst mchg merr mfai mthr minp minM mUp mcar mcam mahd magn mltr mbeg mcmd mcmM mpl msz mwr mlin mliM _ fu _ hzo36) (cwV 0 hts (gdV mU_1638 mU_1640 mU_56 mU_75 mU_1641) rfl rfl rfl (by decide +kernel) ⟨Nat.le_of_ble_eq_true rfl, Nat.le_of_ble_eq_true rfl⟩) ⟨z_blind _ _ _ _, va_recv hK hP (ci := 7) (q0 := 0) rfl rfl, fun U hU hW => z_preE hP hD hK hB hS hA hU hW⟩ rfl rfl hl.1 rfl (lv_room (Nat.le_of_ble_eq_true rfl)) dX11_readArguments_19 ⟨Nat.le_of_ble_eq_true rfl, Nat.le_of_ble_eq_true rfl⟩) hD hS hA (fun _ => rfl) (fun r u H locs hw hP hD hS => ?_)
    obtain ⟨rfl, rfl⟩ := hw
    have hP : va_P (gD g) zCl (wModel g q0 q1 q2 q3 q4 q5 q6 q7 q8 q9 q10 q11 q12 mm masd msav misS mpst mchg merr mfai mthr minp minM mUp mcar mcam mahd magn mltr mbeg mcmd mcmM zo36.2.1 msz zo36.2.2 mlin mliM) H := hP
    have hD : va_D A (wModel g q0 q1 q2 q3 q4 q5 q6 q7 q8 q9 q10 q11 q12 mm masd msav misS mpst mchg merr mfai mthr minp minM mUp mcar mcam mahd magn mltr mbeg mcmd mcmM zo36.2.1 msz zo36.2.2 mlin mliM) := hD
    exact K22 () mcmd zo36.2.1 zo36.2.2 p2 zo36.1 hF _ _ _ (lv_sub hl [0, 1, 2] rfl) hP hD hS
  · have hF := z_pos hF zc35
    refine lv_aload_n hx hb dX11_readArguments_11 rfl (lv_at hl 0 rfl) ?_
    obtain ⟨zo37, hzo37, hF⟩ := z_bind hF
    refine z_calliE (fun (u : Int32 × Int32) => (wModel g q0 q1 q2 q3 q4 q5 q6 q7 q8 q9 q10 q11 q12 mm masd msav misS mpst mchg merr mfai mthr minp minM mUp mcar mcam mahd magn mltr mbeg mcmd mcmM u.1 msz u.2 mlin mliM)) (va_runV (As := []) (rest := [.int p2, .ref q11]) ⟨hx, hb, hml, hown, hts⟩ (c_X11_digitHere l g q0 q1 q2 q3 q4 q5 q6 q7 q8 q9 q10 q11 q12 mm masd msav misS mpst mchg merr mfai mthr minp minM mUp mcar mcam mahd magn mltr mbeg mcmd mcmM mpl msz mwr mlin mliM _ _ hzo37) (cwV 0 hts (gdV mU_1628 mU_1630 mU_54 mU_75 mU_1631) rfl rfl rfl (by decide +kernel) ⟨Nat.le_of_ble_eq_true rfl, Nat.le_of_ble_eq_true rfl⟩) ⟨z_blind _ _ _ _, va_recv hK hP (ci := 7) (q0 := 0) rfl rfl, fun U hU hW => z_preE hP hD hK hB hS hA hU hW⟩ rfl rfl hl.1 rfl (lv_room (Nat.le_of_ble_eq_true rfl)) dX11_readArguments_12 ⟨Nat.le_of_ble_eq_true rfl, Nat.le_of_ble_eq_true rfl⟩) hD hS hA (fun _ => rfl) (fun r u H locs hw hP hD hS => ?_)
    obtain ⟨rfl, rfl⟩ := hw
    have hP : va_P (gD g) zCl (wModel g q0 q1 q2 q3 q4 q5 q6 q7 q8 q9 q10 q11 q12 mm masd msav misS mpst mchg merr mfai mthr minp minM mUp mcar mcam mahd magn mltr mbeg mcmd mcmM zo37.2.1 msz zo37.2.2 mlin mliM) H := hP
    have hD : va_D A (wModel g q0 q1 q2 q3 q4 q5 q6 q7 q8 q9 q10 q11 q12 mm masd msav misS mpst mchg merr mfai mthr minp minM mUp mcar mcam mahd magn mltr mbeg mcmd mcmM zo37.2.1 msz zo37.2.2 mlin mliM) := hD
    refine lv_goto (tgt := 22) hx hb dX11_readArguments_15 (by decide) ?_
    exact K22 () mcmd zo37.2.1 zo37.2.2 p2 zo37.1 hF _ _ _ (lv_sub hl [0, 1, 2] rfl) hP hD hS
abbrev w_X11_readCommand : List Cond := .code yX11_readCommand cX11_readCommand 4 none :: wU
abbrev r_X11_readCommand : Room := { frames := 5, cells := 0, slots := 0, locals := 111 }
abbrev q_X11_readCommand (g : GG) (q0 q1 q2 q3 q4 q5 q6 q7 q8 q9 q10 q11 q12 : Nat) (mm : Nat → Int64) (masd : Nat → Int64) (msav : Nat → Int64) (misS : Int32) (mpst : Nat → Int64) (mchg : Int32) (merr : Int32) (mfai : Int32) (mthr : Int32) (minp : Nat → Int32) (minM : Int32) (mUp : Nat → Int32) (mcar : Nat → Int32) (mcam : Nat → Int32) (mahd : Int32) (magn : Int32) (mltr : Nat → Int32) (mbeg : Nat → Int32) (mcmd : Nat → Int32) (mcmM : Int32) (mpl : Int32) (msz : Int32) (mwr : Int32) (mlin : Nat → Int32) (mliM : Int32) (o : (Nat → Int32) × Int32 × Int32 × Int32) (A : Nat → Prop) := va_Qv (fun (u : (Nat → Int32) × Int32 × Int32 × Int32) => o = u) (fun u t => va_P (gD g) zCl (wModel g q0 q1 q2 q3 q4 q5 q6 q7 q8 q9 q10 q11 q12 mm masd msav misS mpst mchg merr mfai mthr minp minM mUp mcar mcam mahd magn mltr mbeg u.1 u.2.1 u.2.2.1 msz u.2.2.2 mlin mliM) t.heap) A
set_option maxHeartbeats 4000000 in
set_option maxRecDepth 100000 in
theorem c_X11_readCommand (l : Launch) (g : GG) (q0 q1 q2 q3 q4 q5 q6 q7 q8 q9 q10 q11 q12 : Nat) (mm : Nat → Int64) (masd : Nat → Int64) (msav : Nat → Int64) (misS : Int32) (mpst : Nat → Int64) (mchg : Int32) (merr : Int32) (mfai : Int32) (mthr : Int32) (minp : Nat → Int32) (minM : Int32) (mUp : Nat → Int32) (mcar : Nat → Int32) (mcam : Nat → Int32) (mahd : Int32) (magn : Int32) (mltr : Nat → Int32) (mbeg : Nat → Int32) (mcmd : Nat → Int32) (mcmM : Int32) (mpl : Int32) (msz : Int32) (mwr : Int32) (mlin : Nat → Int32) (mliM : Int32) (sz : Nat) (fu : Nat) (o : (Nat → Int32) × Int32 × Int32 × Int32) (hF : F_X11_readCommand fu minp mltr mbeg mcmd mcmM mpl msz mwr = some o) : Met l yX11_readCommand w_X11_readCommand r_X11_readCommand (va_Pc [.ref q0] (zP g (wModel g q0 q1 q2 q3 q4 q5 q6 q7 q8 q9 q10 q11 q12 mm masd msav misS mpst mchg merr mfai mthr minp minM mUp mcar mcam mahd magn mltr mbeg mcmd mcmM mpl msz mwr mlin mliM) sz)) (q_X11_readCommand g q0 q1 q2 q3 q4 q5 q6 q7 q8 q9 q10 q11 q12 mm masd msav misS mpst mchg merr mfai mthr minp minM mUp mcar mcam mahd magn mltr mbeg mcmd mcmM mpl msz mwr mlin mliM o (va_A (wModel g q0 q1 q2 q3 q4 q5 q6 q7 q8 q9 q10 q11 q12 mm masd msav misS mpst mchg merr mfai mthr minp minM mUp mcar mcam mahd magn mltr mbeg mcmd mcmM mpl msz mwr mlin mliM) sz)) 0 0 (va_A (wModel g q0 q1 q2 q3 q4 q5 q6 q7 q8 q9 q10 q11 q12 mm masd msav misS mpst mchg merr mfai mthr minp minM mUp mcar mcam mahd magn mltr mbeg mcmd mcmM mpl msz mwr mlin mliM) sz) := by
  refine Met.ofW (cc := cX11_readCommand) (maxL := 4) (ret := none) (by decide) rfl ?_
  intro p e s m args below meth c s₁ B hml hv
  obtain ⟨rfl, rfl, hP, hK, hD0, hB⟩ := hv
  have hx := B.exec
  have hb := B.bytes
  have hr := B.returns
  have hts : ∀ w ∈ wU, w.before _ s = true := fun w h => atoms_spec (ws := w_X11_readCommand) B.pre w (List.mem_cons_of_mem _ h)
  have hown : s.vm.findClass RX11 = some m.cls := findClass_of_methodNamed B.named
  have hlocks := B.notSynchronized
  have hD := hD0.self (sz := s.heap.size)
  generalize hAe : va_A (wModel g q0 q1 q2 q3 q4 q5 q6 q7 q8 q9 q10 q11 q12 mm masd msav misS mpst mchg merr mfai mthr minp minM mUp mcar mcam mahd magn mltr mbeg mcmd mcmM mpl msz mwr mlin mliM) s.heap.size = A at hD hB ⊢
  have hA : ∀ q : Nat, s.heap.size ≤ q → A q := fun q h => by rw [← hAe]; exact Or.inr h
  have hS : va_S A s.heap s.heap [] := va_S.rf
  have hl := lv_entry ([.ref q0]) (n := 4) (Nat.le_of_ble_eq_true rfl)
  rw [lg_entry_eq]
  generalize (lg_sl ([.ref q0]) ++ List.replicate (4 - (lg_sl ([.ref q0])).length) Slot.unset).toArray = ls at hl ⊢
  have hl : lv_has ls 4 [(0, .ref q0)] := hl
  unfold F_X11_readCommand at hF
  have K83 : ∀ (_ : Unit) (mcmd : Nat → Int32) (mcmM : Int32) (mpl : Int32) (mwr : Int32) (x1 : Int32) (x2 : Int32) (y1 : Int32), F_X11_readCommand_83 fu minp mltr mbeg mcmd mcmM mpl msz mwr x1 x2 y1 = some o → ∀ (H : Heap) (locs : List Loc) (ls : Array Slot), lv_has ls 4 [(0, .ref q0), (1, .int x1), (2, .int x2)] → va_P (gD g) zCl (wModel g q0 q1 q2 q3 q4 q5 q6 q7 q8 q9 q10 q11 q12 mm masd msav misS mpst mchg merr mfai mthr minp minM mUp mcar mcam mahd magn mltr mbeg mcmd mcmM mpl msz mwr mlin mliM) H → va_D A (wModel g q0 q1 q2 q3 q4 q5 q6 q7 q8 q9 q10 q11 q12 mm masd msav misS mpst mchg merr mfai mthr minp minM mUp mcar mcam mahd magn mltr mbeg mcmd mcmM mpl msz mwr mlin mliM) → va_S A s.heap H locs → W p l e (headSpec w_X11_readCommand r_X11_readCommand).room s m ([.ref q0] : List Value).toArray below meth c H locs 0 0 (MQ below (q_X11_readCommand g q0 q1 q2 q3 q4 q5 q6 q7 q8 q9 q10 q11 q12 mm masd msav misS mpst mchg merr mfai mthr minp minM mUp mcar mcam mahd magn mltr mbeg mcmd mcmM mpl msz mwr mlin mliM o A) ([.ref q0] : List Value).toArray s 0 0 A) (F0 m 83 ls [.int y1, .ref q0]) := by
    intro _ mcmd mcmM mpl mwr x1 x2 y1 hF H locs ls hl hP hD hS
    unfold F_X11_readCommand_83 at hF
    obtain ⟨zg1, hF⟩ := z_grd hF
    refine va_put (D := gD g) (ci := 7) (v := .int y1) (ty := .boolean) (C := RX11) (T := TX11) (N := 25) hx hb hts inX11 tyX11 tyX11_ok nmX11 hown hK hP hD hS 0 rfl rfl 22 (by decide) (hts _ mU_1266) (fun _ h9 => h9) rfl (by decide +kernel) (z_narb (Classical.not_not.mp zg1)).1 (z_narb (Classical.not_not.mp zg1)).2 (Nat.le_of_ble_eq_true rfl) dX11_readCommand_83 (fun H locs hP hD hS => ?_)
    have hP : va_P (gD g) zCl (wModel g q0 q1 q2 q3 q4 q5 q6 q7 q8 q9 q10 q11 q12 mm masd msav misS mpst mchg merr mfai mthr minp minM mUp mcar mcam mahd magn mltr mbeg mcmd mcmM mpl msz y1 mlin mliM) H := hP
    have hD : va_D A (wModel g q0 q1 q2 q3 q4 q5 q6 q7 q8 q9 q10 q11 q12 mm masd msav misS mpst mchg merr mfai mthr minp minM mUp mcar mcam mahd magn mltr mbeg mcmd mcmM mpl msz y1 mlin mliM) := hD
    refine lv_aload_n hx hb dX11_readCommand_86 rfl (lv_at hl 0 rfl) ?_
    refine va_get (D := gD g) (ci := 7) (v := .int y1) (C := RX11) (T := TX11) (N := 25) hx hb hts inX11 hown hK hP 0 rfl rfl 22 (by decide) (hts _ mU_1266) (fun _ h9 => h9) rfl dX11_readCommand_87 ?_
    refine lv_if_ne (tgt := 118) hx hb dX11_readCommand_90 (by decide) (fun zc2 => ?_) (fun zc2 => ?_)
    · have hF := z_neg hF zc2
      have ho := (Option.some.inj hF).symm
      exact W.vret hx hb hr (fun t ht hW => ⟨⟨(mcmd, mcmM, mpl, y1), rfl, ho, z_end ht hP⟩, hS.F ht⟩) hS.2.2 dX11_readCommand_118
    · have hF := z_pos hF zc2
      refine lv_aload_n hx hb dX11_readCommand_93 rfl (lv_at hl 0 rfl) ?_
      refine va_get (D := gD g) (ci := 7) (v := .ref q11) (C := RX11) (T := TX11) (N := 25) hx hb hts inX11 hown hK hP 0 rfl rfl 18 (by decide) (hts _ mU_1262) (fun _ h9 => h9) rfl dX11_readCommand_94 ?_
      refine lv_iload_n hx hb dX11_readCommand_97 rfl (lv_at hl 1 rfl) ?_
      refine lv_iload_n hx hb dX11_readCommand_98 rfl (lv_at hl 2 rfl) ?_
      obtain ⟨zg3, hF⟩ := z_grd hF
      refine va_iast hx hb hK hP hD hS 11 1 rfl rfl zg3 dX11_readCommand_99 (fun H locs hP hD hS => ?_)
      have hP : va_P (gD g) zCl (wModel g q0 q1 q2 q3 q4 q5 q6 q7 q8 q9 q10 q11 q12 mm masd msav misS mpst mchg merr mfai mthr minp minM mUp mcar mcam mahd magn mltr mbeg (upd mcmd (Int32.toNatClampNeg x1) x2) mcmM mpl msz y1 mlin mliM) H := hP
      have hD : va_D A (wModel g q0 q1 q2 q3 q4 q5 q6 q7 q8 q9 q10 q11 q12 mm masd msav misS mpst mchg merr mfai mthr minp minM mUp mcar mcam mahd magn mltr mbeg (upd mcmd (Int32.toNatClampNeg x1) x2) mcmM mpl msz y1 mlin mliM) := hD
      refine lv_aload_n hx hb dX11_readCommand_100 rfl (lv_at hl 0 rfl) ?_
      refine lv_dup hx hb dX11_readCommand_101 rfl ?_
      refine va_get (D := gD g) (ci := 7) (v := .int mcmM) (C := RX11) (T := TX11) (N := 25) hx hb hts inX11 hown hK hP 0 rfl rfl 19 (by decide) (hts _ mU_1263) (fun _ h9 => h9) rfl dX11_readCommand_102 ?_
      refine lv_iconst (v := 1) hx hb dX11_readCommand_105 (by decide) ?_
      refine lv_iadd hx hb dX11_readCommand_106 ?_
      refine va_put (D := gD g) (ci := 7) (v := .int (mcmM + 1)) (ty := .int) (C := RX11) (T := TX11) (N := 25) hx hb hts inX11 tyX11 tyX11_ok nmX11 hown hK hP hD hS 0 rfl rfl 19 (by decide) (hts _ mU_1263) (fun _ h9 => h9) rfl (by decide +kernel) rfl rfl (Nat.le_of_ble_eq_true rfl) dX11_readCommand_107 (fun H locs hP hD hS => ?_)
      have hP : va_P (gD g) zCl (wModel g q0 q1 q2 q3 q4 q5 q6 q7 q8 q9 q10 q11 q12 mm masd msav misS mpst mchg merr mfai mthr minp minM mUp mcar mcam mahd magn mltr mbeg (upd mcmd (Int32.toNatClampNeg x1) x2) (mcmM + 1) mpl msz y1 mlin mliM) H := hP
      have hD : va_D A (wModel g q0 q1 q2 q3 q4 q5 q6 q7 q8 q9 q10 q11 q12 mm masd msav misS mpst mchg merr mfai mthr minp minM mUp mcar mcam mahd magn mltr mbeg (upd mcmd (Int32.toNatClampNeg x1) x2) (mcmM + 1) mpl msz y1 mlin mliM) := hD
      refine lv_aload_n hx hb dX11_readCommand_110 rfl (lv_at hl 0 rfl) ?_
      refine lv_iload_n hx hb dX11_readCommand_111 rfl (lv_at hl 2 rfl) ?_
      refine lv_iload_n hx hb dX11_readCommand_112 rfl (lv_at hl 1 rfl) ?_
      refine lv_iconst (v := 1) hx hb dX11_readCommand_113 (by decide) ?_
      refine lv_iadd hx hb dX11_readCommand_114 ?_
      obtain ⟨zo4, hzo4, hF⟩ := z_bind hF
      refine z_callvE (fun (u : (Nat → Int32) × Int32 × Int32) => (wModel g q0 q1 q2 q3 q4 q5 q6 q7 q8 q9 q10 q11 q12 mm masd msav misS mpst mchg merr mfai mthr minp minM mUp mcar mcam mahd magn mltr mbeg u.1 (mcmM + 1) u.2.1 msz u.2.2 mlin mliM)) (va_runV (As := [.int x2, .int (x1 + 1)]) (rest := []) ⟨hx, hb, hml, hown, hts⟩ (c_X11_readArguments l g q0 q1 q2 q3 q4 q5 q6 q7 q8 q9 q10 q11 q12 mm masd msav misS mpst mchg merr mfai mthr minp minM mUp mcar mcam mahd magn mltr mbeg (upd mcmd (Int32.toNatClampNeg x1) x2) (mcmM + 1) mpl msz y1 mlin mliM _ x2 (x1 + 1) fu _ hzo4) (cwV 2 hts (gdV mU_1624 mU_1626 mU_53 mU_75 mU_1627) rfl rfl rfl (by decide +kernel) ⟨Nat.le_of_ble_eq_true rfl, Nat.le_of_ble_eq_true rfl⟩) ⟨z_blind _ _ _ _, va_recv hK hP (ci := 7) (q0 := 0) rfl rfl, fun U hU hW => z_preE hP hD hK hB hS hA hU hW⟩ rfl rfl hl.1 rfl (lv_room (Nat.le_of_ble_eq_true rfl)) dX11_readCommand_115 ⟨Nat.le_of_ble_eq_true rfl, Nat.le_of_ble_eq_true rfl⟩) hD hS hA (fun _ => rfl) (fun u H locs hw hP hD hS => ?_)
      subst hw
      have hP : va_P (gD g) zCl (wModel g q0 q1 q2 q3 q4 q5 q6 q7 q8 q9 q10 q11 q12 mm masd msav misS mpst mchg merr mfai mthr minp minM mUp mcar mcam mahd magn mltr mbeg zo4.1 (mcmM + 1) zo4.2.1 msz zo4.2.2 mlin mliM) H := hP
      have hD : va_D A (wModel g q0 q1 q2 q3 q4 q5 q6 q7 q8 q9 q10 q11 q12 mm masd msav misS mpst mchg merr mfai mthr minp minM mUp mcar mcam mahd magn mltr mbeg zo4.1 (mcmM + 1) zo4.2.1 msz zo4.2.2 mlin mliM) := hD
      have ho := (Option.some.inj hF).symm
      exact W.vret hx hb hr (fun t ht hW => ⟨⟨(zo4.1, (mcmM + 1), zo4.2.1, zo4.2.2), rfl, ho, z_end ht hP⟩, hS.F ht⟩) hS.2.2 dX11_readCommand_118
  have K11 : ∀ (n11 : Nat) (mcmd : Nat → Int32) (mcmM : Int32) (mpl : Int32) (mwr : Int32) (x1 : Int32) (x2 : Int32) (x3 : Int32), F_X11_readCommand_11 fu n11 minp mltr mbeg mcmd mcmM mpl msz mwr x1 x2 x3 = some o → ∀ (H : Heap) (locs : List Loc) (ls : Array Slot), lv_has ls 4 [(0, .ref q0), (1, .int x1), (2, .int x2), (3, .int x3)] → va_P (gD g) zCl (wModel g q0 q1 q2 q3 q4 q5 q6 q7 q8 q9 q10 q11 q12 mm masd msav misS mpst mchg merr mfai mthr minp minM mUp mcar mcam mahd magn mltr mbeg mcmd mcmM mpl msz mwr mlin mliM) H → va_D A (wModel g q0 q1 q2 q3 q4 q5 q6 q7 q8 q9 q10 q11 q12 mm masd msav misS mpst mchg merr mfai mthr minp minM mUp mcar mcam mahd magn mltr mbeg mcmd mcmM mpl msz mwr mlin mliM) → va_S A s.heap H locs → W p l e (headSpec w_X11_readCommand r_X11_readCommand).room s m ([.ref q0] : List Value).toArray below meth c H locs 0 0 (MQ below (q_X11_readCommand g q0 q1 q2 q3 q4 q5 q6 q7 q8 q9 q10 q11 q12 mm masd msav misS mpst mchg merr mfai mthr minp minM mUp mcar mcam mahd magn mltr mbeg mcmd mcmM mpl msz mwr mlin mliM o A) ([.ref q0] : List Value).toArray s 0 0 A) (F0 m 11 ls []) := by
    intro n11
    induction n11 with
    | zero =>
      intro mcmd mcmM mpl mwr x1 x2 x3 hF
      exact absurd hF (by simp [F_X11_readCommand_11])
    | succ n11 ih11 =>
      intro mcmd mcmM mpl mwr x1 x2 x3 hF H locs ls hl hP hD hS
      unfold F_X11_readCommand_11 at hF
      refine lv_iload_n hx hb dX11_readCommand_11 rfl (lv_at hl 3 rfl) ?_
      refine lv_bipush (v := 8) hx hb dX11_readCommand_12 (by decide) ?_
      refine lv_icmp_ge (tgt := 42) hx hb dX11_readCommand_14 (by decide) (fun zc5 => ?_) (fun zc5 => ?_)
      · have hF := z_pos hF zc5
        refine lv_aload_n hx hb dX11_readCommand_42 rfl (lv_at hl 0 rfl) ?_
        refine lv_iload_n hx hb dX11_readCommand_43 rfl (lv_at hl 2 rfl) ?_
        obtain ⟨zo6, hzo6, hF⟩ := z_bind hF
        refine z_calliE (fun (_ : Unit) => (wModel g q0 q1 q2 q3 q4 q5 q6 q7 q8 q9 q10 q11 q12 mm masd msav misS mpst mchg merr mfai mthr minp minM mUp mcar mcam mahd magn mltr mbeg mcmd mcmM mpl msz mwr mlin mliM)) (va_runV (As := [.int x2]) (rest := []) ⟨hx, hb, hml, hown, hts⟩ (c_X11_likeness l g q0 q1 q2 q3 q4 q5 q6 q7 q8 q9 q10 q11 q12 mm masd msav misS mpst mchg merr mfai mthr minp minM mUp mcar mcam mahd magn mltr mbeg mcmd mcmM mpl msz mwr mlin mliM _ x2 fu _ hzo6) (cwV 1 hts (gdV mU_1620 mU_1622 mU_52 mU_75 mU_1623) rfl rfl rfl (by decide +kernel) ⟨Nat.le_of_ble_eq_true rfl, Nat.le_of_ble_eq_true rfl⟩) ⟨z_blind _ _ _ _, va_recv hK hP (ci := 7) (q0 := 0) rfl rfl, fun U hU hW => z_preE hP hD hK hB hS hA hU hW⟩ rfl rfl hl.1 rfl (lv_room (Nat.le_of_ble_eq_true rfl)) dX11_readCommand_44 ⟨Nat.le_of_ble_eq_true rfl, Nat.le_of_ble_eq_true rfl⟩) hD hS hA (fun _ => rfl) (fun r u H locs hw hP hD hS => ?_)
        subst hw
        have hP : va_P (gD g) zCl (wModel g q0 q1 q2 q3 q4 q5 q6 q7 q8 q9 q10 q11 q12 mm masd msav misS mpst mchg merr mfai mthr minp minM mUp mcar mcam mahd magn mltr mbeg mcmd mcmM mpl msz mwr mlin mliM) H := hP
        have hD : va_D A (wModel g q0 q1 q2 q3 q4 q5 q6 q7 q8 q9 q10 q11 q12 mm masd msav misS mpst mchg merr mfai mthr minp minM mUp mcar mcam mahd magn mltr mbeg mcmd mcmM mpl msz mwr mlin mliM) := hD
        refine lv_istore_n (lv' := [(3, .int zo6), (0, .ref q0), (1, .int x1), (2, .int x2)]) hx hb dX11_readCommand_47 rfl hl (by decide) rfl (fun ls hl => ?_)
        refine lv_aload_n hx hb dX11_readCommand_48 rfl (lv_at hl 1 rfl) ?_
        refine lv_dup hx hb dX11_readCommand_49 rfl ?_
        refine va_get (D := gD g) (ci := 7) (v := .int mpl) (C := RX11) (T := TX11) (N := 25) hx hb hts inX11 hown hK hP 0 rfl rfl 20 (by decide) (hts _ mU_1264) (fun _ h9 => h9) rfl dX11_readCommand_50 ?_
        refine lv_iload_n hx hb dX11_readCommand_53 rfl (lv_at hl 0 rfl) ?_
        refine lv_iadd hx hb dX11_readCommand_54 ?_
        refine va_put (D := gD g) (ci := 7) (v := .int (mpl + zo6)) (ty := .int) (C := RX11) (T := TX11) (N := 25) hx hb hts inX11 tyX11 tyX11_ok nmX11 hown hK hP hD hS 0 rfl rfl 20 (by decide) (hts _ mU_1264) (fun _ h9 => h9) rfl (by decide +kernel) rfl rfl (Nat.le_of_ble_eq_true rfl) dX11_readCommand_55 (fun H locs hP hD hS => ?_)
        have hP : va_P (gD g) zCl (wModel g q0 q1 q2 q3 q4 q5 q6 q7 q8 q9 q10 q11 q12 mm masd msav misS mpst mchg merr mfai mthr minp minM mUp mcar mcam mahd magn mltr mbeg mcmd mcmM (mpl + zo6) msz mwr mlin mliM) H := hP
        have hD : va_D A (wModel g q0 q1 q2 q3 q4 q5 q6 q7 q8 q9 q10 q11 q12 mm masd msav misS mpst mchg merr mfai mthr minp minM mUp mcar mcam mahd magn mltr mbeg mcmd mcmM (mpl + zo6) msz mwr mlin mliM) := hD
        refine lv_aload_n hx hb dX11_readCommand_58 rfl (lv_at hl 1 rfl) ?_
        refine lv_iload_n hx hb dX11_readCommand_59 rfl (lv_at hl 0 rfl) ?_
        refine lv_aload_n hx hb dX11_readCommand_60 rfl (lv_at hl 1 rfl) ?_
        refine va_get (D := gD g) (ci := 7) (v := .ref q10) (C := RX11) (T := TX11) (N := 25) hx hb hts inX11 hown hK hP 0 rfl rfl 17 (by decide) (hts _ mU_1261) (fun _ h9 => h9) rfl dX11_readCommand_61 ?_
        refine lv_iload_n hx hb dX11_readCommand_64 rfl (lv_at hl 3 rfl) ?_
        refine lv_iconst (v := 1) hx hb dX11_readCommand_65 (by decide) ?_
        refine lv_iadd hx hb dX11_readCommand_66 ?_
        obtain ⟨zg7, hF⟩ := z_grd hF
        refine va_iald hx hb hK hP 10 1 rfl rfl zg7 dX11_readCommand_67 ?_
        refine lv_aload_n hx hb dX11_readCommand_68 rfl (lv_at hl 1 rfl) ?_
        refine va_get (D := gD g) (ci := 7) (v := .ref q10) (C := RX11) (T := TX11) (N := 25) hx hb hts inX11 hown hK hP 0 rfl rfl 17 (by decide) (hts _ mU_1261) (fun _ h9 => h9) rfl dX11_readCommand_69 ?_
        refine lv_iload_n hx hb dX11_readCommand_72 rfl (lv_at hl 3 rfl) ?_
        obtain ⟨zg8, hF⟩ := z_grd hF
        refine va_iald hx hb hK hP 10 1 rfl rfl zg8 dX11_readCommand_73 ?_
        refine lv_isub hx hb dX11_readCommand_74 ?_
        refine lv_icmp_ge (tgt := 82) hx hb dX11_readCommand_75 (by decide) (fun zc9 => ?_) (fun zc9 => ?_)
        · have hF := z_pos hF zc9
          refine lv_iconst (v := 0) hx hb dX11_readCommand_82 (by decide) ?_
          exact K83 () mcmd mcmM (mpl + zo6) mwr x1 x2 0 hF _ _ _ (lv_sub hl [1, 2, 3] rfl) hP hD hS
        · have hF := z_neg hF zc9
          refine lv_iconst (v := 1) hx hb dX11_readCommand_78 (by decide) ?_
          refine lv_goto (tgt := 83) hx hb dX11_readCommand_79 (by decide) ?_
          exact K83 () mcmd mcmM (mpl + zo6) mwr x1 x2 1 hF _ _ _ (lv_sub hl [1, 2, 3] rfl) hP hD hS
      · have hF := z_neg hF zc5
        refine lv_aload_n hx hb dX11_readCommand_17 rfl (lv_at hl 0 rfl) ?_
        refine lv_iload_n hx hb dX11_readCommand_18 rfl (lv_at hl 3 rfl) ?_
        obtain ⟨zo10, hzo10, hF⟩ := z_bind hF
        refine z_calliE (fun (_ : Unit) => (wModel g q0 q1 q2 q3 q4 q5 q6 q7 q8 q9 q10 q11 q12 mm masd msav misS mpst mchg merr mfai mthr minp minM mUp mcar mcam mahd magn mltr mbeg mcmd mcmM mpl msz mwr mlin mliM)) (va_runV (As := [.int x3]) (rest := []) ⟨hx, hb, hml, hown, hts⟩ (c_X11_likeness l g q0 q1 q2 q3 q4 q5 q6 q7 q8 q9 q10 q11 q12 mm masd msav misS mpst mchg merr mfai mthr minp minM mUp mcar mcam mahd magn mltr mbeg mcmd mcmM mpl msz mwr mlin mliM _ x3 fu _ hzo10) (cwV 1 hts (gdV mU_1620 mU_1622 mU_52 mU_75 mU_1623) rfl rfl rfl (by decide +kernel) ⟨Nat.le_of_ble_eq_true rfl, Nat.le_of_ble_eq_true rfl⟩) ⟨z_blind _ _ _ _, va_recv hK hP (ci := 7) (q0 := 0) rfl rfl, fun U hU hW => z_preE hP hD hK hB hS hA hU hW⟩ rfl rfl hl.1 rfl (lv_room (Nat.le_of_ble_eq_true rfl)) dX11_readCommand_19 ⟨Nat.le_of_ble_eq_true rfl, Nat.le_of_ble_eq_true rfl⟩) hD hS hA (fun _ => rfl) (fun r u H locs hw hP hD hS => ?_)
        subst hw
        have hP : va_P (gD g) zCl (wModel g q0 q1 q2 q3 q4 q5 q6 q7 q8 q9 q10 q11 q12 mm masd msav misS mpst mchg merr mfai mthr minp minM mUp mcar mcam mahd magn mltr mbeg mcmd mcmM mpl msz mwr mlin mliM) H := hP
        have hD : va_D A (wModel g q0 q1 q2 q3 q4 q5 q6 q7 q8 q9 q10 q11 q12 mm masd msav misS mpst mchg merr mfai mthr minp minM mUp mcar mcam mahd magn mltr mbeg mcmd mcmM mpl msz mwr mlin mliM) := hD
        refine lv_aload_n hx hb dX11_readCommand_22 rfl (lv_at hl 0 rfl) ?_
        refine lv_iload_n hx hb dX11_readCommand_23 rfl (lv_at hl 2 rfl) ?_
        obtain ⟨zo11, hzo11, hF⟩ := z_bind hF
        refine z_calliE (fun (_ : Unit) => (wModel g q0 q1 q2 q3 q4 q5 q6 q7 q8 q9 q10 q11 q12 mm masd msav misS mpst mchg merr mfai mthr minp minM mUp mcar mcam mahd magn mltr mbeg mcmd mcmM mpl msz mwr mlin mliM)) (va_runV (As := [.int x2]) (rest := [.int zo10]) ⟨hx, hb, hml, hown, hts⟩ (c_X11_likeness l g q0 q1 q2 q3 q4 q5 q6 q7 q8 q9 q10 q11 q12 mm masd msav misS mpst mchg merr mfai mthr minp minM mUp mcar mcam mahd magn mltr mbeg mcmd mcmM mpl msz mwr mlin mliM _ x2 fu _ hzo11) (cwV 1 hts (gdV mU_1620 mU_1622 mU_52 mU_75 mU_1623) rfl rfl rfl (by decide +kernel) ⟨Nat.le_of_ble_eq_true rfl, Nat.le_of_ble_eq_true rfl⟩) ⟨z_blind _ _ _ _, va_recv hK hP (ci := 7) (q0 := 0) rfl rfl, fun U hU hW => z_preE hP hD hK hB hS hA hU hW⟩ rfl rfl hl.1 rfl (lv_room (Nat.le_of_ble_eq_true rfl)) dX11_readCommand_24 ⟨Nat.le_of_ble_eq_true rfl, Nat.le_of_ble_eq_true rfl⟩) hD hS hA (fun _ => rfl) (fun r u H locs hw hP hD hS => ?_)
        subst hw
        have hP : va_P (gD g) zCl (wModel g q0 q1 q2 q3 q4 q5 q6 q7 q8 q9 q10 q11 q12 mm masd msav misS mpst mchg merr mfai mthr minp minM mUp mcar mcam mahd magn mltr mbeg mcmd mcmM mpl msz mwr mlin mliM) H := hP
        have hD : va_D A (wModel g q0 q1 q2 q3 q4 q5 q6 q7 q8 q9 q10 q11 q12 mm masd msav misS mpst mchg merr mfai mthr minp minM mUp mcar mcam mahd magn mltr mbeg mcmd mcmM mpl msz mwr mlin mliM) := hD
        refine lv_icmp_le (tgt := 34) hx hb dX11_readCommand_27 (by decide) (fun zc12 => ?_) (fun zc12 => ?_)
        · have hF := z_pos hF zc12
          refine lv_iload_n hx hb dX11_readCommand_34 rfl (lv_at hl 2 rfl) ?_
          refine lv_istore_n (lv' := [(2, .int x2), (0, .ref q0), (1, .int x1), (3, .int x3)]) hx hb dX11_readCommand_35 rfl hl (by decide) rfl (fun ls hl => ?_)
          obtain ⟨zv13, ezv13, hF⟩ := z_let hF
          refine lv_iinc (v := zv13) (lv' := [(3, .int zv13), (2, .int x2), (0, .ref q0), (1, .int x1)]) hx hb dX11_readCommand_36 hl (k := 3) rfl (by rw [ezv13]; rfl) (by decide) rfl (fun ls hl => ?_)
          refine lv_goto (tgt := 11) hx hb dX11_readCommand_39 (by decide) ?_
          exact ih11 mcmd mcmM mpl mwr x1 x2 zv13 hF _ _ _ (lv_sub hl [2, 3, 1, 0] rfl) hP hD hS
        · have hF := z_neg hF zc12
          refine lv_iload_n hx hb dX11_readCommand_30 rfl (lv_at hl 3 rfl) ?_
          refine lv_goto (tgt := 35) hx hb dX11_readCommand_31 (by decide) ?_
          refine lv_istore_n (lv' := [(2, .int x3), (0, .ref q0), (1, .int x1), (3, .int x3)]) hx hb dX11_readCommand_35 rfl hl (by decide) rfl (fun ls hl => ?_)
          obtain ⟨zv14, ezv14, hF⟩ := z_let hF
          refine lv_iinc (v := zv14) (lv' := [(3, .int zv14), (2, .int x3), (0, .ref q0), (1, .int x1)]) hx hb dX11_readCommand_36 hl (k := 3) rfl (by rw [ezv14]; rfl) (by decide) rfl (fun ls hl => ?_)
          refine lv_goto (tgt := 11) hx hb dX11_readCommand_39 (by decide) ?_
          exact ih11 mcmd mcmM mpl mwr x1 x3 zv14 hF _ _ _ (lv_sub hl [2, 3, 1, 0] rfl) hP hD hS
  refine lv_iconst (v := 5) hx hb dX11_readCommand_0 (by decide) ?_
  refine lv_aload_n hx hb dX11_readCommand_1 rfl (lv_at hl 0 rfl) ?_
  refine va_get (D := gD g) (ci := 7) (v := .int mcmM) (C := RX11) (T := TX11) (N := 25) hx hb hts inX11 hown hK hP 0 rfl rfl 19 (by decide) (hts _ mU_1263) (fun _ h9 => h9) rfl dX11_readCommand_2 ?_
  refine lv_imul hx hb dX11_readCommand_5 ?_
  obtain ⟨zv15, ezv15, hF⟩ := z_let hF
  refine z_topi ezv15 ?_
  refine lv_istore_n (lv' := [(1, .int zv15), (0, .ref q0)]) hx hb dX11_readCommand_6 rfl hl (by decide) rfl (fun ls hl => ?_)
  refine lv_iconst (v := 0) hx hb dX11_readCommand_7 (by decide) ?_
  refine lv_istore_n (lv' := [(2, .int 0), (1, .int zv15), (0, .ref q0)]) hx hb dX11_readCommand_8 rfl hl (by decide) rfl (fun ls hl => ?_)
  refine lv_iconst (v := 1) hx hb dX11_readCommand_9 (by decide) ?_
  refine lv_istore_n (lv' := [(3, .int 1), (2, .int 0), (1, .int zv15), (0, .ref q0)]) hx hb dX11_readCommand_10 rfl hl (by decide) rfl (fun ls hl => ?_)
  exact K11 fu mcmd mcmM mpl mwr zv15 0 1 hF _ _ _ (lv_sub hl [3, 2, 1, 0] rfl) hP hD hS
abbrev w_X11_does : List Cond := .code yX11_does cX11_does 6 none :: wU
abbrev r_X11_does : Room := { frames := 4, cells := 0, slots := 0, locals := 105 }
abbrev q_X11_does (g : GG) (q0 q1 q2 q3 q4 q5 q6 q7 q8 q9 q10 q11 q12 : Nat) (mm : Nat → Int64) (masd : Nat → Int64) (msav : Nat → Int64) (misS : Int32) (mpst : Nat → Int64) (mchg : Int32) (merr : Int32) (mfai : Int32) (mthr : Int32) (minp : Nat → Int32) (minM : Int32) (mUp : Nat → Int32) (mcar : Nat → Int32) (mcam : Nat → Int32) (mahd : Int32) (magn : Int32) (mltr : Nat → Int32) (mbeg : Nat → Int32) (mcmd : Nat → Int32) (mcmM : Int32) (mpl : Int32) (msz : Int32) (mwr : Int32) (mlin : Nat → Int32) (mliM : Int32) (o : (Nat → Int64) × Int32 × (Nat → Int32)) (A : Nat → Prop) := va_Qv (fun (u : (Nat → Int64) × Int32 × (Nat → Int32)) => o = u) (fun u t => va_P (gD g) zCl (wModel g q0 q1 q2 q3 q4 q5 q6 q7 q8 q9 q10 q11 q12 u.1 masd msav misS mpst mchg merr mfai u.2.1 minp minM u.2.2 mcar mcam mahd magn mltr mbeg mcmd mcmM mpl msz mwr mlin mliM) t.heap) A
set_option maxHeartbeats 4000000 in
set_option maxRecDepth 100000 in
theorem c_X11_does (l : Launch) (g : GG) (q0 q1 q2 q3 q4 q5 q6 q7 q8 q9 q10 q11 q12 : Nat) (mm : Nat → Int64) (masd : Nat → Int64) (msav : Nat → Int64) (misS : Int32) (mpst : Nat → Int64) (mchg : Int32) (merr : Int32) (mfai : Int32) (mthr : Int32) (minp : Nat → Int32) (minM : Int32) (mUp : Nat → Int32) (mcar : Nat → Int32) (mcam : Nat → Int32) (mahd : Int32) (magn : Int32) (mltr : Nat → Int32) (mbeg : Nat → Int32) (mcmd : Nat → Int32) (mcmM : Int32) (mpl : Int32) (msz : Int32) (mwr : Int32) (mlin : Nat → Int32) (mliM : Int32) (sz : Nat) (p1 : Int32) (fu : Nat) (o : (Nat → Int64) × Int32 × (Nat → Int32)) (hF : F_X11_does fu mm mthr mUp mcmd p1 = some o) : Met l yX11_does w_X11_does r_X11_does (va_Pc [.ref q0, .int p1] (zP g (wModel g q0 q1 q2 q3 q4 q5 q6 q7 q8 q9 q10 q11 q12 mm masd msav misS mpst mchg merr mfai mthr minp minM mUp mcar mcam mahd magn mltr mbeg mcmd mcmM mpl msz mwr mlin mliM) sz)) (q_X11_does g q0 q1 q2 q3 q4 q5 q6 q7 q8 q9 q10 q11 q12 mm masd msav misS mpst mchg merr mfai mthr minp minM mUp mcar mcam mahd magn mltr mbeg mcmd mcmM mpl msz mwr mlin mliM o (va_A (wModel g q0 q1 q2 q3 q4 q5 q6 q7 q8 q9 q10 q11 q12 mm masd msav misS mpst mchg merr mfai mthr minp minM mUp mcar mcam mahd magn mltr mbeg mcmd mcmM mpl msz mwr mlin mliM) sz)) 0 0 (va_A (wModel g q0 q1 q2 q3 q4 q5 q6 q7 q8 q9 q10 q11 q12 mm masd msav misS mpst mchg merr mfai mthr minp minM mUp mcar mcam mahd magn mltr mbeg mcmd mcmM mpl msz mwr mlin mliM) sz) := by
  refine Met.ofW (cc := cX11_does) (maxL := 6) (ret := none) (by decide) rfl ?_
  intro p e s m args below meth c s₁ B hml hv
  obtain ⟨rfl, rfl, hP, hK, hD0, hB⟩ := hv
  have hx := B.exec
  have hb := B.bytes
  have hr := B.returns
  have hts : ∀ w ∈ wU, w.before _ s = true := fun w h => atoms_spec (ws := w_X11_does) B.pre w (List.mem_cons_of_mem _ h)
  have hown : s.vm.findClass RX11 = some m.cls := findClass_of_methodNamed B.named
  have hlocks := B.notSynchronized
  have hD := hD0.self (sz := s.heap.size)
  generalize hAe : va_A (wModel g q0 q1 q2 q3 q4 q5 q6 q7 q8 q9 q10 q11 q12 mm masd msav misS mpst mchg merr mfai mthr minp minM mUp mcar mcam mahd magn mltr mbeg mcmd mcmM mpl msz mwr mlin mliM) s.heap.size = A at hD hB ⊢
  have hA : ∀ q : Nat, s.heap.size ≤ q → A q := fun q h => by rw [← hAe]; exact Or.inr h
  have hS : va_S A s.heap s.heap [] := va_S.rf
  have hl := lv_entry ([.ref q0, .int p1]) (n := 6) (Nat.le_of_ble_eq_true rfl)
  rw [lg_entry_eq]
  generalize (lg_sl ([.ref q0, .int p1]) ++ List.replicate (6 - (lg_sl ([.ref q0, .int p1])).length) Slot.unset).toArray = ls at hl ⊢
  have hl : lv_has ls 6 [(0, .ref q0), (1, .int p1)] := hl
  unfold F_X11_does at hF
  refine lv_aload_n hx hb dX11_does_0 rfl (lv_at hl 0 rfl) ?_
  refine va_get (D := gD g) (ci := 7) (v := .ref q11) (C := RX11) (T := TX11) (N := 25) hx hb hts inX11 hown hK hP 0 rfl rfl 18 (by decide) (hts _ mU_1262) (fun _ h9 => h9) rfl dX11_does_1 ?_
  refine lv_iload_n hx hb dX11_does_4 rfl (lv_at hl 1 rfl) ?_
  refine lv_iconst (v := 1) hx hb dX11_does_5 (by decide) ?_
  refine lv_iadd hx hb dX11_does_6 ?_
  obtain ⟨zg1, hF⟩ := z_grd hF
  refine va_iald hx hb hK hP 11 1 rfl rfl zg1 dX11_does_7 ?_
  obtain ⟨zv2, ezv2, hF⟩ := z_let hF
  refine z_topi ezv2 ?_
  refine lv_istore_n (lv' := [(2, .int zv2), (0, .ref q0), (1, .int p1)]) hx hb dX11_does_8 rfl hl (by decide) rfl (fun ls hl => ?_)
  refine lv_aload_n hx hb dX11_does_9 rfl (lv_at hl 1 rfl) ?_
  refine va_get (D := gD g) (ci := 7) (v := .ref q11) (C := RX11) (T := TX11) (N := 25) hx hb hts inX11 hown hK hP 0 rfl rfl 18 (by decide) (hts _ mU_1262) (fun _ h9 => h9) rfl dX11_does_10 ?_
  refine lv_iload_n hx hb dX11_does_13 rfl (lv_at hl 2 rfl) ?_
  refine lv_iconst (v := 2) hx hb dX11_does_14 (by decide) ?_
  refine lv_iadd hx hb dX11_does_15 ?_
  obtain ⟨zg3, hF⟩ := z_grd hF
  refine va_iald hx hb hK hP 11 1 rfl rfl zg3 dX11_does_16 ?_
  obtain ⟨zv4, ezv4, hF⟩ := z_let hF
  refine z_topi ezv4 ?_
  refine lv_istore_n (lv' := [(3, .int zv4), (2, .int zv2), (0, .ref q0), (1, .int p1)]) hx hb dX11_does_17 rfl hl (by decide) rfl (fun ls hl => ?_)
  refine lv_aload_n hx hb dX11_does_18 rfl (lv_at hl 2 rfl) ?_
  refine va_get (D := gD g) (ci := 7) (v := .ref q11) (C := RX11) (T := TX11) (N := 25) hx hb hts inX11 hown hK hP 0 rfl rfl 18 (by decide) (hts _ mU_1262) (fun _ h9 => h9) rfl dX11_does_19 ?_
  refine lv_iload_n hx hb dX11_does_22 rfl (lv_at hl 3 rfl) ?_
  refine lv_iconst (v := 3) hx hb dX11_does_23 (by decide) ?_
  refine lv_iadd hx hb dX11_does_24 ?_
  obtain ⟨zg5, hF⟩ := z_grd hF
  refine va_iald hx hb hK hP 11 1 rfl rfl zg5 dX11_does_25 ?_
  obtain ⟨zv6, ezv6, hF⟩ := z_let hF
  refine z_topi ezv6 ?_
  refine lv_istore (lv' := [(4, .int zv6), (3, .int zv4), (2, .int zv2), (0, .ref q0), (1, .int p1)]) hx hb dX11_does_26 hl (by decide) rfl (fun ls hl => ?_)
  refine lv_aload_n hx hb dX11_does_28 rfl (lv_at hl 3 rfl) ?_
  refine va_get (D := gD g) (ci := 7) (v := .ref q11) (C := RX11) (T := TX11) (N := 25) hx hb hts inX11 hown hK hP 0 rfl rfl 18 (by decide) (hts _ mU_1262) (fun _ h9 => h9) rfl dX11_does_29 ?_
  refine lv_iload_n hx hb dX11_does_32 rfl (lv_at hl 4 rfl) ?_
  refine lv_iconst (v := 4) hx hb dX11_does_33 (by decide) ?_
  refine lv_iadd hx hb dX11_does_34 ?_
  obtain ⟨zg7, hF⟩ := z_grd hF
  refine va_iald hx hb hK hP 11 1 rfl rfl zg7 dX11_does_35 ?_
  obtain ⟨zv8, ezv8, hF⟩ := z_let hF
  refine z_topi ezv8 ?_
  refine lv_istore (lv' := [(5, .int zv8), (4, .int zv6), (3, .int zv4), (2, .int zv2), (0, .ref q0), (1, .int p1)]) hx hb dX11_does_36 hl (by decide) rfl (fun ls hl => ?_)
  refine lv_aload_n hx hb dX11_does_38 rfl (lv_at hl 4 rfl) ?_
  refine va_get (D := gD g) (ci := 7) (v := .ref q11) (C := RX11) (T := TX11) (N := 25) hx hb hts inX11 hown hK hP 0 rfl rfl 18 (by decide) (hts _ mU_1262) (fun _ h9 => h9) rfl dX11_does_39 ?_
  refine lv_iload_n hx hb dX11_does_42 rfl (lv_at hl 5 rfl) ?_
  obtain ⟨zg9, hF⟩ := z_grd hF
  refine va_iald hx hb hK hP 11 1 rfl rfl zg9 dX11_does_43 ?_
  by_cases zc10 : (mcmd (Int32.toNatClampNeg p1)) = 0
  · have hF := z_pos hF zc10
    refine lv_tableIn (tgt := 88) (off := 44) hx hb dX11_does_44 (by rw [zc10]; decide) (by rw [zc10]; decide) (by rw [zc10]; rfl) (by decide) ?_
    refine lv_aload_n hx hb dX11_does_88 rfl (lv_at hl 4 rfl) ?_
    refine lv_iload_n hx hb dX11_does_89 rfl (lv_at hl 3 rfl) ?_
    refine lv_iload_n hx hb dX11_does_90 rfl (lv_at hl 2 rfl) ?_
    refine lv_iload hx hb dX11_does_91 (lv_at hl 1 rfl) ?_
    refine lv_iload hx hb dX11_does_93 (lv_at hl 0 rfl) ?_
    obtain ⟨zo11, hzo11, hF⟩ := z_bind hF
    refine z_calliE (fun (u : (Nat → Int64) × Int32) => (wModel g q0 q1 q2 q3 q4 q5 q6 q7 q8 q9 q10 q11 q12 u.1 masd msav misS mpst mchg merr mfai u.2 minp minM mUp mcar mcam mahd magn mltr mbeg mcmd mcmM mpl msz mwr mlin mliM)) (va_runV (As := [.int zv2, .int zv4, .int zv6, .int zv8]) (rest := []) ⟨hx, hb, hml, hown, hts⟩ (c_X11_addIt l g q0 q1 q2 q3 q4 q5 q6 q7 q8 q9 q10 q11 q12 mm masd msav misS mpst mchg merr mfai mthr minp minM mUp mcar mcam mahd magn mltr mbeg mcmd mcmM mpl msz mwr mlin mliM _ zv2 zv4 zv6 zv8 fu _ hzo11) (cwV 4 hts (gdV mU_1333 mU_1335 mU_30 mU_75 mU_1336) rfl rfl rfl (by decide +kernel) ⟨Nat.le_of_ble_eq_true rfl, Nat.le_of_ble_eq_true rfl⟩) ⟨z_blind _ _ _ _, va_recv hK hP (ci := 7) (q0 := 0) rfl rfl, fun U hU hW => z_preE hP hD hK hB hS hA hU hW⟩ rfl rfl hl.1 rfl (lv_room (Nat.le_of_ble_eq_true rfl)) dX11_does_95 ⟨Nat.le_of_ble_eq_true rfl, Nat.le_of_ble_eq_true rfl⟩) hD hS hA (fun _ => rfl) (fun r u H locs hw hP hD hS => ?_)
    obtain ⟨rfl, rfl⟩ := hw
    have hP : va_P (gD g) zCl (wModel g q0 q1 q2 q3 q4 q5 q6 q7 q8 q9 q10 q11 q12 zo11.2.1 masd msav misS mpst mchg merr mfai zo11.2.2 minp minM mUp mcar mcam mahd magn mltr mbeg mcmd mcmM mpl msz mwr mlin mliM) H := hP
    have hD : va_D A (wModel g q0 q1 q2 q3 q4 q5 q6 q7 q8 q9 q10 q11 q12 zo11.2.1 masd msav misS mpst mchg merr mfai zo11.2.2 minp minM mUp mcar mcam mahd magn mltr mbeg mcmd mcmM mpl msz mwr mlin mliM) := hD
    refine lv_pop hx hb dX11_does_98 rfl ?_
    refine lv_goto (tgt := 177) hx hb dX11_does_99 (by decide) ?_
    have ho := (Option.some.inj hF).symm
    exact W.vret hx hb hr (fun t ht hW => ⟨⟨(zo11.2.1, zo11.2.2, mUp), rfl, ho, z_end ht hP⟩, hS.F ht⟩) hS.2.2 dX11_does_177
  have hF := z_neg hF zc10
  by_cases zc12 : (mcmd (Int32.toNatClampNeg p1)) = 1
  · have hF := z_pos hF zc12
    refine lv_tableIn (tgt := 102) (off := 58) hx hb dX11_does_44 (by rw [zc12]; decide) (by rw [zc12]; decide) (by rw [zc12]; rfl) (by decide) ?_
    refine lv_aload_n hx hb dX11_does_102 rfl (lv_at hl 4 rfl) ?_
    refine lv_iload_n hx hb dX11_does_103 rfl (lv_at hl 3 rfl) ?_
    refine lv_iload_n hx hb dX11_does_104 rfl (lv_at hl 2 rfl) ?_
    refine lv_iload hx hb dX11_does_105 (lv_at hl 1 rfl) ?_
    refine lv_iload hx hb dX11_does_107 (lv_at hl 0 rfl) ?_
    obtain ⟨zo13, hzo13, hF⟩ := z_bind hF
    refine z_calliE (fun (u : (Nat → Int64) × Int32) => (wModel g q0 q1 q2 q3 q4 q5 q6 q7 q8 q9 q10 q11 q12 u.1 masd msav misS mpst mchg merr mfai u.2 minp minM mUp mcar mcam mahd magn mltr mbeg mcmd mcmM mpl msz mwr mlin mliM)) (va_runV (As := [.int zv2, .int zv4, .int zv6, .int zv8]) (rest := []) ⟨hx, hb, hml, hown, hts⟩ (c_X11_overIt l g q0 q1 q2 q3 q4 q5 q6 q7 q8 q9 q10 q11 q12 mm masd msav misS mpst mchg merr mfai mthr minp minM mUp mcar mcam mahd magn mltr mbeg mcmd mcmM mpl msz mwr mlin mliM _ zv2 zv4 zv6 zv8 fu _ hzo13) (cwV 4 hts (gdV mU_1383 mU_1385 mU_35 mU_75 mU_1386) rfl rfl rfl (by decide +kernel) ⟨Nat.le_of_ble_eq_true rfl, Nat.le_of_ble_eq_true rfl⟩) ⟨z_blind _ _ _ _, va_recv hK hP (ci := 7) (q0 := 0) rfl rfl, fun U hU hW => z_preE hP hD hK hB hS hA hU hW⟩ rfl rfl hl.1 rfl (lv_room (Nat.le_of_ble_eq_true rfl)) dX11_does_109 ⟨Nat.le_of_ble_eq_true rfl, Nat.le_of_ble_eq_true rfl⟩) hD hS hA (fun _ => rfl) (fun r u H locs hw hP hD hS => ?_)
    obtain ⟨rfl, rfl⟩ := hw
    have hP : va_P (gD g) zCl (wModel g q0 q1 q2 q3 q4 q5 q6 q7 q8 q9 q10 q11 q12 zo13.2.1 masd msav misS mpst mchg merr mfai zo13.2.2 minp minM mUp mcar mcam mahd magn mltr mbeg mcmd mcmM mpl msz mwr mlin mliM) H := hP
    have hD : va_D A (wModel g q0 q1 q2 q3 q4 q5 q6 q7 q8 q9 q10 q11 q12 zo13.2.1 masd msav misS mpst mchg merr mfai zo13.2.2 minp minM mUp mcar mcam mahd magn mltr mbeg mcmd mcmM mpl msz mwr mlin mliM) := hD
    refine lv_pop hx hb dX11_does_112 rfl ?_
    refine lv_goto (tgt := 177) hx hb dX11_does_113 (by decide) ?_
    have ho := (Option.some.inj hF).symm
    exact W.vret hx hb hr (fun t ht hW => ⟨⟨(zo13.2.1, zo13.2.2, mUp), rfl, ho, z_end ht hP⟩, hS.F ht⟩) hS.2.2 dX11_does_177
  have hF := z_neg hF zc12
  by_cases zc14 : (mcmd (Int32.toNatClampNeg p1)) = 2
  · have hF := z_pos hF zc14
    refine lv_tableIn (tgt := 116) (off := 72) hx hb dX11_does_44 (by rw [zc14]; decide) (by rw [zc14]; decide) (by rw [zc14]; rfl) (by decide) ?_
    refine lv_aload_n hx hb dX11_does_116 rfl (lv_at hl 4 rfl) ?_
    refine lv_iload_n hx hb dX11_does_117 rfl (lv_at hl 3 rfl) ?_
    obtain ⟨zo15, hzo15, hF⟩ := z_bind hF
    refine z_calllE (fun (u : (Nat → Int64) × Int32) => (wModel g q0 q1 q2 q3 q4 q5 q6 q7 q8 q9 q10 q11 q12 u.1 masd msav misS mpst mchg merr mfai u.2 minp minM mUp mcar mcam mahd magn mltr mbeg mcmd mcmM mpl msz mwr mlin mliM)) (va_runV (As := [.int zv2]) (rest := []) ⟨hx, hb, hml, hown, hts⟩ (c_X11_freeIt l g q0 q1 q2 q3 q4 q5 q6 q7 q8 q9 q10 q11 q12 mm masd msav misS mpst mchg merr mfai mthr minp minM mUp mcar mcam mahd magn mltr mbeg mcmd mcmM mpl msz mwr mlin mliM _ zv2 fu _ hzo15) (cwV 1 hts (gdV mU_1396 mU_1398 mU_36 mU_75 mU_1399) rfl rfl rfl (by decide +kernel) ⟨Nat.le_of_ble_eq_true rfl, Nat.le_of_ble_eq_true rfl⟩) ⟨z_blind _ _ _ _, va_recv hK hP (ci := 7) (q0 := 0) rfl rfl, fun U hU hW => z_preE hP hD hK hB hS hA hU hW⟩ rfl rfl hl.1 rfl (lv_room (Nat.le_of_ble_eq_true rfl)) dX11_does_118 ⟨Nat.le_of_ble_eq_true rfl, Nat.le_of_ble_eq_true rfl⟩) hD hS hA (fun _ => rfl) (fun r u H locs hw hP hD hS => ?_)
    obtain ⟨rfl, rfl⟩ := hw
    have hP : va_P (gD g) zCl (wModel g q0 q1 q2 q3 q4 q5 q6 q7 q8 q9 q10 q11 q12 zo15.2.1 masd msav misS mpst mchg merr mfai zo15.2.2 minp minM mUp mcar mcam mahd magn mltr mbeg mcmd mcmM mpl msz mwr mlin mliM) H := hP
    have hD : va_D A (wModel g q0 q1 q2 q3 q4 q5 q6 q7 q8 q9 q10 q11 q12 zo15.2.1 masd msav misS mpst mchg merr mfai zo15.2.2 minp minM mUp mcar mcam mahd magn mltr mbeg mcmd mcmM mpl msz mwr mlin mliM) := hD
    refine lv_pop2_2 hx hb dX11_does_121 rfl ?_
    refine lv_goto (tgt := 177) hx hb dX11_does_122 (by decide) ?_
    have ho := (Option.some.inj hF).symm
    exact W.vret hx hb hr (fun t ht hW => ⟨⟨(zo15.2.1, zo15.2.2, mUp), rfl, ho, z_end ht hP⟩, hS.F ht⟩) hS.2.2 dX11_does_177
  have hF := z_neg hF zc14
  by_cases zc16 : (mcmd (Int32.toNatClampNeg p1)) = 3
  · have hF := z_pos hF zc16
    refine lv_tableIn (tgt := 125) (off := 81) hx hb dX11_does_44 (by rw [zc16]; decide) (by rw [zc16]; decide) (by rw [zc16]; rfl) (by decide) ?_
    refine lv_aload_n hx hb dX11_does_125 rfl (lv_at hl 4 rfl) ?_
    refine lv_iload_n hx hb dX11_does_126 rfl (lv_at hl 3 rfl) ?_
    refine lv_iload_n hx hb dX11_does_127 rfl (lv_at hl 2 rfl) ?_
    refine lv_iload hx hb dX11_does_128 (lv_at hl 1 rfl) ?_
    obtain ⟨zo17, hzo17, hF⟩ := z_bind hF
    refine z_calllE (fun (u : (Nat → Int64) × Int32) => (wModel g q0 q1 q2 q3 q4 q5 q6 q7 q8 q9 q10 q11 q12 u.1 masd msav misS mpst mchg merr mfai u.2 minp minM mUp mcar mcam mahd magn mltr mbeg mcmd mcmM mpl msz mwr mlin mliM)) (va_runV (As := [.int zv2, .int zv4, .int zv6]) (rest := []) ⟨hx, hb, hml, hown, hts⟩ (c_X11_feedIt l g q0 q1 q2 q3 q4 q5 q6 q7 q8 q9 q10 q11 q12 mm masd msav misS mpst mchg merr mfai mthr minp minM mUp mcar mcam mahd magn mltr mbeg mcmd mcmM mpl msz mwr mlin mliM _ zv2 zv4 zv6 fu _ hzo17) (cwV 3 hts (gdV mU_1408 mU_1410 mU_38 mU_75 mU_1411) rfl rfl rfl (by decide +kernel) ⟨Nat.le_of_ble_eq_true rfl, Nat.le_of_ble_eq_true rfl⟩) ⟨z_blind _ _ _ _, va_recv hK hP (ci := 7) (q0 := 0) rfl rfl, fun U hU hW => z_preE hP hD hK hB hS hA hU hW⟩ rfl rfl hl.1 rfl (lv_room (Nat.le_of_ble_eq_true rfl)) dX11_does_130 ⟨Nat.le_of_ble_eq_true rfl, Nat.le_of_ble_eq_true rfl⟩) hD hS hA (fun _ => rfl) (fun r u H locs hw hP hD hS => ?_)
    obtain ⟨rfl, rfl⟩ := hw
    have hP : va_P (gD g) zCl (wModel g q0 q1 q2 q3 q4 q5 q6 q7 q8 q9 q10 q11 q12 zo17.2.1 masd msav misS mpst mchg merr mfai zo17.2.2 minp minM mUp mcar mcam mahd magn mltr mbeg mcmd mcmM mpl msz mwr mlin mliM) H := hP
    have hD : va_D A (wModel g q0 q1 q2 q3 q4 q5 q6 q7 q8 q9 q10 q11 q12 zo17.2.1 masd msav misS mpst mchg merr mfai zo17.2.2 minp minM mUp mcar mcam mahd magn mltr mbeg mcmd mcmM mpl msz mwr mlin mliM) := hD
    refine lv_pop2_2 hx hb dX11_does_133 rfl ?_
    refine lv_goto (tgt := 177) hx hb dX11_does_134 (by decide) ?_
    have ho := (Option.some.inj hF).symm
    exact W.vret hx hb hr (fun t ht hW => ⟨⟨(zo17.2.1, zo17.2.2, mUp), rfl, ho, z_end ht hP⟩, hS.F ht⟩) hS.2.2 dX11_does_177
  have hF := z_neg hF zc16
  by_cases zc18 : (mcmd (Int32.toNatClampNeg p1)) = 4
  · have hF := z_pos hF zc18
    refine lv_tableIn (tgt := 137) (off := 93) hx hb dX11_does_44 (by rw [zc18]; decide) (by rw [zc18]; decide) (by rw [zc18]; rfl) (by decide) ?_
    refine lv_aload_n hx hb dX11_does_137 rfl (lv_at hl 4 rfl) ?_
    refine lv_iload_n hx hb dX11_does_138 rfl (lv_at hl 3 rfl) ?_
    refine lv_iload_n hx hb dX11_does_139 rfl (lv_at hl 2 rfl) ?_
    refine lv_iload hx hb dX11_does_140 (lv_at hl 1 rfl) ?_
    refine lv_iload hx hb dX11_does_142 (lv_at hl 0 rfl) ?_
    obtain ⟨zo19, hzo19, hF⟩ := z_bind hF
    refine z_calllE (fun (u : (Nat → Int64) × Int32) => (wModel g q0 q1 q2 q3 q4 q5 q6 q7 q8 q9 q10 q11 q12 u.1 masd msav misS mpst mchg merr mfai u.2 minp minM mUp mcar mcam mahd magn mltr mbeg mcmd mcmM mpl msz mwr mlin mliM)) (va_runV (As := [.int zv2, .int zv4, .int zv6, .int zv8]) (rest := []) ⟨hx, hb, hml, hown, hts⟩ (c_X11_tradeIt l g q0 q1 q2 q3 q4 q5 q6 q7 q8 q9 q10 q11 q12 mm masd msav misS mpst mchg merr mfai mthr minp minM mUp mcar mcam mahd magn mltr mbeg mcmd mcmM mpl msz mwr mlin mliM _ zv2 zv4 zv6 zv8 fu _ hzo19) (cwV 4 hts (gdV mU_1424 mU_1426 mU_40 mU_75 mU_1427) rfl rfl rfl (by decide +kernel) ⟨Nat.le_of_ble_eq_true rfl, Nat.le_of_ble_eq_true rfl⟩) ⟨z_blind _ _ _ _, va_recv hK hP (ci := 7) (q0 := 0) rfl rfl, fun U hU hW => z_preE hP hD hK hB hS hA hU hW⟩ rfl rfl hl.1 rfl (lv_room (Nat.le_of_ble_eq_true rfl)) dX11_does_144 ⟨Nat.le_of_ble_eq_true rfl, Nat.le_of_ble_eq_true rfl⟩) hD hS hA (fun _ => rfl) (fun r u H locs hw hP hD hS => ?_)
    obtain ⟨rfl, rfl⟩ := hw
    have hP : va_P (gD g) zCl (wModel g q0 q1 q2 q3 q4 q5 q6 q7 q8 q9 q10 q11 q12 zo19.2.1 masd msav misS mpst mchg merr mfai zo19.2.2 minp minM mUp mcar mcam mahd magn mltr mbeg mcmd mcmM mpl msz mwr mlin mliM) H := hP
    have hD : va_D A (wModel g q0 q1 q2 q3 q4 q5 q6 q7 q8 q9 q10 q11 q12 zo19.2.1 masd msav misS mpst mchg merr mfai zo19.2.2 minp minM mUp mcar mcam mahd magn mltr mbeg mcmd mcmM mpl msz mwr mlin mliM) := hD
    refine lv_pop2_2 hx hb dX11_does_147 rfl ?_
    refine lv_goto (tgt := 177) hx hb dX11_does_148 (by decide) ?_
    have ho := (Option.some.inj hF).symm
    exact W.vret hx hb hr (fun t ht hW => ⟨⟨(zo19.2.1, zo19.2.2, mUp), rfl, ho, z_end ht hP⟩, hS.F ht⟩) hS.2.2 dX11_does_177
  have hF := z_neg hF zc18
  by_cases zc20 : (mcmd (Int32.toNatClampNeg p1)) = 5
  · have hF := z_pos hF zc20
    refine lv_tableIn (tgt := 151) (off := 107) hx hb dX11_does_44 (by rw [zc20]; decide) (by rw [zc20]; decide) (by rw [zc20]; rfl) (by decide) ?_
    refine lv_aload_n hx hb dX11_does_151 rfl (lv_at hl 4 rfl) ?_
    refine lv_iload_n hx hb dX11_does_152 rfl (lv_at hl 3 rfl) ?_
    refine lv_iload_n hx hb dX11_does_153 rfl (lv_at hl 2 rfl) ?_
    obtain ⟨zo21, hzo21, hF⟩ := z_bind hF
    refine z_calliE (fun (u : (Nat → Int64) × Int32) => (wModel g q0 q1 q2 q3 q4 q5 q6 q7 q8 q9 q10 q11 q12 u.1 masd msav misS mpst mchg merr mfai u.2 minp minM mUp mcar mcam mahd magn mltr mbeg mcmd mcmM mpl msz mwr mlin mliM)) (va_runV (As := [.int zv2, .int zv4]) (rest := []) ⟨hx, hb, hml, hown, hts⟩ (c_X11_scaleIt l g q0 q1 q2 q3 q4 q5 q6 q7 q8 q9 q10 q11 q12 mm masd msav misS mpst mchg merr mfai mthr minp minM mUp mcar mcam mahd magn mltr mbeg mcmd mcmM mpl msz mwr mlin mliM _ zv2 zv4 fu _ hzo21) (cwV 2 hts (gdV mU_1432 mU_1434 mU_41 mU_75 mU_1435) rfl rfl rfl (by decide +kernel) ⟨Nat.le_of_ble_eq_true rfl, Nat.le_of_ble_eq_true rfl⟩) ⟨z_blind _ _ _ _, va_recv hK hP (ci := 7) (q0 := 0) rfl rfl, fun U hU hW => z_preE hP hD hK hB hS hA hU hW⟩ rfl rfl hl.1 rfl (lv_room (Nat.le_of_ble_eq_true rfl)) dX11_does_154 ⟨Nat.le_of_ble_eq_true rfl, Nat.le_of_ble_eq_true rfl⟩) hD hS hA (fun _ => rfl) (fun r u H locs hw hP hD hS => ?_)
    obtain ⟨rfl, rfl⟩ := hw
    have hP : va_P (gD g) zCl (wModel g q0 q1 q2 q3 q4 q5 q6 q7 q8 q9 q10 q11 q12 zo21.2.1 masd msav misS mpst mchg merr mfai zo21.2.2 minp minM mUp mcar mcam mahd magn mltr mbeg mcmd mcmM mpl msz mwr mlin mliM) H := hP
    have hD : va_D A (wModel g q0 q1 q2 q3 q4 q5 q6 q7 q8 q9 q10 q11 q12 zo21.2.1 masd msav misS mpst mchg merr mfai zo21.2.2 minp minM mUp mcar mcam mahd magn mltr mbeg mcmd mcmM mpl msz mwr mlin mliM) := hD
    refine lv_pop hx hb dX11_does_157 rfl ?_
    refine lv_goto (tgt := 177) hx hb dX11_does_158 (by decide) ?_
    have ho := (Option.some.inj hF).symm
    exact W.vret hx hb hr (fun t ht hW => ⟨⟨(zo21.2.1, zo21.2.2, mUp), rfl, ho, z_end ht hP⟩, hS.F ht⟩) hS.2.2 dX11_does_177
  have hF := z_neg hF zc20
  by_cases zc22 : (mcmd (Int32.toNatClampNeg p1)) = 6
  · have hF := z_pos hF zc22
    refine lv_tableIn (tgt := 161) (off := 117) hx hb dX11_does_44 (by rw [zc22]; decide) (by rw [zc22]; decide) (by rw [zc22]; rfl) (by decide) ?_
    refine lv_aload_n hx hb dX11_does_161 rfl (lv_at hl 4 rfl) ?_
    refine lv_iload_n hx hb dX11_does_162 rfl (lv_at hl 3 rfl) ?_
    refine lv_iload_n hx hb dX11_does_163 rfl (lv_at hl 2 rfl) ?_
    obtain ⟨zo23, hzo23, hF⟩ := z_bind hF
    refine z_calliE (fun (u : (Nat → Int64) × Int32) => (wModel g q0 q1 q2 q3 q4 q5 q6 q7 q8 q9 q10 q11 q12 u.1 masd msav misS mpst mchg merr mfai u.2 minp minM mUp mcar mcam mahd magn mltr mbeg mcmd mcmM mpl msz mwr mlin mliM)) (va_runV (As := [.int zv2, .int zv4]) (rest := []) ⟨hx, hb, hml, hown, hts⟩ (c_X11_modeIt l g q0 q1 q2 q3 q4 q5 q6 q7 q8 q9 q10 q11 q12 mm masd msav misS mpst mchg merr mfai mthr minp minM mUp mcar mcam mahd magn mltr mbeg mcmd mcmM mpl msz mwr mlin mliM _ zv2 zv4 fu _ hzo23) (cwV 2 hts (gdV mU_1440 mU_1442 mU_42 mU_75 mU_1443) rfl rfl rfl (by decide +kernel) ⟨Nat.le_of_ble_eq_true rfl, Nat.le_of_ble_eq_true rfl⟩) ⟨z_blind _ _ _ _, va_recv hK hP (ci := 7) (q0 := 0) rfl rfl, fun U hU hW => z_preE hP hD hK hB hS hA hU hW⟩ rfl rfl hl.1 rfl (lv_room (Nat.le_of_ble_eq_true rfl)) dX11_does_164 ⟨Nat.le_of_ble_eq_true rfl, Nat.le_of_ble_eq_true rfl⟩) hD hS hA (fun _ => rfl) (fun r u H locs hw hP hD hS => ?_)
    obtain ⟨rfl, rfl⟩ := hw
    have hP : va_P (gD g) zCl (wModel g q0 q1 q2 q3 q4 q5 q6 q7 q8 q9 q10 q11 q12 zo23.2.1 masd msav misS mpst mchg merr mfai zo23.2.2 minp minM mUp mcar mcam mahd magn mltr mbeg mcmd mcmM mpl msz mwr mlin mliM) H := hP
    have hD : va_D A (wModel g q0 q1 q2 q3 q4 q5 q6 q7 q8 q9 q10 q11 q12 zo23.2.1 masd msav misS mpst mchg merr mfai zo23.2.2 minp minM mUp mcar mcam mahd magn mltr mbeg mcmd mcmM mpl msz mwr mlin mliM) := hD
    refine lv_pop hx hb dX11_does_167 rfl ?_
    refine lv_goto (tgt := 177) hx hb dX11_does_168 (by decide) ?_
    have ho := (Option.some.inj hF).symm
    exact W.vret hx hb hr (fun t ht hW => ⟨⟨(zo23.2.1, zo23.2.2, mUp), rfl, ho, z_end ht hP⟩, hS.F ht⟩) hS.2.2 dX11_does_177
  have hF := z_neg hF zc22
  refine lv_tableOut (tgt := 171) hx hb dX11_does_44 (by have hzc10 : ((mcmd (Int32.toNatClampNeg p1)) : Int32).toInt ≠ 0 := fun h => zc10 (Int32.toInt_inj.mp h); have hzc12 : ((mcmd (Int32.toNatClampNeg p1)) : Int32).toInt ≠ 1 := fun h => zc12 (Int32.toInt_inj.mp h); have hzc14 : ((mcmd (Int32.toNatClampNeg p1)) : Int32).toInt ≠ 2 := fun h => zc14 (Int32.toInt_inj.mp h); have hzc16 : ((mcmd (Int32.toNatClampNeg p1)) : Int32).toInt ≠ 3 := fun h => zc16 (Int32.toInt_inj.mp h); have hzc18 : ((mcmd (Int32.toNatClampNeg p1)) : Int32).toInt ≠ 4 := fun h => zc18 (Int32.toInt_inj.mp h); have hzc20 : ((mcmd (Int32.toNatClampNeg p1)) : Int32).toInt ≠ 5 := fun h => zc20 (Int32.toInt_inj.mp h); have hzc22 : ((mcmd (Int32.toNatClampNeg p1)) : Int32).toInt ≠ 6 := fun h => zc22 (Int32.toInt_inj.mp h); omega) (by decide) ?_
  refine lv_aload_n hx hb dX11_does_171 rfl (lv_at hl 4 rfl) ?_
  refine lv_iload_n hx hb dX11_does_172 rfl (lv_at hl 3 rfl) ?_
  obtain ⟨zo24, hzo24, hF⟩ := z_bind hF
  refine z_calliE (fun (u : (Nat → Int64) × Int32 × (Nat → Int32)) => (wModel g q0 q1 q2 q3 q4 q5 q6 q7 q8 q9 q10 q11 q12 u.1 masd msav misS mpst mchg merr mfai u.2.1 minp minM u.2.2 mcar mcam mahd magn mltr mbeg mcmd mcmM mpl msz mwr mlin mliM)) (va_runV (As := [.int zv2]) (rest := []) ⟨hx, hb, hml, hown, hts⟩ (c_X11_togetherIt l g q0 q1 q2 q3 q4 q5 q6 q7 q8 q9 q10 q11 q12 mm masd msav misS mpst mchg merr mfai mthr minp minM mUp mcar mcam mahd magn mltr mbeg mcmd mcmM mpl msz mwr mlin mliM _ zv2 fu _ hzo24) (cwV 1 hts (gdV mU_1448 mU_1450 mU_43 mU_75 mU_1451) rfl rfl rfl (by decide +kernel) ⟨Nat.le_of_ble_eq_true rfl, Nat.le_of_ble_eq_true rfl⟩) ⟨z_blind _ _ _ _, va_recv hK hP (ci := 7) (q0 := 0) rfl rfl, fun U hU hW => z_preE hP hD hK hB hS hA hU hW⟩ rfl rfl hl.1 rfl (lv_room (Nat.le_of_ble_eq_true rfl)) dX11_does_173 ⟨Nat.le_of_ble_eq_true rfl, Nat.le_of_ble_eq_true rfl⟩) hD hS hA (fun _ => rfl) (fun r u H locs hw hP hD hS => ?_)
  obtain ⟨rfl, rfl⟩ := hw
  have hP : va_P (gD g) zCl (wModel g q0 q1 q2 q3 q4 q5 q6 q7 q8 q9 q10 q11 q12 zo24.2.1 masd msav misS mpst mchg merr mfai zo24.2.2.1 minp minM zo24.2.2.2 mcar mcam mahd magn mltr mbeg mcmd mcmM mpl msz mwr mlin mliM) H := hP
  have hD : va_D A (wModel g q0 q1 q2 q3 q4 q5 q6 q7 q8 q9 q10 q11 q12 zo24.2.1 masd msav misS mpst mchg merr mfai zo24.2.2.1 minp minM zo24.2.2.2 mcar mcam mahd magn mltr mbeg mcmd mcmM mpl msz mwr mlin mliM) := hD
  refine lv_pop hx hb dX11_does_176 rfl ?_
  have ho := (Option.some.inj hF).symm
  exact W.vret hx hb hr (fun t ht hW => ⟨⟨(zo24.2.1, zo24.2.2.1, zo24.2.2.2), rfl, ho, z_end ht hP⟩, hS.F ht⟩) hS.2.2 dX11_does_177
abbrev w_X11_run : List Cond := .code yX11_run cX11_run 4 (some .int) :: wU
abbrev r_X11_run : Room := { frames := 6, cells := 0, slots := 0, locals := 134 }
abbrev q_X11_run (g : GG) (q0 q1 q2 q3 q4 q5 q6 q7 q8 q9 q10 q11 q12 : Nat) (mm : Nat → Int64) (masd : Nat → Int64) (msav : Nat → Int64) (misS : Int32) (mpst : Nat → Int64) (mchg : Int32) (merr : Int32) (mfai : Int32) (mthr : Int32) (minp : Nat → Int32) (minM : Int32) (mUp : Nat → Int32) (mcar : Nat → Int32) (mcam : Nat → Int32) (mahd : Int32) (magn : Int32) (mltr : Nat → Int32) (mbeg : Nat → Int32) (mcmd : Nat → Int32) (mcmM : Int32) (mpl : Int32) (msz : Int32) (mwr : Int32) (mlin : Nat → Int32) (mliM : Int32) (o : Int32 × (Nat → Int64) × (Nat → Int64) × (Nat → Int64) × Int32 × Int32 × Int32 × Int32 × Int32 × (Nat → Int32) × (Nat → Int32) × Int32 × Int32 × Int32 × Int32) (A : Nat → Prop) := va_Qi (fun (r : Int32) (u : (Nat → Int64) × (Nat → Int64) × (Nat → Int64) × Int32 × Int32 × Int32 × Int32 × Int32 × (Nat → Int32) × (Nat → Int32) × Int32 × Int32 × Int32 × Int32) => o.1 = r ∧ o.2 = u) (fun u t => va_P (gD g) zCl (wModel g q0 q1 q2 q3 q4 q5 q6 q7 q8 q9 q10 q11 q12 u.1 u.2.1 msav misS u.2.2.1 u.2.2.2.1 u.2.2.2.2.1 u.2.2.2.2.2.1 u.2.2.2.2.2.2.1 minp u.2.2.2.2.2.2.2.1 u.2.2.2.2.2.2.2.2.1 mcar mcam mahd magn mltr mbeg u.2.2.2.2.2.2.2.2.2.1 u.2.2.2.2.2.2.2.2.2.2.1 u.2.2.2.2.2.2.2.2.2.2.2.1 u.2.2.2.2.2.2.2.2.2.2.2.2.1 u.2.2.2.2.2.2.2.2.2.2.2.2.2 mlin mliM) t.heap) A
set_option maxHeartbeats 4000000 in
set_option maxRecDepth 100000 in
theorem c_X11_run (l : Launch) (g : GG) (q0 q1 q2 q3 q4 q5 q6 q7 q8 q9 q10 q11 q12 : Nat) (mm : Nat → Int64) (masd : Nat → Int64) (msav : Nat → Int64) (misS : Int32) (mpst : Nat → Int64) (mchg : Int32) (merr : Int32) (mfai : Int32) (mthr : Int32) (minp : Nat → Int32) (minM : Int32) (mUp : Nat → Int32) (mcar : Nat → Int32) (mcam : Nat → Int32) (mahd : Int32) (magn : Int32) (mltr : Nat → Int32) (mbeg : Nat → Int32) (mcmd : Nat → Int32) (mcmM : Int32) (mpl : Int32) (msz : Int32) (mwr : Int32) (mlin : Nat → Int32) (mliM : Int32) (sz : Nat) (fu : Nat) (o : Int32 × (Nat → Int64) × (Nat → Int64) × (Nat → Int64) × Int32 × Int32 × Int32 × Int32 × Int32 × (Nat → Int32) × (Nat → Int32) × Int32 × Int32 × Int32 × Int32) (hF : F_X11_run fu mm masd mpst mchg merr mfai mthr minp minM mUp mltr mbeg mcmd mcmM mpl msz mwr = some o) : Met l yX11_run w_X11_run r_X11_run (va_Pc [.ref q0] (zP g (wModel g q0 q1 q2 q3 q4 q5 q6 q7 q8 q9 q10 q11 q12 mm masd msav misS mpst mchg merr mfai mthr minp minM mUp mcar mcam mahd magn mltr mbeg mcmd mcmM mpl msz mwr mlin mliM) sz)) (q_X11_run g q0 q1 q2 q3 q4 q5 q6 q7 q8 q9 q10 q11 q12 mm masd msav misS mpst mchg merr mfai mthr minp minM mUp mcar mcam mahd magn mltr mbeg mcmd mcmM mpl msz mwr mlin mliM o (va_A (wModel g q0 q1 q2 q3 q4 q5 q6 q7 q8 q9 q10 q11 q12 mm masd msav misS mpst mchg merr mfai mthr minp minM mUp mcar mcam mahd magn mltr mbeg mcmd mcmM mpl msz mwr mlin mliM) sz)) 0 0 (va_A (wModel g q0 q1 q2 q3 q4 q5 q6 q7 q8 q9 q10 q11 q12 mm masd msav misS mpst mchg merr mfai mthr minp minM mUp mcar mcam mahd magn mltr mbeg mcmd mcmM mpl msz mwr mlin mliM) sz) := by
  refine Met.ofW (cc := cX11_run) (maxL := 4) (ret := (some .int)) (by decide) rfl ?_
  intro p e s m args below meth c s₁ B hml hv
  obtain ⟨rfl, rfl, hP, hK, hD0, hB⟩ := hv
  have hx := B.exec
  have hb := B.bytes
  have hr := B.returns
  have hts : ∀ w ∈ wU, w.before _ s = true := fun w h => atoms_spec (ws := w_X11_run) B.pre w (List.mem_cons_of_mem _ h)
  have hown : s.vm.findClass RX11 = some m.cls := findClass_of_methodNamed B.named
  have hlocks := B.notSynchronized
  have hD := hD0.self (sz := s.heap.size)
  generalize hAe : va_A (wModel g q0 q1 q2 q3 q4 q5 q6 q7 q8 q9 q10 q11 q12 mm masd msav misS mpst mchg merr mfai mthr minp minM mUp mcar mcam mahd magn mltr mbeg mcmd mcmM mpl msz mwr mlin mliM) s.heap.size = A at hD hB ⊢
  have hA : ∀ q : Nat, s.heap.size ≤ q → A q := fun q h => by rw [← hAe]; exact Or.inr h
  have hS : va_S A s.heap s.heap [] := va_S.rf
  have hl := lv_entry ([.ref q0]) (n := 4) (Nat.le_of_ble_eq_true rfl)
  rw [lg_entry_eq]
  generalize (lg_sl ([.ref q0]) ++ List.replicate (4 - (lg_sl ([.ref q0])).length) Slot.unset).toArray = ls at hl ⊢
  have hl : lv_has ls 4 [(0, .ref q0)] := hl
  unfold F_X11_run at hF
  have K139 : ∀ (n139 : Nat) (mm : Nat → Int64) (masd : Nat → Int64) (mpst : Nat → Int64) (mchg : Int32) (merr : Int32) (mfai : Int32) (mthr : Int32) (minM : Int32) (mUp : Nat → Int32) (mcmd : Nat → Int32) (mcmM : Int32) (mpl : Int32) (msz : Int32) (mwr : Int32) (x2 : Int32) (x3 : Int32), F_X11_run_139 fu n139 mm masd mpst mchg merr mfai mthr minp minM mUp mltr mbeg mcmd mcmM mpl msz mwr x2 x3 = some o → ∀ (H : Heap) (locs : List Loc) (ls : Array Slot), lv_has ls 4 [(0, .ref q0), (2, .int x2), (3, .int x3)] → va_P (gD g) zCl (wModel g q0 q1 q2 q3 q4 q5 q6 q7 q8 q9 q10 q11 q12 mm masd msav misS mpst mchg merr mfai mthr minp minM mUp mcar mcam mahd magn mltr mbeg mcmd mcmM mpl msz mwr mlin mliM) H → va_D A (wModel g q0 q1 q2 q3 q4 q5 q6 q7 q8 q9 q10 q11 q12 mm masd msav misS mpst mchg merr mfai mthr minp minM mUp mcar mcam mahd magn mltr mbeg mcmd mcmM mpl msz mwr mlin mliM) → va_S A s.heap H locs → W p l e (headSpec w_X11_run r_X11_run).room s m ([.ref q0] : List Value).toArray below meth c H locs 0 0 (MQ below (q_X11_run g q0 q1 q2 q3 q4 q5 q6 q7 q8 q9 q10 q11 q12 mm masd msav misS mpst mchg merr mfai mthr minp minM mUp mcar mcam mahd magn mltr mbeg mcmd mcmM mpl msz mwr mlin mliM o A) ([.ref q0] : List Value).toArray s 0 0 A) (F0 m 139 ls []) := by
    intro n139
    induction n139 with
    | zero =>
      intro mm masd mpst mchg merr mfai mthr minM mUp mcmd mcmM mpl msz mwr x2 x3 hF
      exact absurd hF (by simp [F_X11_run_139])
    | succ n139 ih139 =>
      intro mm masd mpst mchg merr mfai mthr minM mUp mcmd mcmM mpl msz mwr x2 x3 hF H locs ls hl hP hD hS
      unfold F_X11_run_139 at hF
      refine lv_iload_n hx hb dX11_run_139 rfl (lv_at hl 2 rfl) ?_
      refine lv_bipush (v := 28) hx hb dX11_run_140 (by decide) ?_
      refine lv_icmp_ge (tgt := 163) hx hb dX11_run_142 (by decide) (fun zc1 => ?_) (fun zc1 => ?_)
      · have hF := z_pos hF zc1
        refine lv_aload_n hx hb dX11_run_163 rfl (lv_at hl 0 rfl) ?_
        refine lv_iload_n hx hb dX11_run_164 rfl (lv_at hl 1 rfl) ?_
        refine va_put (D := gD g) (ci := 7) (v := .int x2) (ty := .int) (C := RX11) (T := TX11) (N := 25) hx hb hts inX11 tyX11 tyX11_ok nmX11 hown hK hP hD hS 0 rfl rfl 7 (by decide) (hts _ mU_1251) (fun _ h9 => h9) rfl (by decide +kernel) rfl rfl (Nat.le_of_ble_eq_true rfl) dX11_run_165 (fun H locs hP hD hS => ?_)
        have hP : va_P (gD g) zCl (wModel g q0 q1 q2 q3 q4 q5 q6 q7 q8 q9 q10 q11 q12 mm masd msav misS mpst mchg merr x2 mthr minp minM mUp mcar mcam mahd magn mltr mbeg mcmd mcmM mpl msz mwr mlin mliM) H := hP
        have hD : va_D A (wModel g q0 q1 q2 q3 q4 q5 q6 q7 q8 q9 q10 q11 q12 mm masd msav misS mpst mchg merr x2 mthr minp minM mUp mcar mcam mahd magn mltr mbeg mcmd mcmM mpl msz mwr mlin mliM) := hD
        refine lv_aload_n hx hb dX11_run_168 rfl (lv_at hl 0 rfl) ?_
        refine lv_iconst (v := 2) hx hb dX11_run_169 (by decide) ?_
        obtain ⟨zo2, hzo2, hF⟩ := z_bind hF
        refine z_calliE (fun (u : Int32) => (wModel g q0 q1 q2 q3 q4 q5 q6 q7 q8 q9 q10 q11 q12 mm masd msav misS mpst mchg merr x2 u minp minM mUp mcar mcam mahd magn mltr mbeg mcmd mcmM mpl msz mwr mlin mliM)) (va_runV (As := [.int 2]) (rest := []) ⟨hx, hb, hml, hown, hts⟩ (c_X11_throwing l g q0 q1 q2 q3 q4 q5 q6 q7 q8 q9 q10 q11 q12 mm masd msav misS mpst mchg merr x2 mthr minp minM mUp mcar mcam mahd magn mltr mbeg mcmd mcmM mpl msz mwr mlin mliM _ 2 _ hzo2) (cwV 1 hts (gdV mU_1352 mU_1354 mU_31 mU_75 mU_1355) rfl rfl rfl (by decide +kernel) ⟨Nat.le_of_ble_eq_true rfl, Nat.le_of_ble_eq_true rfl⟩) ⟨z_blind _ _ _ _, va_recv hK hP (ci := 7) (q0 := 0) rfl rfl, fun U hU hW => z_preE hP hD hK hB hS hA hU hW⟩ rfl rfl hl.1 rfl (lv_room (Nat.le_of_ble_eq_true rfl)) dX11_run_170 ⟨Nat.le_of_ble_eq_true rfl, Nat.le_of_ble_eq_true rfl⟩) hD hS hA (fun _ => rfl) (fun r u H locs hw hP hD hS => ?_)
        obtain ⟨rfl, rfl⟩ := hw
        have hP : va_P (gD g) zCl (wModel g q0 q1 q2 q3 q4 q5 q6 q7 q8 q9 q10 q11 q12 mm masd msav misS mpst mchg merr x2 zo2.2 minp minM mUp mcar mcam mahd magn mltr mbeg mcmd mcmM mpl msz mwr mlin mliM) H := hP
        have hD : va_D A (wModel g q0 q1 q2 q3 q4 q5 q6 q7 q8 q9 q10 q11 q12 mm masd msav misS mpst mchg merr x2 zo2.2 minp minM mUp mcar mcam mahd magn mltr mbeg mcmd mcmM mpl msz mwr mlin mliM) := hD
        have ho := (Option.some.inj hF).symm
        exact W.iret (v := zo2.1) hx hb hr (fun t ht hW => ⟨⟨zo2.1, (mm, masd, mpst, mchg, merr, x2, zo2.2, minM, mUp, mcmd, mcmM, mpl, msz, mwr), rfl, ⟨by rw [ho], by rw [ho]⟩, z_end ht hP⟩, hS.F ht⟩) hS.2.2 dX11_run_173
      · have hF := z_neg hF zc1
        refine lv_aload_n hx hb dX11_run_145 rfl (lv_at hl 0 rfl) ?_
        refine va_get (D := gD g) (ci := 7) (v := .ref q1) (C := RX11) (T := TX11) (N := 25) hx hb hts inX11 hown hK hP 0 rfl rfl 0 (by decide) (hts _ mU_1244) (fun _ h9 => h9) rfl dX11_run_146 ?_
        refine lv_iload_n hx hb dX11_run_149 rfl (lv_at hl 2 rfl) ?_
        refine lv_aload_n hx hb dX11_run_150 rfl (lv_at hl 0 rfl) ?_
        refine va_get (D := gD g) (ci := 7) (v := .ref q2) (C := RX11) (T := TX11) (N := 25) hx hb hts inX11 hown hK hP 0 rfl rfl 1 (by decide) (hts _ mU_1245) (fun _ h9 => h9) rfl dX11_run_151 ?_
        refine lv_iload_n hx hb dX11_run_154 rfl (lv_at hl 2 rfl) ?_
        obtain ⟨zg3, hF⟩ := z_grd hF
        refine va_lald hx hb hK hP 2 2 rfl rfl zg3 dX11_run_155 ?_
        obtain ⟨zg4, hF⟩ := z_grd hF
        refine va_last hx hb hK hP hD hS 1 2 rfl rfl zg4 dX11_run_156 (fun H locs hP hD hS => ?_)
        have hP : va_P (gD g) zCl (wModel g q0 q1 q2 q3 q4 q5 q6 q7 q8 q9 q10 q11 q12 (vp_updL mm (Int32.toNatClampNeg x3) (masd (Int32.toNatClampNeg x3))) masd msav misS mpst mchg merr mfai mthr minp minM mUp mcar mcam mahd magn mltr mbeg mcmd mcmM mpl msz mwr mlin mliM) H := hP
        have hD : va_D A (wModel g q0 q1 q2 q3 q4 q5 q6 q7 q8 q9 q10 q11 q12 (vp_updL mm (Int32.toNatClampNeg x3) (masd (Int32.toNatClampNeg x3))) masd msav misS mpst mchg merr mfai mthr minp minM mUp mcar mcam mahd magn mltr mbeg mcmd mcmM mpl msz mwr mlin mliM) := hD
        obtain ⟨zv5, ezv5, hF⟩ := z_let hF
        refine lv_iinc (v := zv5) (lv' := [(3, .int zv5), (0, .ref q0), (2, .int x2)]) hx hb dX11_run_157 hl (k := 2) rfl (by rw [ezv5]; rfl) (by decide) rfl (fun ls hl => ?_)
        refine lv_goto (tgt := 139) hx hb dX11_run_160 (by decide) ?_
        exact ih139 (vp_updL mm (Int32.toNatClampNeg x3) (masd (Int32.toNatClampNeg x3))) masd mpst mchg merr mfai mthr minM mUp mcmd mcmM mpl msz mwr x2 zv5 hF _ _ _ (lv_sub hl [1, 2, 0] rfl) hP hD hS
  have K115 : ∀ (n115 : Nat) (mm : Nat → Int64) (masd : Nat → Int64) (mpst : Nat → Int64) (mchg : Int32) (merr : Int32) (mfai : Int32) (mthr : Int32) (minM : Int32) (mUp : Nat → Int32) (mcmd : Nat → Int32) (mcmM : Int32) (mpl : Int32) (msz : Int32) (mwr : Int32) (x2 : Int32), F_X11_run_115 fu n115 mm masd mpst mchg merr mfai mthr minp minM mUp mltr mbeg mcmd mcmM mpl msz mwr x2 = some o → ∀ (H : Heap) (locs : List Loc) (ls : Array Slot), lv_has ls 4 [(0, .ref q0), (2, .int x2)] → va_P (gD g) zCl (wModel g q0 q1 q2 q3 q4 q5 q6 q7 q8 q9 q10 q11 q12 mm masd msav misS mpst mchg merr mfai mthr minp minM mUp mcar mcam mahd magn mltr mbeg mcmd mcmM mpl msz mwr mlin mliM) H → va_D A (wModel g q0 q1 q2 q3 q4 q5 q6 q7 q8 q9 q10 q11 q12 mm masd msav misS mpst mchg merr mfai mthr minp minM mUp mcar mcam mahd magn mltr mbeg mcmd mcmM mpl msz mwr mlin mliM) → va_S A s.heap H locs → W p l e (headSpec w_X11_run r_X11_run).room s m ([.ref q0] : List Value).toArray below meth c H locs 0 0 (MQ below (q_X11_run g q0 q1 q2 q3 q4 q5 q6 q7 q8 q9 q10 q11 q12 mm masd msav misS mpst mchg merr mfai mthr minp minM mUp mcar mcam mahd magn mltr mbeg mcmd mcmM mpl msz mwr mlin mliM o A) ([.ref q0] : List Value).toArray s 0 0 A) (F0 m 115 ls []) := by
    intro n115
    induction n115 with
    | zero =>
      intro mm masd mpst mchg merr mfai mthr minM mUp mcmd mcmM mpl msz mwr x2 hF
      exact absurd hF (by simp [F_X11_run_115])
    | succ n115 ih115 =>
      intro mm masd mpst mchg merr mfai mthr minM mUp mcmd mcmM mpl msz mwr x2 hF H locs ls hl hP hD hS
      unfold F_X11_run_115 at hF
      refine lv_iload_n hx hb dX11_run_115 rfl (lv_at hl 1 rfl) ?_
      refine lv_aload_n hx hb dX11_run_116 rfl (lv_at hl 0 rfl) ?_
      refine va_get (D := gD g) (ci := 7) (v := .int mcmM) (C := RX11) (T := TX11) (N := 25) hx hb hts inX11 hown hK hP 0 rfl rfl 19 (by decide) (hts _ mU_1263) (fun _ h9 => h9) rfl dX11_run_117 ?_
      refine lv_icmp_ge (tgt := 180) hx hb dX11_run_120 (by decide) (fun zc6 => ?_) (fun zc6 => ?_)
      · have hF := z_pos hF zc6
        refine lv_aload_n hx hb dX11_run_180 rfl (lv_at hl 0 rfl) ?_
        obtain ⟨zo7, hzo7, hF⟩ := z_bind hF
        refine z_callvE (fun (u : (Nat → Int64) × Int32) => (wModel g q0 q1 q2 q3 q4 q5 q6 q7 q8 q9 q10 q11 q12 mm masd msav misS u.1 u.2 merr mfai mthr minp minM mUp mcar mcam mahd magn mltr mbeg mcmd mcmM mpl msz mwr mlin mliM)) (va_runV (As := []) (rest := []) ⟨hx, hb, hml, hown, hts⟩ (c_X11_ends l g q0 q1 q2 q3 q4 q5 q6 q7 q8 q9 q10 q11 q12 mm masd msav misS mpst mchg merr mfai mthr minp minM mUp mcar mcam mahd magn mltr mbeg mcmd mcmM mpl msz mwr mlin mliM _ fu _ hzo7) (cwV 0 hts (gdV mU_1375 mU_1377 mU_34 mU_75 mU_1378) rfl rfl rfl (by decide +kernel) ⟨Nat.le_of_ble_eq_true rfl, Nat.le_of_ble_eq_true rfl⟩) ⟨z_blind _ _ _ _, va_recv hK hP (ci := 7) (q0 := 0) rfl rfl, fun U hU hW => z_preE hP hD hK hB hS hA hU hW⟩ rfl rfl hl.1 rfl (lv_room (Nat.le_of_ble_eq_true rfl)) dX11_run_181 ⟨Nat.le_of_ble_eq_true rfl, Nat.le_of_ble_eq_true rfl⟩) hD hS hA (fun _ => rfl) (fun u H locs hw hP hD hS => ?_)
        subst hw
        have hP : va_P (gD g) zCl (wModel g q0 q1 q2 q3 q4 q5 q6 q7 q8 q9 q10 q11 q12 mm masd msav misS zo7.1 zo7.2 merr mfai mthr minp minM mUp mcar mcam mahd magn mltr mbeg mcmd mcmM mpl msz mwr mlin mliM) H := hP
        have hD : va_D A (wModel g q0 q1 q2 q3 q4 q5 q6 q7 q8 q9 q10 q11 q12 mm masd msav misS zo7.1 zo7.2 merr mfai mthr minp minM mUp mcar mcam mahd magn mltr mbeg mcmd mcmM mpl msz mwr mlin mliM) := hD
        refine lv_aload_n hx hb dX11_run_184 rfl (lv_at hl 0 rfl) ?_
        refine va_get (D := gD g) (ci := 7) (v := .int mcmM) (C := RX11) (T := TX11) (N := 25) hx hb hts inX11 hown hK hP 0 rfl rfl 19 (by decide) (hts _ mU_1263) (fun _ h9 => h9) rfl dX11_run_185 ?_
        have ho := (Option.some.inj hF).symm
        exact W.iret (v := mcmM) hx hb hr (fun t ht hW => ⟨⟨mcmM, (mm, masd, zo7.1, zo7.2, merr, mfai, mthr, minM, mUp, mcmd, mcmM, mpl, msz, mwr), rfl, ⟨by rw [ho], by rw [ho]⟩, z_end ht hP⟩, hS.F ht⟩) hS.2.2 dX11_run_188
      · have hF := z_neg hF zc6
        refine lv_aload_n hx hb dX11_run_123 rfl (lv_at hl 0 rfl) ?_
        refine lv_iconst (v := 5) hx hb dX11_run_124 (by decide) ?_
        refine lv_iload_n hx hb dX11_run_125 rfl (lv_at hl 1 rfl) ?_
        refine lv_imul hx hb dX11_run_126 ?_
        obtain ⟨zo8, hzo8, hF⟩ := z_bind hF
        refine z_callvE (fun (u : (Nat → Int64) × Int32 × (Nat → Int32)) => (wModel g q0 q1 q2 q3 q4 q5 q6 q7 q8 q9 q10 q11 q12 u.1 masd msav misS mpst mchg merr mfai u.2.1 minp minM u.2.2 mcar mcam mahd magn mltr mbeg mcmd mcmM mpl msz mwr mlin mliM)) (va_runV (As := [.int (5 * x2)]) (rest := []) ⟨hx, hb, hml, hown, hts⟩ (c_X11_does l g q0 q1 q2 q3 q4 q5 q6 q7 q8 q9 q10 q11 q12 mm masd msav misS mpst mchg merr mfai mthr minp minM mUp mcar mcam mahd magn mltr mbeg mcmd mcmM mpl msz mwr mlin mliM _ (5 * x2) fu _ hzo8) (cwV 1 hts (gdV mU_1662 mU_1664 mU_62 mU_75 mU_1665) rfl rfl rfl (by decide +kernel) ⟨Nat.le_of_ble_eq_true rfl, Nat.le_of_ble_eq_true rfl⟩) ⟨z_blind _ _ _ _, va_recv hK hP (ci := 7) (q0 := 0) rfl rfl, fun U hU hW => z_preE hP hD hK hB hS hA hU hW⟩ rfl rfl hl.1 rfl (lv_room (Nat.le_of_ble_eq_true rfl)) dX11_run_127 ⟨Nat.le_of_ble_eq_true rfl, Nat.le_of_ble_eq_true rfl⟩) hD hS hA (fun _ => rfl) (fun u H locs hw hP hD hS => ?_)
        subst hw
        have hP : va_P (gD g) zCl (wModel g q0 q1 q2 q3 q4 q5 q6 q7 q8 q9 q10 q11 q12 zo8.1 masd msav misS mpst mchg merr mfai zo8.2.1 minp minM zo8.2.2 mcar mcam mahd magn mltr mbeg mcmd mcmM mpl msz mwr mlin mliM) H := hP
        have hD : va_D A (wModel g q0 q1 q2 q3 q4 q5 q6 q7 q8 q9 q10 q11 q12 zo8.1 masd msav misS mpst mchg merr mfai zo8.2.1 minp minM zo8.2.2 mcar mcam mahd magn mltr mbeg mcmd mcmM mpl msz mwr mlin mliM) := hD
        refine lv_aload_n hx hb dX11_run_130 rfl (lv_at hl 0 rfl) ?_
        refine va_get (D := gD g) (ci := 7) (v := .int zo8.2.1) (C := RX11) (T := TX11) (N := 25) hx hb hts inX11 hown hK hP 0 rfl rfl 8 (by decide) (hts _ mU_1252) (fun _ h9 => h9) rfl dX11_run_131 ?_
        refine lv_if_le (tgt := 174) hx hb dX11_run_134 (by decide) (fun zc9 => ?_) (fun zc9 => ?_)
        · have hF := z_pos hF zc9
          obtain ⟨zv10, ezv10, hF⟩ := z_let hF
          refine lv_iinc (v := zv10) (lv' := [(2, .int zv10), (0, .ref q0)]) hx hb dX11_run_174 hl (k := 1) rfl (by rw [ezv10]; rfl) (by decide) rfl (fun ls hl => ?_)
          refine lv_goto (tgt := 115) hx hb dX11_run_177 (by decide) ?_
          exact ih115 zo8.1 masd mpst mchg merr mfai zo8.2.1 minM zo8.2.2 mcmd mcmM mpl msz mwr zv10 hF _ _ _ (lv_sub hl [1, 0] rfl) hP hD hS
        · have hF := z_neg hF zc9
          refine lv_iconst (v := 0) hx hb dX11_run_137 (by decide) ?_
          refine lv_istore_n (lv' := [(3, .int 0), (0, .ref q0), (2, .int x2)]) hx hb dX11_run_138 rfl hl (by decide) rfl (fun ls hl => ?_)
          exact K139 fu zo8.1 masd mpst mchg merr mfai zo8.2.1 minM zo8.2.2 mcmd mcmM mpl msz mwr x2 0 hF _ _ _ (lv_sub hl [1, 2, 0] rfl) hP hD hS
  have K34 : ∀ (n34 : Nat) (mm : Nat → Int64) (masd : Nat → Int64) (mpst : Nat → Int64) (mchg : Int32) (merr : Int32) (mfai : Int32) (mthr : Int32) (minM : Int32) (mUp : Nat → Int32) (mcmd : Nat → Int32) (mcmM : Int32) (mpl : Int32) (msz : Int32) (mwr : Int32) (x1 : Int32), F_X11_run_34 fu n34 mm masd mpst mchg merr mfai mthr minp minM mUp mltr mbeg mcmd mcmM mpl msz mwr x1 = some o → ∀ (H : Heap) (locs : List Loc) (ls : Array Slot), lv_has ls 4 [(0, .ref q0), (1, .int x1)] → va_P (gD g) zCl (wModel g q0 q1 q2 q3 q4 q5 q6 q7 q8 q9 q10 q11 q12 mm masd msav misS mpst mchg merr mfai mthr minp minM mUp mcar mcam mahd magn mltr mbeg mcmd mcmM mpl msz mwr mlin mliM) H → va_D A (wModel g q0 q1 q2 q3 q4 q5 q6 q7 q8 q9 q10 q11 q12 mm masd msav misS mpst mchg merr mfai mthr minp minM mUp mcar mcam mahd magn mltr mbeg mcmd mcmM mpl msz mwr mlin mliM) → va_S A s.heap H locs → W p l e (headSpec w_X11_run r_X11_run).room s m ([.ref q0] : List Value).toArray below meth c H locs 0 0 (MQ below (q_X11_run g q0 q1 q2 q3 q4 q5 q6 q7 q8 q9 q10 q11 q12 mm masd msav misS mpst mchg merr mfai mthr minp minM mUp mcar mcam mahd magn mltr mbeg mcmd mcmM mpl msz mwr mlin mliM o A) ([.ref q0] : List Value).toArray s 0 0 A) (F0 m 34 ls []) := by
    intro n34
    induction n34 with
    | zero =>
      intro mm masd mpst mchg merr mfai mthr minM mUp mcmd mcmM mpl msz mwr x1 hF
      exact absurd hF (by simp [F_X11_run_34])
    | succ n34 ih34 =>
      have K65 : ∀ (_ : Unit) (mm : Nat → Int64) (masd : Nat → Int64) (mpst : Nat → Int64) (mchg : Int32) (merr : Int32) (mfai : Int32) (mthr : Int32) (minM : Int32) (mUp : Nat → Int32) (mcmd : Nat → Int32) (mcmM : Int32) (mpl : Int32) (msz : Int32) (mwr : Int32) (y0 : Int32), F_X11_run_65 (F_X11_run_34 fu n34) fu mm masd mpst mchg merr mfai mthr minp minM mUp mltr mbeg mcmd mcmM mpl msz mwr y0 = some o → ∀ (H : Heap) (locs : List Loc) (ls : Array Slot), lv_has ls 4 [(0, .ref q0)] → va_P (gD g) zCl (wModel g q0 q1 q2 q3 q4 q5 q6 q7 q8 q9 q10 q11 q12 mm masd msav misS mpst mchg merr mfai mthr minp minM mUp mcar mcam mahd magn mltr mbeg mcmd mcmM mpl msz mwr mlin mliM) H → va_D A (wModel g q0 q1 q2 q3 q4 q5 q6 q7 q8 q9 q10 q11 q12 mm masd msav misS mpst mchg merr mfai mthr minp minM mUp mcar mcam mahd magn mltr mbeg mcmd mcmM mpl msz mwr mlin mliM) → va_S A s.heap H locs → W p l e (headSpec w_X11_run r_X11_run).room s m ([.ref q0] : List Value).toArray below meth c H locs 0 0 (MQ below (q_X11_run g q0 q1 q2 q3 q4 q5 q6 q7 q8 q9 q10 q11 q12 mm masd msav misS mpst mchg merr mfai mthr minp minM mUp mcar mcam mahd magn mltr mbeg mcmd mcmM mpl msz mwr mlin mliM o A) ([.ref q0] : List Value).toArray s 0 0 A) (F0 m 65 ls [.int y0]) := by
        intro _ mm masd mpst mchg merr mfai mthr minM mUp mcmd mcmM mpl msz mwr y0 hF H locs ls hl hP hD hS
        unfold F_X11_run_65 at hF
        refine lv_istore_n (lv' := [(1, .int y0), (0, .ref q0)]) hx hb dX11_run_65 rfl hl (by decide) rfl (fun ls hl => ?_)
        refine lv_iload_n hx hb dX11_run_66 rfl (lv_at hl 0 rfl) ?_
        refine lv_if_eq (tgt := 34) hx hb dX11_run_67 (by decide) (fun zc11 => ?_) (fun zc11 => ?_)
        · have hF := z_pos hF zc11
          exact ih34 mm masd mpst mchg merr mfai mthr minM mUp mcmd mcmM mpl msz mwr y0 hF _ _ _ (lv_sub hl [1, 0] rfl) hP hD hS
        · have hF := z_neg hF zc11
          refine lv_aload_n hx hb dX11_run_70 rfl (lv_at hl 1 rfl) ?_
          refine lv_bipush (v := 59) hx hb dX11_run_71 (by decide) ?_
          obtain ⟨zo12, hzo12, hF⟩ := z_bind hF
          refine z_callvE (fun (u : Int32 × Int32) => (wModel g q0 q1 q2 q3 q4 q5 q6 q7 q8 q9 q10 q11 q12 mm masd msav misS mpst mchg merr mfai mthr minp minM mUp mcar mcam mahd magn mltr mbeg mcmd mcmM u.1 msz u.2 mlin mliM)) (va_runV (As := [.int 59]) (rest := []) ⟨hx, hb, hml, hown, hts⟩ (c_X11_expects l g q0 q1 q2 q3 q4 q5 q6 q7 q8 q9 q10 q11 q12 mm masd msav misS mpst mchg merr mfai mthr minp minM mUp mcar mcam mahd magn mltr mbeg mcmd mcmM mpl msz mwr mlin mliM _ 59 _ hzo12) (cwV 1 hts (gdV mU_1650 mU_1652 mU_59 mU_75 mU_1653) rfl rfl rfl (by decide +kernel) ⟨Nat.le_of_ble_eq_true rfl, Nat.le_of_ble_eq_true rfl⟩) ⟨z_blind _ _ _ _, va_recv hK hP (ci := 7) (q0 := 0) rfl rfl, fun U hU hW => z_preE hP hD hK hB hS hA hU hW⟩ rfl rfl hl.1 rfl (lv_room (Nat.le_of_ble_eq_true rfl)) dX11_run_73 ⟨Nat.le_of_ble_eq_true rfl, Nat.le_of_ble_eq_true rfl⟩) hD hS hA (fun _ => rfl) (fun u H locs hw hP hD hS => ?_)
          subst hw
          have hP : va_P (gD g) zCl (wModel g q0 q1 q2 q3 q4 q5 q6 q7 q8 q9 q10 q11 q12 mm masd msav misS mpst mchg merr mfai mthr minp minM mUp mcar mcam mahd magn mltr mbeg mcmd mcmM zo12.1 msz zo12.2 mlin mliM) H := hP
          have hD : va_D A (wModel g q0 q1 q2 q3 q4 q5 q6 q7 q8 q9 q10 q11 q12 mm masd msav misS mpst mchg merr mfai mthr minp minM mUp mcar mcam mahd magn mltr mbeg mcmd mcmM zo12.1 msz zo12.2 mlin mliM) := hD
          refine lv_aload_n hx hb dX11_run_76 rfl (lv_at hl 1 rfl) ?_
          refine va_get (D := gD g) (ci := 7) (v := .int zo12.2) (C := RX11) (T := TX11) (N := 25) hx hb hts inX11 hown hK hP 0 rfl rfl 22 (by decide) (hts _ mU_1266) (fun _ h9 => h9) rfl dX11_run_77 ?_
          refine lv_if_ne (tgt := 87) hx hb dX11_run_80 (by decide) (fun zc13 => ?_) (fun zc13 => ?_)
          · have hF := z_neg hF zc13
            refine lv_iconst (v := 0) hx hb dX11_run_87 (by decide) ?_
            refine lv_istore_n (lv' := [(1, .int 0), (0, .ref q0)]) hx hb dX11_run_88 rfl hl (by decide) rfl (fun ls hl => ?_)
            refine lv_goto (tgt := 34) hx hb dX11_run_89 (by decide) ?_
            exact ih34 mm masd mpst mchg merr mfai mthr minM mUp mcmd mcmM zo12.1 msz zo12.2 0 hF _ _ _ (lv_sub hl [1, 0] rfl) hP hD hS
          · have hF := z_pos hF zc13
            refine lv_iconst (v := 1) hx hb dX11_run_83 (by decide) ?_
            refine lv_goto (tgt := 88) hx hb dX11_run_84 (by decide) ?_
            refine lv_istore_n (lv' := [(1, .int 1), (0, .ref q0)]) hx hb dX11_run_88 rfl hl (by decide) rfl (fun ls hl => ?_)
            refine lv_goto (tgt := 34) hx hb dX11_run_89 (by decide) ?_
            exact ih34 mm masd mpst mchg merr mfai mthr minM mUp mcmd mcmM zo12.1 msz zo12.2 1 hF _ _ _ (lv_sub hl [1, 0] rfl) hP hD hS
      intro mm masd mpst mchg merr mfai mthr minM mUp mcmd mcmM mpl msz mwr x1 hF H locs ls hl hP hD hS
      unfold F_X11_run_34 at hF
      refine lv_iload_n hx hb dX11_run_34 rfl (lv_at hl 1 rfl) ?_
      refine lv_if_eq (tgt := 92) hx hb dX11_run_35 (by decide) (fun zc14 => ?_) (fun zc14 => ?_)
      · have hF := z_pos hF zc14
        refine lv_aload_n hx hb dX11_run_92 rfl (lv_at hl 0 rfl) ?_
        refine va_get (D := gD g) (ci := 7) (v := .int mwr) (C := RX11) (T := TX11) (N := 25) hx hb hts inX11 hown hK hP 0 rfl rfl 22 (by decide) (hts _ mU_1266) (fun _ h9 => h9) rfl dX11_run_93 ?_
        refine lv_if_eq (tgt := 113) hx hb dX11_run_96 (by decide) (fun zc15 => ?_) (fun zc15 => ?_)
        · have hF := z_pos hF zc15
          refine lv_iconst (v := 0) hx hb dX11_run_113 (by decide) ?_
          refine lv_istore_n (lv' := [(2, .int 0), (0, .ref q0), (1, .int x1)]) hx hb dX11_run_114 rfl hl (by decide) rfl (fun ls hl => ?_)
          exact K115 fu mm masd mpst mchg merr mfai mthr minM mUp mcmd mcmM mpl msz mwr 0 hF _ _ _ (lv_sub hl [1, 0] rfl) hP hD hS
        · have hF := z_neg hF zc15
          refine lv_aload_n hx hb dX11_run_99 rfl (lv_at hl 0 rfl) ?_
          refine lv_aload_n hx hb dX11_run_100 rfl (lv_at hl 0 rfl) ?_
          refine va_get (D := gD g) (ci := 7) (v := .int mpl) (C := RX11) (T := TX11) (N := 25) hx hb hts inX11 hown hK hP 0 rfl rfl 20 (by decide) (hts _ mU_1264) (fun _ h9 => h9) rfl dX11_run_101 ?_
          refine va_put (D := gD g) (ci := 7) (v := .int mpl) (ty := .int) (C := RX11) (T := TX11) (N := 25) hx hb hts inX11 tyX11 tyX11_ok nmX11 hown hK hP hD hS 0 rfl rfl 6 (by decide) (hts _ mU_1250) (fun _ h9 => h9) rfl (by decide +kernel) rfl rfl (Nat.le_of_ble_eq_true rfl) dX11_run_104 (fun H locs hP hD hS => ?_)
          have hP : va_P (gD g) zCl (wModel g q0 q1 q2 q3 q4 q5 q6 q7 q8 q9 q10 q11 q12 mm masd msav misS mpst mchg mpl mfai mthr minp minM mUp mcar mcam mahd magn mltr mbeg mcmd mcmM mpl msz mwr mlin mliM) H := hP
          have hD : va_D A (wModel g q0 q1 q2 q3 q4 q5 q6 q7 q8 q9 q10 q11 q12 mm masd msav misS mpst mchg mpl mfai mthr minp minM mUp mcar mcam mahd magn mltr mbeg mcmd mcmM mpl msz mwr mlin mliM) := hD
          refine lv_aload_n hx hb dX11_run_107 rfl (lv_at hl 0 rfl) ?_
          refine lv_iconst (v := 1) hx hb dX11_run_108 (by decide) ?_
          obtain ⟨zo16, hzo16, hF⟩ := z_bind hF
          refine z_calliE (fun (u : Int32) => (wModel g q0 q1 q2 q3 q4 q5 q6 q7 q8 q9 q10 q11 q12 mm masd msav misS mpst mchg mpl mfai u minp minM mUp mcar mcam mahd magn mltr mbeg mcmd mcmM mpl msz mwr mlin mliM)) (va_runV (As := [.int 1]) (rest := []) ⟨hx, hb, hml, hown, hts⟩ (c_X11_throwing l g q0 q1 q2 q3 q4 q5 q6 q7 q8 q9 q10 q11 q12 mm masd msav misS mpst mchg mpl mfai mthr minp minM mUp mcar mcam mahd magn mltr mbeg mcmd mcmM mpl msz mwr mlin mliM _ 1 _ hzo16) (cwV 1 hts (gdV mU_1352 mU_1354 mU_31 mU_75 mU_1355) rfl rfl rfl (by decide +kernel) ⟨Nat.le_of_ble_eq_true rfl, Nat.le_of_ble_eq_true rfl⟩) ⟨z_blind _ _ _ _, va_recv hK hP (ci := 7) (q0 := 0) rfl rfl, fun U hU hW => z_preE hP hD hK hB hS hA hU hW⟩ rfl rfl hl.1 rfl (lv_room (Nat.le_of_ble_eq_true rfl)) dX11_run_109 ⟨Nat.le_of_ble_eq_true rfl, Nat.le_of_ble_eq_true rfl⟩) hD hS hA (fun _ => rfl) (fun r u H locs hw hP hD hS => ?_)
          obtain ⟨rfl, rfl⟩ := hw
          have hP : va_P (gD g) zCl (wModel g q0 q1 q2 q3 q4 q5 q6 q7 q8 q9 q10 q11 q12 mm masd msav misS mpst mchg mpl mfai zo16.2 minp minM mUp mcar mcam mahd magn mltr mbeg mcmd mcmM mpl msz mwr mlin mliM) H := hP
          have hD : va_D A (wModel g q0 q1 q2 q3 q4 q5 q6 q7 q8 q9 q10 q11 q12 mm masd msav misS mpst mchg mpl mfai zo16.2 minp minM mUp mcar mcam mahd magn mltr mbeg mcmd mcmM mpl msz mwr mlin mliM) := hD
          have ho := (Option.some.inj hF).symm
          exact W.iret (v := zo16.1) hx hb hr (fun t ht hW => ⟨⟨zo16.1, (mm, masd, mpst, mchg, mpl, mfai, zo16.2, minM, mUp, mcmd, mcmM, mpl, msz, mwr), rfl, ⟨by rw [ho], by rw [ho]⟩, z_end ht hP⟩, hS.F ht⟩) hS.2.2 dX11_run_112
      · have hF := z_neg hF zc14
        refine lv_aload_n hx hb dX11_run_38 rfl (lv_at hl 0 rfl) ?_
        obtain ⟨zo17, hzo17, hF⟩ := z_bind hF
        refine z_callvE (fun (u : (Nat → Int32) × Int32 × Int32 × Int32) => (wModel g q0 q1 q2 q3 q4 q5 q6 q7 q8 q9 q10 q11 q12 mm masd msav misS mpst mchg merr mfai mthr minp minM mUp mcar mcam mahd magn mltr mbeg u.1 u.2.1 u.2.2.1 msz u.2.2.2 mlin mliM)) (va_runV (As := []) (rest := []) ⟨hx, hb, hml, hown, hts⟩ (c_X11_readCommand l g q0 q1 q2 q3 q4 q5 q6 q7 q8 q9 q10 q11 q12 mm masd msav misS mpst mchg merr mfai mthr minp minM mUp mcar mcam mahd magn mltr mbeg mcmd mcmM mpl msz mwr mlin mliM _ fu _ hzo17) (cwV 0 hts (gdV mU_1616 mU_1618 mU_51 mU_75 mU_1619) rfl rfl rfl (by decide +kernel) ⟨Nat.le_of_ble_eq_true rfl, Nat.le_of_ble_eq_true rfl⟩) ⟨z_blind _ _ _ _, va_recv hK hP (ci := 7) (q0 := 0) rfl rfl, fun U hU hW => z_preE hP hD hK hB hS hA hU hW⟩ rfl rfl hl.1 rfl (lv_room (Nat.le_of_ble_eq_true rfl)) dX11_run_39 ⟨Nat.le_of_ble_eq_true rfl, Nat.le_of_ble_eq_true rfl⟩) hD hS hA (fun _ => rfl) (fun u H locs hw hP hD hS => ?_)
        subst hw
        have hP : va_P (gD g) zCl (wModel g q0 q1 q2 q3 q4 q5 q6 q7 q8 q9 q10 q11 q12 mm masd msav misS mpst mchg merr mfai mthr minp minM mUp mcar mcam mahd magn mltr mbeg zo17.1 zo17.2.1 zo17.2.2.1 msz zo17.2.2.2 mlin mliM) H := hP
        have hD : va_D A (wModel g q0 q1 q2 q3 q4 q5 q6 q7 q8 q9 q10 q11 q12 mm masd msav misS mpst mchg merr mfai mthr minp minM mUp mcar mcam mahd magn mltr mbeg zo17.1 zo17.2.1 zo17.2.2.1 msz zo17.2.2.2 mlin mliM) := hD
        refine lv_aload_n hx hb dX11_run_42 rfl (lv_at hl 0 rfl) ?_
        refine va_get (D := gD g) (ci := 7) (v := .int zo17.2.2.2) (C := RX11) (T := TX11) (N := 25) hx hb hts inX11 hown hK hP 0 rfl rfl 22 (by decide) (hts _ mU_1266) (fun _ h9 => h9) rfl dX11_run_43 ?_
        refine lv_if_ne (tgt := 64) hx hb dX11_run_46 (by decide) (fun zc18 => ?_) (fun zc18 => ?_)
        · have hF := z_neg hF zc18
          refine lv_iconst (v := 0) hx hb dX11_run_64 (by decide) ?_
          exact K65 () mm masd mpst mchg merr mfai mthr minM mUp zo17.1 zo17.2.1 zo17.2.2.1 msz zo17.2.2.2 0 hF _ _ _ (lv_sub hl [0] rfl) hP hD hS
        · have hF := z_pos hF zc18
          refine lv_aload_n hx hb dX11_run_49 rfl (lv_at hl 0 rfl) ?_
          refine va_get (D := gD g) (ci := 7) (v := .int zo17.2.2.1) (C := RX11) (T := TX11) (N := 25) hx hb hts inX11 hown hK hP 0 rfl rfl 20 (by decide) (hts _ mU_1264) (fun _ h9 => h9) rfl dX11_run_50 ?_
          refine lv_aload_n hx hb dX11_run_53 rfl (lv_at hl 0 rfl) ?_
          refine va_get (D := gD g) (ci := 7) (v := .int msz) (C := RX11) (T := TX11) (N := 25) hx hb hts inX11 hown hK hP 0 rfl rfl 21 (by decide) (hts _ mU_1265) (fun _ h9 => h9) rfl dX11_run_54 ?_
          refine lv_icmp_ge (tgt := 64) hx hb dX11_run_57 (by decide) (fun zc19 => ?_) (fun zc19 => ?_)
          · have hF := z_pos hF zc19
            refine lv_iconst (v := 0) hx hb dX11_run_64 (by decide) ?_
            exact K65 () mm masd mpst mchg merr mfai mthr minM mUp zo17.1 zo17.2.1 zo17.2.2.1 msz zo17.2.2.2 0 hF _ _ _ (lv_sub hl [0] rfl) hP hD hS
          · have hF := z_neg hF zc19
            refine lv_iconst (v := 1) hx hb dX11_run_60 (by decide) ?_
            refine lv_goto (tgt := 65) hx hb dX11_run_61 (by decide) ?_
            exact K65 () mm masd mpst mchg merr mfai mthr minM mUp zo17.1 zo17.2.1 zo17.2.2.1 msz zo17.2.2.2 1 hF _ _ _ (lv_sub hl [0] rfl) hP hD hS
  refine lv_aload_n hx hb dX11_run_0 rfl (lv_at hl 0 rfl) ?_
  obtain ⟨zo20, hzo20, hF⟩ := z_bind hF
  refine z_callvE (fun (u : (Nat → Int64) × Int32) => (wModel g q0 q1 q2 q3 q4 q5 q6 q7 q8 q9 q10 q11 q12 mm u.1 msav misS mpst mchg merr mfai u.2 minp minM mUp mcar mcam mahd magn mltr mbeg mcmd mcmM mpl msz mwr mlin mliM)) (va_runV (As := []) (rest := []) ⟨hx, hb, hml, hown, hts⟩ (c_X11_starts l g q0 q1 q2 q3 q4 q5 q6 q7 q8 q9 q10 q11 q12 mm masd msav misS mpst mchg merr mfai mthr minp minM mUp mcar mcam mahd magn mltr mbeg mcmd mcmM mpl msz mwr mlin mliM _ fu _ hzo20) (cwV 0 hts (gdV mU_1329 mU_1331 mU_29 mU_75 mU_1332) rfl rfl rfl (by decide +kernel) ⟨Nat.le_of_ble_eq_true rfl, Nat.le_of_ble_eq_true rfl⟩) ⟨z_blind _ _ _ _, va_recv hK hP (ci := 7) (q0 := 0) rfl rfl, fun U hU hW => z_preE hP hD hK hB hS hA hU hW⟩ rfl rfl hl.1 rfl (lv_room (Nat.le_of_ble_eq_true rfl)) dX11_run_1 ⟨Nat.le_of_ble_eq_true rfl, Nat.le_of_ble_eq_true rfl⟩) hD hS hA (fun _ => rfl) (fun u H locs hw hP hD hS => ?_)
  subst hw
  have hP : va_P (gD g) zCl (wModel g q0 q1 q2 q3 q4 q5 q6 q7 q8 q9 q10 q11 q12 mm zo20.1 msav misS mpst mchg merr mfai zo20.2 minp minM mUp mcar mcam mahd magn mltr mbeg mcmd mcmM mpl msz mwr mlin mliM) H := hP
  have hD : va_D A (wModel g q0 q1 q2 q3 q4 q5 q6 q7 q8 q9 q10 q11 q12 mm zo20.1 msav misS mpst mchg merr mfai zo20.2 minp minM mUp mcar mcam mahd magn mltr mbeg mcmd mcmM mpl msz mwr mlin mliM) := hD
  refine lv_aload_n hx hb dX11_run_4 rfl (lv_at hl 0 rfl) ?_
  refine lv_aload_n hx hb dX11_run_5 rfl (lv_at hl 0 rfl) ?_
  refine va_get (D := gD g) (ci := 7) (v := .int minM) (C := RX11) (T := TX11) (N := 25) hx hb hts inX11 hown hK hP 0 rfl rfl 10 (by decide) (hts _ mU_1254) (fun _ h9 => h9) rfl dX11_run_6 ?_
  refine va_put (D := gD g) (ci := 7) (v := .int minM) (ty := .int) (C := RX11) (T := TX11) (N := 25) hx hb hts inX11 tyX11 tyX11_ok nmX11 hown hK hP hD hS 0 rfl rfl 21 (by decide) (hts _ mU_1265) (fun _ h9 => h9) rfl (by decide +kernel) rfl rfl (Nat.le_of_ble_eq_true rfl) dX11_run_9 (fun H locs hP hD hS => ?_)
  have hP : va_P (gD g) zCl (wModel g q0 q1 q2 q3 q4 q5 q6 q7 q8 q9 q10 q11 q12 mm zo20.1 msav misS mpst mchg merr mfai zo20.2 minp minM mUp mcar mcam mahd magn mltr mbeg mcmd mcmM mpl minM mwr mlin mliM) H := hP
  have hD : va_D A (wModel g q0 q1 q2 q3 q4 q5 q6 q7 q8 q9 q10 q11 q12 mm zo20.1 msav misS mpst mchg merr mfai zo20.2 minp minM mUp mcar mcam mahd magn mltr mbeg mcmd mcmM mpl minM mwr mlin mliM) := hD
  refine lv_aload_n hx hb dX11_run_12 rfl (lv_at hl 0 rfl) ?_
  refine lv_iconst (v := 0) hx hb dX11_run_13 (by decide) ?_
  refine va_put (D := gD g) (ci := 7) (v := .int 0) (ty := .int) (C := RX11) (T := TX11) (N := 25) hx hb hts inX11 tyX11 tyX11_ok nmX11 hown hK hP hD hS 0 rfl rfl 10 (by decide) (hts _ mU_1254) (fun _ h9 => h9) rfl (by decide +kernel) rfl rfl (Nat.le_of_ble_eq_true rfl) dX11_run_14 (fun H locs hP hD hS => ?_)
  have hP : va_P (gD g) zCl (wModel g q0 q1 q2 q3 q4 q5 q6 q7 q8 q9 q10 q11 q12 mm zo20.1 msav misS mpst mchg merr mfai zo20.2 minp 0 mUp mcar mcam mahd magn mltr mbeg mcmd mcmM mpl minM mwr mlin mliM) H := hP
  have hD : va_D A (wModel g q0 q1 q2 q3 q4 q5 q6 q7 q8 q9 q10 q11 q12 mm zo20.1 msav misS mpst mchg merr mfai zo20.2 minp 0 mUp mcar mcam mahd magn mltr mbeg mcmd mcmM mpl minM mwr mlin mliM) := hD
  refine lv_aload_n hx hb dX11_run_17 rfl (lv_at hl 0 rfl) ?_
  refine lv_iconst (v := 0) hx hb dX11_run_18 (by decide) ?_
  refine va_put (D := gD g) (ci := 7) (v := .int 0) (ty := .int) (C := RX11) (T := TX11) (N := 25) hx hb hts inX11 tyX11 tyX11_ok nmX11 hown hK hP hD hS 0 rfl rfl 20 (by decide) (hts _ mU_1264) (fun _ h9 => h9) rfl (by decide +kernel) rfl rfl (Nat.le_of_ble_eq_true rfl) dX11_run_19 (fun H locs hP hD hS => ?_)
  have hP : va_P (gD g) zCl (wModel g q0 q1 q2 q3 q4 q5 q6 q7 q8 q9 q10 q11 q12 mm zo20.1 msav misS mpst mchg merr mfai zo20.2 minp 0 mUp mcar mcam mahd magn mltr mbeg mcmd mcmM 0 minM mwr mlin mliM) H := hP
  have hD : va_D A (wModel g q0 q1 q2 q3 q4 q5 q6 q7 q8 q9 q10 q11 q12 mm zo20.1 msav misS mpst mchg merr mfai zo20.2 minp 0 mUp mcar mcam mahd magn mltr mbeg mcmd mcmM 0 minM mwr mlin mliM) := hD
  refine lv_aload_n hx hb dX11_run_22 rfl (lv_at hl 0 rfl) ?_
  refine lv_iconst (v := 0) hx hb dX11_run_23 (by decide) ?_
  refine va_put (D := gD g) (ci := 7) (v := .int 0) (ty := .int) (C := RX11) (T := TX11) (N := 25) hx hb hts inX11 tyX11 tyX11_ok nmX11 hown hK hP hD hS 0 rfl rfl 19 (by decide) (hts _ mU_1263) (fun _ h9 => h9) rfl (by decide +kernel) rfl rfl (Nat.le_of_ble_eq_true rfl) dX11_run_24 (fun H locs hP hD hS => ?_)
  have hP : va_P (gD g) zCl (wModel g q0 q1 q2 q3 q4 q5 q6 q7 q8 q9 q10 q11 q12 mm zo20.1 msav misS mpst mchg merr mfai zo20.2 minp 0 mUp mcar mcam mahd magn mltr mbeg mcmd 0 0 minM mwr mlin mliM) H := hP
  have hD : va_D A (wModel g q0 q1 q2 q3 q4 q5 q6 q7 q8 q9 q10 q11 q12 mm zo20.1 msav misS mpst mchg merr mfai zo20.2 minp 0 mUp mcar mcam mahd magn mltr mbeg mcmd 0 0 minM mwr mlin mliM) := hD
  refine lv_aload_n hx hb dX11_run_27 rfl (lv_at hl 0 rfl) ?_
  refine lv_iconst (v := 0) hx hb dX11_run_28 (by decide) ?_
  refine va_put (D := gD g) (ci := 7) (v := .int 0) (ty := .boolean) (C := RX11) (T := TX11) (N := 25) hx hb hts inX11 tyX11 tyX11_ok nmX11 hown hK hP hD hS 0 rfl rfl 22 (by decide) (hts _ mU_1266) (fun _ h9 => h9) rfl (by decide +kernel) rfl rfl (Nat.le_of_ble_eq_true rfl) dX11_run_29 (fun H locs hP hD hS => ?_)
  have hP : va_P (gD g) zCl (wModel g q0 q1 q2 q3 q4 q5 q6 q7 q8 q9 q10 q11 q12 mm zo20.1 msav misS mpst mchg merr mfai zo20.2 minp 0 mUp mcar mcam mahd magn mltr mbeg mcmd 0 0 minM 0 mlin mliM) H := hP
  have hD : va_D A (wModel g q0 q1 q2 q3 q4 q5 q6 q7 q8 q9 q10 q11 q12 mm zo20.1 msav misS mpst mchg merr mfai zo20.2 minp 0 mUp mcar mcam mahd magn mltr mbeg mcmd 0 0 minM 0 mlin mliM) := hD
  refine lv_iconst (v := 1) hx hb dX11_run_32 (by decide) ?_
  refine lv_istore_n (lv' := [(1, .int 1), (0, .ref q0)]) hx hb dX11_run_33 rfl hl (by decide) rfl (fun ls hl => ?_)
  exact K34 fu mm zo20.1 mpst mchg merr mfai zo20.2 0 mUp mcmd 0 0 minM 0 1 hF _ _ _ (lv_sub hl [1, 0] rfl) hP hD hS
abbrev w_X11_errorPosition : List Cond := .code yX11_errorPosition cX11_errorPosition 1 (some .int) :: wU
abbrev r_X11_errorPosition : Room := { frames := 1, cells := 0, slots := 0, locals := 21 }
abbrev q_X11_errorPosition (g : GG) (q0 q1 q2 q3 q4 q5 q6 q7 q8 q9 q10 q11 q12 : Nat) (mm : Nat → Int64) (masd : Nat → Int64) (msav : Nat → Int64) (misS : Int32) (mpst : Nat → Int64) (mchg : Int32) (merr : Int32) (mfai : Int32) (mthr : Int32) (minp : Nat → Int32) (minM : Int32) (mUp : Nat → Int32) (mcar : Nat → Int32) (mcam : Nat → Int32) (mahd : Int32) (magn : Int32) (mltr : Nat → Int32) (mbeg : Nat → Int32) (mcmd : Nat → Int32) (mcmM : Int32) (mpl : Int32) (msz : Int32) (mwr : Int32) (mlin : Nat → Int32) (mliM : Int32) (o : Int32 × Int32) (A : Nat → Prop) := va_Qi (fun (r : Int32) (u : Int32) => o.1 = r ∧ o.2 = u) (fun u t => va_P (gD g) zCl (wModel g q0 q1 q2 q3 q4 q5 q6 q7 q8 q9 q10 q11 q12 mm masd msav misS mpst mchg merr mfai u minp minM mUp mcar mcam mahd magn mltr mbeg mcmd mcmM mpl msz mwr mlin mliM) t.heap) A
set_option maxHeartbeats 4000000 in
set_option maxRecDepth 100000 in
theorem c_X11_errorPosition (l : Launch) (g : GG) (q0 q1 q2 q3 q4 q5 q6 q7 q8 q9 q10 q11 q12 : Nat) (mm : Nat → Int64) (masd : Nat → Int64) (msav : Nat → Int64) (misS : Int32) (mpst : Nat → Int64) (mchg : Int32) (merr : Int32) (mfai : Int32) (mthr : Int32) (minp : Nat → Int32) (minM : Int32) (mUp : Nat → Int32) (mcar : Nat → Int32) (mcam : Nat → Int32) (mahd : Int32) (magn : Int32) (mltr : Nat → Int32) (mbeg : Nat → Int32) (mcmd : Nat → Int32) (mcmM : Int32) (mpl : Int32) (msz : Int32) (mwr : Int32) (mlin : Nat → Int32) (mliM : Int32) (sz : Nat) (o : Int32 × Int32) (hF : F_X11_errorPosition merr mthr = some o) : Met l yX11_errorPosition w_X11_errorPosition r_X11_errorPosition (va_Pc [.ref q0] (zP g (wModel g q0 q1 q2 q3 q4 q5 q6 q7 q8 q9 q10 q11 q12 mm masd msav misS mpst mchg merr mfai mthr minp minM mUp mcar mcam mahd magn mltr mbeg mcmd mcmM mpl msz mwr mlin mliM) sz)) (q_X11_errorPosition g q0 q1 q2 q3 q4 q5 q6 q7 q8 q9 q10 q11 q12 mm masd msav misS mpst mchg merr mfai mthr minp minM mUp mcar mcam mahd magn mltr mbeg mcmd mcmM mpl msz mwr mlin mliM o (va_A (wModel g q0 q1 q2 q3 q4 q5 q6 q7 q8 q9 q10 q11 q12 mm masd msav misS mpst mchg merr mfai mthr minp minM mUp mcar mcam mahd magn mltr mbeg mcmd mcmM mpl msz mwr mlin mliM) sz)) 0 0 (va_A (wModel g q0 q1 q2 q3 q4 q5 q6 q7 q8 q9 q10 q11 q12 mm masd msav misS mpst mchg merr mfai mthr minp minM mUp mcar mcam mahd magn mltr mbeg mcmd mcmM mpl msz mwr mlin mliM) sz) := by
  refine Met.ofW (cc := cX11_errorPosition) (maxL := 1) (ret := (some .int)) (by decide) rfl ?_
  intro p e s m args below meth c s₁ B hml hv
  obtain ⟨rfl, rfl, hP, hK, hD0, hB⟩ := hv
  have hx := B.exec
  have hb := B.bytes
  have hr := B.returns
  have hts : ∀ w ∈ wU, w.before _ s = true := fun w h => atoms_spec (ws := w_X11_errorPosition) B.pre w (List.mem_cons_of_mem _ h)
  have hown : s.vm.findClass RX11 = some m.cls := findClass_of_methodNamed B.named
  have hlocks := B.notSynchronized
  have hD := hD0.self (sz := s.heap.size)
  generalize hAe : va_A (wModel g q0 q1 q2 q3 q4 q5 q6 q7 q8 q9 q10 q11 q12 mm masd msav misS mpst mchg merr mfai mthr minp minM mUp mcar mcam mahd magn mltr mbeg mcmd mcmM mpl msz mwr mlin mliM) s.heap.size = A at hD hB ⊢
  have hA : ∀ q : Nat, s.heap.size ≤ q → A q := fun q h => by rw [← hAe]; exact Or.inr h
  have hS : va_S A s.heap s.heap [] := va_S.rf
  have hl := lv_entry ([.ref q0]) (n := 1) (Nat.le_of_ble_eq_true rfl)
  rw [lg_entry_eq]
  generalize (lg_sl ([.ref q0]) ++ List.replicate (1 - (lg_sl ([.ref q0])).length) Slot.unset).toArray = ls at hl ⊢
  have hl : lv_has ls 1 [(0, .ref q0)] := hl
  unfold F_X11_errorPosition at hF
  refine lv_aload_n hx hb dX11_errorPosition_0 rfl (lv_at hl 0 rfl) ?_
  refine lv_iconst (v := 0) hx hb dX11_errorPosition_1 (by decide) ?_
  refine va_put (D := gD g) (ci := 7) (v := .int 0) (ty := .int) (C := RX11) (T := TX11) (N := 25) hx hb hts inX11 tyX11 tyX11_ok nmX11 hown hK hP hD hS 0 rfl rfl 8 (by decide) (hts _ mU_1252) (fun _ h9 => h9) rfl (by decide +kernel) rfl rfl (Nat.le_of_ble_eq_true rfl) dX11_errorPosition_2 (fun H locs hP hD hS => ?_)
  have hP : va_P (gD g) zCl (wModel g q0 q1 q2 q3 q4 q5 q6 q7 q8 q9 q10 q11 q12 mm masd msav misS mpst mchg merr mfai 0 minp minM mUp mcar mcam mahd magn mltr mbeg mcmd mcmM mpl msz mwr mlin mliM) H := hP
  have hD : va_D A (wModel g q0 q1 q2 q3 q4 q5 q6 q7 q8 q9 q10 q11 q12 mm masd msav misS mpst mchg merr mfai 0 minp minM mUp mcar mcam mahd magn mltr mbeg mcmd mcmM mpl msz mwr mlin mliM) := hD
  refine lv_aload_n hx hb dX11_errorPosition_5 rfl (lv_at hl 0 rfl) ?_
  refine va_get (D := gD g) (ci := 7) (v := .int merr) (C := RX11) (T := TX11) (N := 25) hx hb hts inX11 hown hK hP 0 rfl rfl 6 (by decide) (hts _ mU_1250) (fun _ h9 => h9) rfl dX11_errorPosition_6 ?_
  refine lv_iconst (v := (-1)) hx hb dX11_errorPosition_9 (by decide) ?_
  refine lv_icmp_ne (tgt := 21) hx hb dX11_errorPosition_10 (by decide) (fun zc1 => ?_) (fun zc1 => ?_)
  · have hF := z_neg hF zc1
    refine lv_aload_n hx hb dX11_errorPosition_21 rfl (lv_at hl 0 rfl) ?_
    refine va_get (D := gD g) (ci := 7) (v := .int merr) (C := RX11) (T := TX11) (N := 25) hx hb hts inX11 hown hK hP 0 rfl rfl 6 (by decide) (hts _ mU_1250) (fun _ h9 => h9) rfl dX11_errorPosition_22 ?_
    have ho := (Option.some.inj hF).symm
    exact W.iret (v := merr) hx hb hr (fun t ht hW => ⟨⟨merr, 0, rfl, ⟨by rw [ho], by rw [ho]⟩, z_end ht hP⟩, hS.F ht⟩) hS.2.2 dX11_errorPosition_25
  · have hF := z_pos hF zc1
    refine lv_aload_n hx hb dX11_errorPosition_13 rfl (lv_at hl 0 rfl) ?_
    refine lv_iconst (v := 1) hx hb dX11_errorPosition_14 (by decide) ?_
    obtain ⟨zo2, hzo2, hF⟩ := z_bind hF
    refine z_calliE (fun (u : Int32) => (wModel g q0 q1 q2 q3 q4 q5 q6 q7 q8 q9 q10 q11 q12 mm masd msav misS mpst mchg merr mfai u minp minM mUp mcar mcam mahd magn mltr mbeg mcmd mcmM mpl msz mwr mlin mliM)) (va_runV (As := [.int 1]) (rest := []) ⟨hx, hb, hml, hown, hts⟩ (c_X11_throwing l g q0 q1 q2 q3 q4 q5 q6 q7 q8 q9 q10 q11 q12 mm masd msav misS mpst mchg merr mfai 0 minp minM mUp mcar mcam mahd magn mltr mbeg mcmd mcmM mpl msz mwr mlin mliM _ 1 _ hzo2) (cwV 1 hts (gdV mU_1352 mU_1354 mU_31 mU_75 mU_1355) rfl rfl rfl (by decide +kernel) ⟨Nat.le_of_ble_eq_true rfl, Nat.le_of_ble_eq_true rfl⟩) ⟨z_blind _ _ _ _, va_recv hK hP (ci := 7) (q0 := 0) rfl rfl, fun U hU hW => z_preE hP hD hK hB hS hA hU hW⟩ rfl rfl hl.1 rfl (lv_room (Nat.le_of_ble_eq_true rfl)) dX11_errorPosition_15 ⟨Nat.le_of_ble_eq_true rfl, Nat.le_of_ble_eq_true rfl⟩) hD hS hA (fun _ => rfl) (fun r u H locs hw hP hD hS => ?_)
    obtain ⟨rfl, rfl⟩ := hw
    have hP : va_P (gD g) zCl (wModel g q0 q1 q2 q3 q4 q5 q6 q7 q8 q9 q10 q11 q12 mm masd msav misS mpst mchg merr mfai zo2.2 minp minM mUp mcar mcam mahd magn mltr mbeg mcmd mcmM mpl msz mwr mlin mliM) H := hP
    have hD : va_D A (wModel g q0 q1 q2 q3 q4 q5 q6 q7 q8 q9 q10 q11 q12 mm masd msav misS mpst mchg merr mfai zo2.2 minp minM mUp mcar mcam mahd magn mltr mbeg mcmd mcmM mpl msz mwr mlin mliM) := hD
    refine lv_goto (tgt := 25) hx hb dX11_errorPosition_18 (by decide) ?_
    have ho := (Option.some.inj hF).symm
    exact W.iret (v := zo2.1) hx hb hr (fun t ht hW => ⟨⟨zo2.1, zo2.2, rfl, ⟨by rw [ho], by rw [ho]⟩, z_end ht hP⟩, hS.F ht⟩) hS.2.2 dX11_errorPosition_25
abbrev w_X11_failedCommand : List Cond := .code yX11_failedCommand cX11_failedCommand 1 (some .int) :: wU
abbrev r_X11_failedCommand : Room := { frames := 1, cells := 0, slots := 0, locals := 21 }
abbrev q_X11_failedCommand (g : GG) (q0 q1 q2 q3 q4 q5 q6 q7 q8 q9 q10 q11 q12 : Nat) (mm : Nat → Int64) (masd : Nat → Int64) (msav : Nat → Int64) (misS : Int32) (mpst : Nat → Int64) (mchg : Int32) (merr : Int32) (mfai : Int32) (mthr : Int32) (minp : Nat → Int32) (minM : Int32) (mUp : Nat → Int32) (mcar : Nat → Int32) (mcam : Nat → Int32) (mahd : Int32) (magn : Int32) (mltr : Nat → Int32) (mbeg : Nat → Int32) (mcmd : Nat → Int32) (mcmM : Int32) (mpl : Int32) (msz : Int32) (mwr : Int32) (mlin : Nat → Int32) (mliM : Int32) (o : Int32 × Int32) (A : Nat → Prop) := va_Qi (fun (r : Int32) (u : Int32) => o.1 = r ∧ o.2 = u) (fun u t => va_P (gD g) zCl (wModel g q0 q1 q2 q3 q4 q5 q6 q7 q8 q9 q10 q11 q12 mm masd msav misS mpst mchg merr mfai u minp minM mUp mcar mcam mahd magn mltr mbeg mcmd mcmM mpl msz mwr mlin mliM) t.heap) A
set_option maxHeartbeats 4000000 in
set_option maxRecDepth 100000 in
theorem c_X11_failedCommand (l : Launch) (g : GG) (q0 q1 q2 q3 q4 q5 q6 q7 q8 q9 q10 q11 q12 : Nat) (mm : Nat → Int64) (masd : Nat → Int64) (msav : Nat → Int64) (misS : Int32) (mpst : Nat → Int64) (mchg : Int32) (merr : Int32) (mfai : Int32) (mthr : Int32) (minp : Nat → Int32) (minM : Int32) (mUp : Nat → Int32) (mcar : Nat → Int32) (mcam : Nat → Int32) (mahd : Int32) (magn : Int32) (mltr : Nat → Int32) (mbeg : Nat → Int32) (mcmd : Nat → Int32) (mcmM : Int32) (mpl : Int32) (msz : Int32) (mwr : Int32) (mlin : Nat → Int32) (mliM : Int32) (sz : Nat) (o : Int32 × Int32) (hF : F_X11_failedCommand mfai mthr = some o) : Met l yX11_failedCommand w_X11_failedCommand r_X11_failedCommand (va_Pc [.ref q0] (zP g (wModel g q0 q1 q2 q3 q4 q5 q6 q7 q8 q9 q10 q11 q12 mm masd msav misS mpst mchg merr mfai mthr minp minM mUp mcar mcam mahd magn mltr mbeg mcmd mcmM mpl msz mwr mlin mliM) sz)) (q_X11_failedCommand g q0 q1 q2 q3 q4 q5 q6 q7 q8 q9 q10 q11 q12 mm masd msav misS mpst mchg merr mfai mthr minp minM mUp mcar mcam mahd magn mltr mbeg mcmd mcmM mpl msz mwr mlin mliM o (va_A (wModel g q0 q1 q2 q3 q4 q5 q6 q7 q8 q9 q10 q11 q12 mm masd msav misS mpst mchg merr mfai mthr minp minM mUp mcar mcam mahd magn mltr mbeg mcmd mcmM mpl msz mwr mlin mliM) sz)) 0 0 (va_A (wModel g q0 q1 q2 q3 q4 q5 q6 q7 q8 q9 q10 q11 q12 mm masd msav misS mpst mchg merr mfai mthr minp minM mUp mcar mcam mahd magn mltr mbeg mcmd mcmM mpl msz mwr mlin mliM) sz) := by
  refine Met.ofW (cc := cX11_failedCommand) (maxL := 1) (ret := (some .int)) (by decide) rfl ?_
  intro p e s m args below meth c s₁ B hml hv
  obtain ⟨rfl, rfl, hP, hK, hD0, hB⟩ := hv
  have hx := B.exec
  have hb := B.bytes
  have hr := B.returns
  have hts : ∀ w ∈ wU, w.before _ s = true := fun w h => atoms_spec (ws := w_X11_failedCommand) B.pre w (List.mem_cons_of_mem _ h)
  have hown : s.vm.findClass RX11 = some m.cls := findClass_of_methodNamed B.named
  have hlocks := B.notSynchronized
  have hD := hD0.self (sz := s.heap.size)
  generalize hAe : va_A (wModel g q0 q1 q2 q3 q4 q5 q6 q7 q8 q9 q10 q11 q12 mm masd msav misS mpst mchg merr mfai mthr minp minM mUp mcar mcam mahd magn mltr mbeg mcmd mcmM mpl msz mwr mlin mliM) s.heap.size = A at hD hB ⊢
  have hA : ∀ q : Nat, s.heap.size ≤ q → A q := fun q h => by rw [← hAe]; exact Or.inr h
  have hS : va_S A s.heap s.heap [] := va_S.rf
  have hl := lv_entry ([.ref q0]) (n := 1) (Nat.le_of_ble_eq_true rfl)
  rw [lg_entry_eq]
  generalize (lg_sl ([.ref q0]) ++ List.replicate (1 - (lg_sl ([.ref q0])).length) Slot.unset).toArray = ls at hl ⊢
  have hl : lv_has ls 1 [(0, .ref q0)] := hl
  unfold F_X11_failedCommand at hF
  refine lv_aload_n hx hb dX11_failedCommand_0 rfl (lv_at hl 0 rfl) ?_
  refine lv_iconst (v := 0) hx hb dX11_failedCommand_1 (by decide) ?_
  refine va_put (D := gD g) (ci := 7) (v := .int 0) (ty := .int) (C := RX11) (T := TX11) (N := 25) hx hb hts inX11 tyX11 tyX11_ok nmX11 hown hK hP hD hS 0 rfl rfl 8 (by decide) (hts _ mU_1252) (fun _ h9 => h9) rfl (by decide +kernel) rfl rfl (Nat.le_of_ble_eq_true rfl) dX11_failedCommand_2 (fun H locs hP hD hS => ?_)
  have hP : va_P (gD g) zCl (wModel g q0 q1 q2 q3 q4 q5 q6 q7 q8 q9 q10 q11 q12 mm masd msav misS mpst mchg merr mfai 0 minp minM mUp mcar mcam mahd magn mltr mbeg mcmd mcmM mpl msz mwr mlin mliM) H := hP
  have hD : va_D A (wModel g q0 q1 q2 q3 q4 q5 q6 q7 q8 q9 q10 q11 q12 mm masd msav misS mpst mchg merr mfai 0 minp minM mUp mcar mcam mahd magn mltr mbeg mcmd mcmM mpl msz mwr mlin mliM) := hD
  refine lv_aload_n hx hb dX11_failedCommand_5 rfl (lv_at hl 0 rfl) ?_
  refine va_get (D := gD g) (ci := 7) (v := .int mfai) (C := RX11) (T := TX11) (N := 25) hx hb hts inX11 hown hK hP 0 rfl rfl 7 (by decide) (hts _ mU_1251) (fun _ h9 => h9) rfl dX11_failedCommand_6 ?_
  refine lv_iconst (v := (-1)) hx hb dX11_failedCommand_9 (by decide) ?_
  refine lv_icmp_ne (tgt := 21) hx hb dX11_failedCommand_10 (by decide) (fun zc1 => ?_) (fun zc1 => ?_)
  · have hF := z_neg hF zc1
    refine lv_aload_n hx hb dX11_failedCommand_21 rfl (lv_at hl 0 rfl) ?_
    refine va_get (D := gD g) (ci := 7) (v := .int mfai) (C := RX11) (T := TX11) (N := 25) hx hb hts inX11 hown hK hP 0 rfl rfl 7 (by decide) (hts _ mU_1251) (fun _ h9 => h9) rfl dX11_failedCommand_22 ?_
    have ho := (Option.some.inj hF).symm
    exact W.iret (v := mfai) hx hb hr (fun t ht hW => ⟨⟨mfai, 0, rfl, ⟨by rw [ho], by rw [ho]⟩, z_end ht hP⟩, hS.F ht⟩) hS.2.2 dX11_failedCommand_25
  · have hF := z_pos hF zc1
    refine lv_aload_n hx hb dX11_failedCommand_13 rfl (lv_at hl 0 rfl) ?_
    refine lv_iconst (v := 1) hx hb dX11_failedCommand_14 (by decide) ?_
    obtain ⟨zo2, hzo2, hF⟩ := z_bind hF
    refine z_calliE (fun (u : Int32) => (wModel g q0 q1 q2 q3 q4 q5 q6 q7 q8 q9 q10 q11 q12 mm masd msav misS mpst mchg merr mfai u minp minM mUp mcar mcam mahd magn mltr mbeg mcmd mcmM mpl msz mwr mlin mliM)) (va_runV (As := [.int 1]) (rest := []) ⟨hx, hb, hml, hown, hts⟩ (c_X11_throwing l g q0 q1 q2 q3 q4 q5 q6 q7 q8 q9 q10 q11 q12 mm masd msav misS mpst mchg merr mfai 0 minp minM mUp mcar mcam mahd magn mltr mbeg mcmd mcmM mpl msz mwr mlin mliM _ 1 _ hzo2) (cwV 1 hts (gdV mU_1352 mU_1354 mU_31 mU_75 mU_1355) rfl rfl rfl (by decide +kernel) ⟨Nat.le_of_ble_eq_true rfl, Nat.le_of_ble_eq_true rfl⟩) ⟨z_blind _ _ _ _, va_recv hK hP (ci := 7) (q0 := 0) rfl rfl, fun U hU hW => z_preE hP hD hK hB hS hA hU hW⟩ rfl rfl hl.1 rfl (lv_room (Nat.le_of_ble_eq_true rfl)) dX11_failedCommand_15 ⟨Nat.le_of_ble_eq_true rfl, Nat.le_of_ble_eq_true rfl⟩) hD hS hA (fun _ => rfl) (fun r u H locs hw hP hD hS => ?_)
    obtain ⟨rfl, rfl⟩ := hw
    have hP : va_P (gD g) zCl (wModel g q0 q1 q2 q3 q4 q5 q6 q7 q8 q9 q10 q11 q12 mm masd msav misS mpst mchg merr mfai zo2.2 minp minM mUp mcar mcam mahd magn mltr mbeg mcmd mcmM mpl msz mwr mlin mliM) H := hP
    have hD : va_D A (wModel g q0 q1 q2 q3 q4 q5 q6 q7 q8 q9 q10 q11 q12 mm masd msav misS mpst mchg merr mfai zo2.2 minp minM mUp mcar mcam mahd magn mltr mbeg mcmd mcmM mpl msz mwr mlin mliM) := hD
    refine lv_goto (tgt := 25) hx hb dX11_failedCommand_18 (by decide) ?_
    have ho := (Option.some.inj hF).symm
    exact W.iret (v := zo2.1) hx hb hr (fun t ht hW => ⟨⟨zo2.1, zo2.2, rfl, ⟨by rw [ho], by rw [ho]⟩, z_end ht hP⟩, hS.F ht⟩) hS.2.2 dX11_failedCommand_25
abbrev w_X11_sign : List Cond := .code yX11_sign cX11_sign 2 none :: wU
abbrev r_X11_sign : Room := { frames := 0, cells := 0, slots := 0, locals := 0 }
abbrev q_X11_sign (g : GG) (q0 q1 q2 q3 q4 q5 q6 q7 q8 q9 q10 q11 q12 : Nat) (mm : Nat → Int64) (masd : Nat → Int64) (msav : Nat → Int64) (misS : Int32) (mpst : Nat → Int64) (mchg : Int32) (merr : Int32) (mfai : Int32) (mthr : Int32) (minp : Nat → Int32) (minM : Int32) (mUp : Nat → Int32) (mcar : Nat → Int32) (mcam : Nat → Int32) (mahd : Int32) (magn : Int32) (mltr : Nat → Int32) (mbeg : Nat → Int32) (mcmd : Nat → Int32) (mcmM : Int32) (mpl : Int32) (msz : Int32) (mwr : Int32) (mlin : Nat → Int32) (mliM : Int32) (o : (Nat → Int32) × Int32) (A : Nat → Prop) := va_Qv (fun (u : (Nat → Int32) × Int32) => o = u) (fun u t => va_P (gD g) zCl (wModel g q0 q1 q2 q3 q4 q5 q6 q7 q8 q9 q10 q11 q12 mm masd msav misS mpst mchg merr mfai mthr minp minM mUp mcar mcam mahd magn mltr mbeg mcmd mcmM mpl msz mwr u.1 u.2) t.heap) A
set_option maxHeartbeats 4000000 in
set_option maxRecDepth 100000 in
theorem c_X11_sign (l : Launch) (g : GG) (q0 q1 q2 q3 q4 q5 q6 q7 q8 q9 q10 q11 q12 : Nat) (mm : Nat → Int64) (masd : Nat → Int64) (msav : Nat → Int64) (misS : Int32) (mpst : Nat → Int64) (mchg : Int32) (merr : Int32) (mfai : Int32) (mthr : Int32) (minp : Nat → Int32) (minM : Int32) (mUp : Nat → Int32) (mcar : Nat → Int32) (mcam : Nat → Int32) (mahd : Int32) (magn : Int32) (mltr : Nat → Int32) (mbeg : Nat → Int32) (mcmd : Nat → Int32) (mcmM : Int32) (mpl : Int32) (msz : Int32) (mwr : Int32) (mlin : Nat → Int32) (mliM : Int32) (sz : Nat) (p1 : Int32) (o : (Nat → Int32) × Int32) (hF : F_X11_sign mlin mliM p1 = some o) : Met l yX11_sign w_X11_sign r_X11_sign (va_Pc [.ref q0, .int p1] (zP g (wModel g q0 q1 q2 q3 q4 q5 q6 q7 q8 q9 q10 q11 q12 mm masd msav misS mpst mchg merr mfai mthr minp minM mUp mcar mcam mahd magn mltr mbeg mcmd mcmM mpl msz mwr mlin mliM) sz)) (q_X11_sign g q0 q1 q2 q3 q4 q5 q6 q7 q8 q9 q10 q11 q12 mm masd msav misS mpst mchg merr mfai mthr minp minM mUp mcar mcam mahd magn mltr mbeg mcmd mcmM mpl msz mwr mlin mliM o (va_A (wModel g q0 q1 q2 q3 q4 q5 q6 q7 q8 q9 q10 q11 q12 mm masd msav misS mpst mchg merr mfai mthr minp minM mUp mcar mcam mahd magn mltr mbeg mcmd mcmM mpl msz mwr mlin mliM) sz)) 0 0 (va_A (wModel g q0 q1 q2 q3 q4 q5 q6 q7 q8 q9 q10 q11 q12 mm masd msav misS mpst mchg merr mfai mthr minp minM mUp mcar mcam mahd magn mltr mbeg mcmd mcmM mpl msz mwr mlin mliM) sz) := by
  refine Met.ofW (cc := cX11_sign) (maxL := 2) (ret := none) (by decide) rfl ?_
  intro p e s m args below meth c s₁ B hml hv
  obtain ⟨rfl, rfl, hP, hK, hD0, hB⟩ := hv
  have hx := B.exec
  have hb := B.bytes
  have hr := B.returns
  have hts : ∀ w ∈ wU, w.before _ s = true := fun w h => atoms_spec (ws := w_X11_sign) B.pre w (List.mem_cons_of_mem _ h)
  have hown : s.vm.findClass RX11 = some m.cls := findClass_of_methodNamed B.named
  have hlocks := B.notSynchronized
  have hD := hD0.self (sz := s.heap.size)
  generalize hAe : va_A (wModel g q0 q1 q2 q3 q4 q5 q6 q7 q8 q9 q10 q11 q12 mm masd msav misS mpst mchg merr mfai mthr minp minM mUp mcar mcam mahd magn mltr mbeg mcmd mcmM mpl msz mwr mlin mliM) s.heap.size = A at hD hB ⊢
  have hA : ∀ q : Nat, s.heap.size ≤ q → A q := fun q h => by rw [← hAe]; exact Or.inr h
  have hS : va_S A s.heap s.heap [] := va_S.rf
  have hl := lv_entry ([.ref q0, .int p1]) (n := 2) (Nat.le_of_ble_eq_true rfl)
  rw [lg_entry_eq]
  generalize (lg_sl ([.ref q0, .int p1]) ++ List.replicate (2 - (lg_sl ([.ref q0, .int p1])).length) Slot.unset).toArray = ls at hl ⊢
  have hl : lv_has ls 2 [(0, .ref q0), (1, .int p1)] := hl
  unfold F_X11_sign at hF
  refine lv_aload_n hx hb dX11_sign_0 rfl (lv_at hl 0 rfl) ?_
  refine va_get (D := gD g) (ci := 7) (v := .ref q12) (C := RX11) (T := TX11) (N := 25) hx hb hts inX11 hown hK hP 0 rfl rfl 23 (by decide) (hts _ mU_1267) (fun _ h9 => h9) rfl dX11_sign_1 ?_
  refine lv_aload_n hx hb dX11_sign_4 rfl (lv_at hl 0 rfl) ?_
  refine va_get (D := gD g) (ci := 7) (v := .int mliM) (C := RX11) (T := TX11) (N := 25) hx hb hts inX11 hown hK hP 0 rfl rfl 24 (by decide) (hts _ mU_1268) (fun _ h9 => h9) rfl dX11_sign_5 ?_
  refine lv_iload_n hx hb dX11_sign_8 rfl (lv_at hl 1 rfl) ?_
  obtain ⟨zg1, hF⟩ := z_grd hF
  refine va_iast hx hb hK hP hD hS 12 1 rfl rfl zg1 dX11_sign_9 (fun H locs hP hD hS => ?_)
  have hP : va_P (gD g) zCl (wModel g q0 q1 q2 q3 q4 q5 q6 q7 q8 q9 q10 q11 q12 mm masd msav misS mpst mchg merr mfai mthr minp minM mUp mcar mcam mahd magn mltr mbeg mcmd mcmM mpl msz mwr (upd mlin (Int32.toNatClampNeg mliM) p1) mliM) H := hP
  have hD : va_D A (wModel g q0 q1 q2 q3 q4 q5 q6 q7 q8 q9 q10 q11 q12 mm masd msav misS mpst mchg merr mfai mthr minp minM mUp mcar mcam mahd magn mltr mbeg mcmd mcmM mpl msz mwr (upd mlin (Int32.toNatClampNeg mliM) p1) mliM) := hD
  refine lv_aload_n hx hb dX11_sign_10 rfl (lv_at hl 0 rfl) ?_
  refine lv_dup hx hb dX11_sign_11 rfl ?_
  refine va_get (D := gD g) (ci := 7) (v := .int mliM) (C := RX11) (T := TX11) (N := 25) hx hb hts inX11 hown hK hP 0 rfl rfl 24 (by decide) (hts _ mU_1268) (fun _ h9 => h9) rfl dX11_sign_12 ?_
  refine lv_iconst (v := 1) hx hb dX11_sign_15 (by decide) ?_
  refine lv_iadd hx hb dX11_sign_16 ?_
  refine va_put (D := gD g) (ci := 7) (v := .int (mliM + 1)) (ty := .int) (C := RX11) (T := TX11) (N := 25) hx hb hts inX11 tyX11 tyX11_ok nmX11 hown hK hP hD hS 0 rfl rfl 24 (by decide) (hts _ mU_1268) (fun _ h9 => h9) rfl (by decide +kernel) rfl rfl (Nat.le_of_ble_eq_true rfl) dX11_sign_17 (fun H locs hP hD hS => ?_)
  have hP : va_P (gD g) zCl (wModel g q0 q1 q2 q3 q4 q5 q6 q7 q8 q9 q10 q11 q12 mm masd msav misS mpst mchg merr mfai mthr minp minM mUp mcar mcam mahd magn mltr mbeg mcmd mcmM mpl msz mwr (upd mlin (Int32.toNatClampNeg mliM) p1) (mliM + 1)) H := hP
  have hD : va_D A (wModel g q0 q1 q2 q3 q4 q5 q6 q7 q8 q9 q10 q11 q12 mm masd msav misS mpst mchg merr mfai mthr minp minM mUp mcar mcam mahd magn mltr mbeg mcmd mcmM mpl msz mwr (upd mlin (Int32.toNatClampNeg mliM) p1) (mliM + 1)) := hD
  have ho := (Option.some.inj hF).symm
  exact W.vret hx hb hr (fun t ht hW => ⟨⟨((upd mlin (Int32.toNatClampNeg mliM) p1), (mliM + 1)), rfl, ho, z_end ht hP⟩, hS.F ht⟩) hS.2.2 dX11_sign_20
abbrev w_X11_writesWhole : List Cond := .code yX11_writesWhole cX11_writesWhole 3 none :: wU
abbrev r_X11_writesWhole : Room := { frames := 1, cells := 0, slots := 0, locals := 21 }
abbrev q_X11_writesWhole (g : GG) (q0 q1 q2 q3 q4 q5 q6 q7 q8 q9 q10 q11 q12 : Nat) (mm : Nat → Int64) (masd : Nat → Int64) (msav : Nat → Int64) (misS : Int32) (mpst : Nat → Int64) (mchg : Int32) (merr : Int32) (mfai : Int32) (mthr : Int32) (minp : Nat → Int32) (minM : Int32) (mUp : Nat → Int32) (mcar : Nat → Int32) (mcam : Nat → Int32) (mahd : Int32) (magn : Int32) (mltr : Nat → Int32) (mbeg : Nat → Int32) (mcmd : Nat → Int32) (mcmM : Int32) (mpl : Int32) (msz : Int32) (mwr : Int32) (mlin : Nat → Int32) (mliM : Int32) (o : (Nat → Int32) × Int32) (A : Nat → Prop) := va_Qv (fun (u : (Nat → Int32) × Int32) => o = u) (fun u t => va_P (gD g) zCl (wModel g q0 q1 q2 q3 q4 q5 q6 q7 q8 q9 q10 q11 q12 mm masd msav misS mpst mchg merr mfai mthr minp minM mUp mcar mcam mahd magn mltr mbeg mcmd mcmM mpl msz mwr u.1 u.2) t.heap) A
set_option maxHeartbeats 4000000 in
set_option maxRecDepth 100000 in
theorem c_X11_writesWhole (l : Launch) (g : GG) (q0 q1 q2 q3 q4 q5 q6 q7 q8 q9 q10 q11 q12 : Nat) (mm : Nat → Int64) (masd : Nat → Int64) (msav : Nat → Int64) (misS : Int32) (mpst : Nat → Int64) (mchg : Int32) (merr : Int32) (mfai : Int32) (mthr : Int32) (minp : Nat → Int32) (minM : Int32) (mUp : Nat → Int32) (mcar : Nat → Int32) (mcam : Nat → Int32) (mahd : Int32) (magn : Int32) (mltr : Nat → Int32) (mbeg : Nat → Int32) (mcmd : Nat → Int32) (mcmM : Int32) (mpl : Int32) (msz : Int32) (mwr : Int32) (mlin : Nat → Int32) (mliM : Int32) (sz : Nat) (p1 : Int32) (fu : Nat) (o : (Nat → Int32) × Int32) (hF : F_X11_writesWhole fu mlin mliM p1 = some o) : Met l yX11_writesWhole w_X11_writesWhole r_X11_writesWhole (va_Pc [.ref q0, .int p1] (zP g (wModel g q0 q1 q2 q3 q4 q5 q6 q7 q8 q9 q10 q11 q12 mm masd msav misS mpst mchg merr mfai mthr minp minM mUp mcar mcam mahd magn mltr mbeg mcmd mcmM mpl msz mwr mlin mliM) sz)) (q_X11_writesWhole g q0 q1 q2 q3 q4 q5 q6 q7 q8 q9 q10 q11 q12 mm masd msav misS mpst mchg merr mfai mthr minp minM mUp mcar mcam mahd magn mltr mbeg mcmd mcmM mpl msz mwr mlin mliM o (va_A (wModel g q0 q1 q2 q3 q4 q5 q6 q7 q8 q9 q10 q11 q12 mm masd msav misS mpst mchg merr mfai mthr minp minM mUp mcar mcam mahd magn mltr mbeg mcmd mcmM mpl msz mwr mlin mliM) sz)) 0 0 (va_A (wModel g q0 q1 q2 q3 q4 q5 q6 q7 q8 q9 q10 q11 q12 mm masd msav misS mpst mchg merr mfai mthr minp minM mUp mcar mcam mahd magn mltr mbeg mcmd mcmM mpl msz mwr mlin mliM) sz) := by
  refine Met.ofW (cc := cX11_writesWhole) (maxL := 3) (ret := none) (by decide) rfl ?_
  intro p e s m args below meth c s₁ B hml hv
  obtain ⟨rfl, rfl, hP, hK, hD0, hB⟩ := hv
  have hx := B.exec
  have hb := B.bytes
  have hr := B.returns
  have hts : ∀ w ∈ wU, w.before _ s = true := fun w h => atoms_spec (ws := w_X11_writesWhole) B.pre w (List.mem_cons_of_mem _ h)
  have hown : s.vm.findClass RX11 = some m.cls := findClass_of_methodNamed B.named
  have hlocks := B.notSynchronized
  have hD := hD0.self (sz := s.heap.size)
  generalize hAe : va_A (wModel g q0 q1 q2 q3 q4 q5 q6 q7 q8 q9 q10 q11 q12 mm masd msav misS mpst mchg merr mfai mthr minp minM mUp mcar mcam mahd magn mltr mbeg mcmd mcmM mpl msz mwr mlin mliM) s.heap.size = A at hD hB ⊢
  have hA : ∀ q : Nat, s.heap.size ≤ q → A q := fun q h => by rw [← hAe]; exact Or.inr h
  have hS : va_S A s.heap s.heap [] := va_S.rf
  have hl := lv_entry ([.ref q0, .int p1]) (n := 3) (Nat.le_of_ble_eq_true rfl)
  rw [lg_entry_eq]
  generalize (lg_sl ([.ref q0, .int p1]) ++ List.replicate (3 - (lg_sl ([.ref q0, .int p1])).length) Slot.unset).toArray = ls at hl ⊢
  have hl : lv_has ls 3 [(0, .ref q0), (1, .int p1)] := hl
  unfold F_X11_writesWhole at hF
  have K18 : ∀ (n18 : Nat) (mlin : Nat → Int32) (mliM : Int32) (x2 : Int32), F_X11_writesWhole_18 fu n18 mlin mliM p1 x2 = some o → ∀ (H : Heap) (locs : List Loc) (ls : Array Slot), lv_has ls 3 [(0, .ref q0), (1, .int p1), (2, .int x2)] → va_P (gD g) zCl (wModel g q0 q1 q2 q3 q4 q5 q6 q7 q8 q9 q10 q11 q12 mm masd msav misS mpst mchg merr mfai mthr minp minM mUp mcar mcam mahd magn mltr mbeg mcmd mcmM mpl msz mwr mlin mliM) H → va_D A (wModel g q0 q1 q2 q3 q4 q5 q6 q7 q8 q9 q10 q11 q12 mm masd msav misS mpst mchg merr mfai mthr minp minM mUp mcar mcam mahd magn mltr mbeg mcmd mcmM mpl msz mwr mlin mliM) → va_S A s.heap H locs → W p l e (headSpec w_X11_writesWhole r_X11_writesWhole).room s m ([.ref q0, .int p1] : List Value).toArray below meth c H locs 0 0 (MQ below (q_X11_writesWhole g q0 q1 q2 q3 q4 q5 q6 q7 q8 q9 q10 q11 q12 mm masd msav misS mpst mchg merr mfai mthr minp minM mUp mcar mcam mahd magn mltr mbeg mcmd mcmM mpl msz mwr mlin mliM o A) ([.ref q0, .int p1] : List Value).toArray s 0 0 A) (F0 m 18 ls []) := by
    intro n18
    induction n18 with
    | zero =>
      intro mlin mliM x2 hF
      exact absurd hF (by simp [F_X11_writesWhole_18])
    | succ n18 ih18 =>
      intro mlin mliM x2 hF H locs ls hl hP hD hS
      unfold F_X11_writesWhole_18 at hF
      refine lv_iload_n hx hb dX11_writesWhole_18 rfl (lv_at hl 2 rfl) ?_
      refine lv_if_le (tgt := 43) hx hb dX11_writesWhole_19 (by decide) (fun zc1 => ?_) (fun zc1 => ?_)
      · have hF := z_pos hF zc1
        have ho := (Option.some.inj hF).symm
        exact W.vret hx hb hr (fun t ht hW => ⟨⟨(mlin, mliM), rfl, ho, z_end ht hP⟩, hS.F ht⟩) hS.2.2 dX11_writesWhole_43
      · have hF := z_neg hF zc1
        refine lv_aload_n hx hb dX11_writesWhole_22 rfl (lv_at hl 0 rfl) ?_
        refine lv_bipush (v := 48) hx hb dX11_writesWhole_23 (by decide) ?_
        refine lv_iload_n hx hb dX11_writesWhole_25 rfl (lv_at hl 1 rfl) ?_
        refine lv_iload_n hx hb dX11_writesWhole_26 rfl (lv_at hl 2 rfl) ?_
        obtain ⟨zg2, hF⟩ := z_grd hF
        refine lv_idiv hx hb dX11_writesWhole_27 zg2 ?_
        refine lv_bipush (v := 10) hx hb dX11_writesWhole_28 (by decide) ?_
        refine lv_irem hx hb dX11_writesWhole_30 (by decide) ?_
        refine lv_iadd hx hb dX11_writesWhole_31 ?_
        obtain ⟨zo3, hzo3, hF⟩ := z_bind hF
        refine z_callvE (fun (u : (Nat → Int32) × Int32) => (wModel g q0 q1 q2 q3 q4 q5 q6 q7 q8 q9 q10 q11 q12 mm masd msav misS mpst mchg merr mfai mthr minp minM mUp mcar mcam mahd magn mltr mbeg mcmd mcmM mpl msz mwr u.1 u.2)) (va_runV (As := [.int (48 + ((p1 / x2) - (p1 / x2) / 10 * 10))]) (rest := []) ⟨hx, hb, hml, hown, hts⟩ (c_X11_sign l g q0 q1 q2 q3 q4 q5 q6 q7 q8 q9 q10 q11 q12 mm masd msav misS mpst mchg merr mfai mthr minp minM mUp mcar mcam mahd magn mltr mbeg mcmd mcmM mpl msz mwr mlin mliM _ (48 + ((p1 / x2) - (p1 / x2) / 10 * 10)) _ hzo3) (cwV 1 hts (gdV mU_1682 mU_1684 mU_64 mU_75 mU_1685) rfl rfl rfl (by decide +kernel) ⟨Nat.le_of_ble_eq_true rfl, Nat.le_of_ble_eq_true rfl⟩) ⟨z_blind _ _ _ _, va_recv hK hP (ci := 7) (q0 := 0) rfl rfl, fun U hU hW => z_preE hP hD hK hB hS hA hU hW⟩ rfl rfl hl.1 rfl (lv_room (Nat.le_of_ble_eq_true rfl)) dX11_writesWhole_32 ⟨Nat.le_of_ble_eq_true rfl, Nat.le_of_ble_eq_true rfl⟩) hD hS hA (fun _ => rfl) (fun u H locs hw hP hD hS => ?_)
        subst hw
        have hP : va_P (gD g) zCl (wModel g q0 q1 q2 q3 q4 q5 q6 q7 q8 q9 q10 q11 q12 mm masd msav misS mpst mchg merr mfai mthr minp minM mUp mcar mcam mahd magn mltr mbeg mcmd mcmM mpl msz mwr zo3.1 zo3.2) H := hP
        have hD : va_D A (wModel g q0 q1 q2 q3 q4 q5 q6 q7 q8 q9 q10 q11 q12 mm masd msav misS mpst mchg merr mfai mthr minp minM mUp mcar mcam mahd magn mltr mbeg mcmd mcmM mpl msz mwr zo3.1 zo3.2) := hD
        refine lv_iload_n hx hb dX11_writesWhole_35 rfl (lv_at hl 2 rfl) ?_
        refine lv_bipush (v := 10) hx hb dX11_writesWhole_36 (by decide) ?_
        refine lv_idiv hx hb dX11_writesWhole_38 (by decide) ?_
        obtain ⟨zv4, ezv4, hF⟩ := z_let hF
        refine z_topi ezv4 ?_
        refine lv_istore_n (lv' := [(2, .int zv4), (0, .ref q0), (1, .int p1)]) hx hb dX11_writesWhole_39 rfl hl (by decide) rfl (fun ls hl => ?_)
        refine lv_goto (tgt := 18) hx hb dX11_writesWhole_40 (by decide) ?_
        exact ih18 zo3.1 zo3.2 zv4 hF _ _ _ (lv_sub hl [1, 2, 0] rfl) hP hD hS
  have K2 : ∀ (n2 : Nat) (mlin : Nat → Int32) (mliM : Int32) (x2 : Int32), F_X11_writesWhole_2 fu n2 mlin mliM p1 x2 = some o → ∀ (H : Heap) (locs : List Loc) (ls : Array Slot), lv_has ls 3 [(0, .ref q0), (1, .int p1), (2, .int x2)] → va_P (gD g) zCl (wModel g q0 q1 q2 q3 q4 q5 q6 q7 q8 q9 q10 q11 q12 mm masd msav misS mpst mchg merr mfai mthr minp minM mUp mcar mcam mahd magn mltr mbeg mcmd mcmM mpl msz mwr mlin mliM) H → va_D A (wModel g q0 q1 q2 q3 q4 q5 q6 q7 q8 q9 q10 q11 q12 mm masd msav misS mpst mchg merr mfai mthr minp minM mUp mcar mcam mahd magn mltr mbeg mcmd mcmM mpl msz mwr mlin mliM) → va_S A s.heap H locs → W p l e (headSpec w_X11_writesWhole r_X11_writesWhole).room s m ([.ref q0, .int p1] : List Value).toArray below meth c H locs 0 0 (MQ below (q_X11_writesWhole g q0 q1 q2 q3 q4 q5 q6 q7 q8 q9 q10 q11 q12 mm masd msav misS mpst mchg merr mfai mthr minp minM mUp mcar mcam mahd magn mltr mbeg mcmd mcmM mpl msz mwr mlin mliM o A) ([.ref q0, .int p1] : List Value).toArray s 0 0 A) (F0 m 2 ls []) := by
    intro n2
    induction n2 with
    | zero =>
      intro mlin mliM x2 hF
      exact absurd hF (by simp [F_X11_writesWhole_2])
    | succ n2 ih2 =>
      intro mlin mliM x2 hF H locs ls hl hP hD hS
      unfold F_X11_writesWhole_2 at hF
      refine lv_iload_n hx hb dX11_writesWhole_2 rfl (lv_at hl 1 rfl) ?_
      refine lv_iload_n hx hb dX11_writesWhole_3 rfl (lv_at hl 2 rfl) ?_
      obtain ⟨zg5, hF⟩ := z_grd hF
      refine lv_idiv hx hb dX11_writesWhole_4 zg5 ?_
      refine lv_bipush (v := 9) hx hb dX11_writesWhole_5 (by decide) ?_
      refine lv_icmp_le (tgt := 18) hx hb dX11_writesWhole_7 (by decide) (fun zc6 => ?_) (fun zc6 => ?_)
      · have hF := z_pos hF zc6
        exact K18 fu mlin mliM x2 hF _ _ _ (lv_sub hl [0, 1, 2] rfl) hP hD hS
      · have hF := z_neg hF zc6
        refine lv_iload_n hx hb dX11_writesWhole_10 rfl (lv_at hl 2 rfl) ?_
        refine lv_bipush (v := 10) hx hb dX11_writesWhole_11 (by decide) ?_
        refine lv_imul hx hb dX11_writesWhole_13 ?_
        obtain ⟨zv7, ezv7, hF⟩ := z_let hF
        refine z_topi ezv7 ?_
        refine lv_istore_n (lv' := [(2, .int zv7), (0, .ref q0), (1, .int p1)]) hx hb dX11_writesWhole_14 rfl hl (by decide) rfl (fun ls hl => ?_)
        refine lv_goto (tgt := 2) hx hb dX11_writesWhole_15 (by decide) ?_
        exact ih2 mlin mliM zv7 hF _ _ _ (lv_sub hl [1, 2, 0] rfl) hP hD hS
  refine lv_iconst (v := 1) hx hb dX11_writesWhole_0 (by decide) ?_
  refine lv_istore_n (lv' := [(2, .int 1), (0, .ref q0), (1, .int p1)]) hx hb dX11_writesWhole_1 rfl hl (by decide) rfl (fun ls hl => ?_)
  exact K2 fu mlin mliM 1 hF _ _ _ (lv_sub hl [1, 2, 0] rfl) hP hD hS
abbrev w_X11_writeNumber : List Cond := .code yX11_writeNumber cX11_writeNumber 6 (some .int) :: wU
abbrev r_X11_writeNumber : Room := { frames := 3, cells := 0, slots := 0, locals := 64 }
abbrev q_X11_writeNumber (g : GG) (q0 q1 q2 q3 q4 q5 q6 q7 q8 q9 q10 q11 q12 : Nat) (mm : Nat → Int64) (masd : Nat → Int64) (msav : Nat → Int64) (misS : Int32) (mpst : Nat → Int64) (mchg : Int32) (merr : Int32) (mfai : Int32) (mthr : Int32) (minp : Nat → Int32) (minM : Int32) (mUp : Nat → Int32) (mcar : Nat → Int32) (mcam : Nat → Int32) (mahd : Int32) (magn : Int32) (mltr : Nat → Int32) (mbeg : Nat → Int32) (mcmd : Nat → Int32) (mcmM : Int32) (mpl : Int32) (msz : Int32) (mwr : Int32) (mlin : Nat → Int32) (mliM : Int32) (o : Int32 × Int32 × (Nat → Int32) × Int32) (A : Nat → Prop) := va_Qi (fun (r : Int32) (u : Int32 × (Nat → Int32) × Int32) => o.1 = r ∧ o.2 = u) (fun u t => va_P (gD g) zCl (wModel g q0 q1 q2 q3 q4 q5 q6 q7 q8 q9 q10 q11 q12 mm masd msav misS mpst mchg merr mfai u.1 minp minM mUp mcar mcam mahd magn mltr mbeg mcmd mcmM mpl msz mwr u.2.1 u.2.2) t.heap) A
set_option maxHeartbeats 4000000 in
set_option maxRecDepth 100000 in
theorem c_X11_writeNumber (l : Launch) (g : GG) (q0 q1 q2 q3 q4 q5 q6 q7 q8 q9 q10 q11 q12 : Nat) (mm : Nat → Int64) (masd : Nat → Int64) (msav : Nat → Int64) (misS : Int32) (mpst : Nat → Int64) (mchg : Int32) (merr : Int32) (mfai : Int32) (mthr : Int32) (minp : Nat → Int32) (minM : Int32) (mUp : Nat → Int32) (mcar : Nat → Int32) (mcam : Nat → Int32) (mahd : Int32) (magn : Int32) (mltr : Nat → Int32) (mbeg : Nat → Int32) (mcmd : Nat → Int32) (mcmM : Int32) (mpl : Int32) (msz : Int32) (mwr : Int32) (mlin : Nat → Int32) (mliM : Int32) (sz : Nat) (p1 : Int32) (fu : Nat) (o : Int32 × Int32 × (Nat → Int32) × Int32) (hF : F_X11_writeNumber fu mm mthr mlin mliM p1 = some o) : Met l yX11_writeNumber w_X11_writeNumber r_X11_writeNumber (va_Pc [.ref q0, .int p1] (zP g (wModel g q0 q1 q2 q3 q4 q5 q6 q7 q8 q9 q10 q11 q12 mm masd msav misS mpst mchg merr mfai mthr minp minM mUp mcar mcam mahd magn mltr mbeg mcmd mcmM mpl msz mwr mlin mliM) sz)) (q_X11_writeNumber g q0 q1 q2 q3 q4 q5 q6 q7 q8 q9 q10 q11 q12 mm masd msav misS mpst mchg merr mfai mthr minp minM mUp mcar mcam mahd magn mltr mbeg mcmd mcmM mpl msz mwr mlin mliM o (va_A (wModel g q0 q1 q2 q3 q4 q5 q6 q7 q8 q9 q10 q11 q12 mm masd msav misS mpst mchg merr mfai mthr minp minM mUp mcar mcam mahd magn mltr mbeg mcmd mcmM mpl msz mwr mlin mliM) sz)) 0 0 (va_A (wModel g q0 q1 q2 q3 q4 q5 q6 q7 q8 q9 q10 q11 q12 mm masd msav misS mpst mchg merr mfai mthr minp minM mUp mcar mcam mahd magn mltr mbeg mcmd mcmM mpl msz mwr mlin mliM) sz) := by
  refine Met.ofW (cc := cX11_writeNumber) (maxL := 6) (ret := (some .int)) (by decide) rfl ?_
  intro p e s m args below meth c s₁ B hml hv
  obtain ⟨rfl, rfl, hP, hK, hD0, hB⟩ := hv
  have hx := B.exec
  have hb := B.bytes
  have hr := B.returns
  have hts : ∀ w ∈ wU, w.before _ s = true := fun w h => atoms_spec (ws := w_X11_writeNumber) B.pre w (List.mem_cons_of_mem _ h)
  have hown : s.vm.findClass RX11 = some m.cls := findClass_of_methodNamed B.named
  have hlocks := B.notSynchronized
  have hD := hD0.self (sz := s.heap.size)
  generalize hAe : va_A (wModel g q0 q1 q2 q3 q4 q5 q6 q7 q8 q9 q10 q11 q12 mm masd msav misS mpst mchg merr mfai mthr minp minM mUp mcar mcam mahd magn mltr mbeg mcmd mcmM mpl msz mwr mlin mliM) s.heap.size = A at hD hB ⊢
  have hA : ∀ q : Nat, s.heap.size ≤ q → A q := fun q h => by rw [← hAe]; exact Or.inr h
  have hS : va_S A s.heap s.heap [] := va_S.rf
  have hl := lv_entry ([.ref q0, .int p1]) (n := 6) (Nat.le_of_ble_eq_true rfl)
  rw [lg_entry_eq]
  generalize (lg_sl ([.ref q0, .int p1]) ++ List.replicate (6 - (lg_sl ([.ref q0, .int p1])).length) Slot.unset).toArray = ls at hl ⊢
  have hl : lv_has ls 6 [(0, .ref q0), (1, .int p1)] := hl
  unfold F_X11_writeNumber at hF
  have K75 : ∀ (n75 : Nat) (mthr : Int32) (mlin : Nat → Int32) (mliM : Int32) (x2 : Int64) (x4 : Int32) (x5 : Int32), F_X11_writeNumber_75 fu n75 mm mthr mlin mliM x2 x4 x5 = some o → ∀ (H : Heap) (locs : List Loc) (ls : Array Slot), lv_has ls 6 [(0, .ref q0), (2, .long x2), (4, .int x4), (5, .int x5)] → va_P (gD g) zCl (wModel g q0 q1 q2 q3 q4 q5 q6 q7 q8 q9 q10 q11 q12 mm masd msav misS mpst mchg merr mfai mthr minp minM mUp mcar mcam mahd magn mltr mbeg mcmd mcmM mpl msz mwr mlin mliM) H → va_D A (wModel g q0 q1 q2 q3 q4 q5 q6 q7 q8 q9 q10 q11 q12 mm masd msav misS mpst mchg merr mfai mthr minp minM mUp mcar mcam mahd magn mltr mbeg mcmd mcmM mpl msz mwr mlin mliM) → va_S A s.heap H locs → W p l e (headSpec w_X11_writeNumber r_X11_writeNumber).room s m ([.ref q0, .int p1] : List Value).toArray below meth c H locs 0 0 (MQ below (q_X11_writeNumber g q0 q1 q2 q3 q4 q5 q6 q7 q8 q9 q10 q11 q12 mm masd msav misS mpst mchg merr mfai mthr minp minM mUp mcar mcam mahd magn mltr mbeg mcmd mcmM mpl msz mwr mlin mliM o A) ([.ref q0, .int p1] : List Value).toArray s 0 0 A) (F0 m 75 ls []) := by
    intro n75
    induction n75 with
    | zero =>
      intro mthr mlin mliM x2 x4 x5 hF
      exact absurd hF (by simp [F_X11_writeNumber_75])
    | succ n75 ih75 =>
      intro mthr mlin mliM x2 x4 x5 hF H locs ls hl hP hD hS
      unfold F_X11_writeNumber_75 at hF
      refine lv_iload hx hb dX11_writeNumber_75 (lv_at hl 3 rfl) ?_
      refine lv_i2l (v := (Int32.toInt64 x5)) hx hb dX11_writeNumber_77 rfl ?_
      refine lv_aload_n hx hb dX11_writeNumber_78 rfl (lv_at hl 0 rfl) ?_
      refine va_get (D := gD g) (ci := 7) (v := .ref q1) (C := RX11) (T := TX11) (N := 25) hx hb hts inX11 hown hK hP 0 rfl rfl 0 (by decide) (hts _ mU_1244) (fun _ h9 => h9) rfl dX11_writeNumber_79 ?_
      refine lv_iload hx hb dX11_writeNumber_82 (lv_at hl 2 rfl) ?_
      refine lv_iconst (v := 2) hx hb dX11_writeNumber_84 (by decide) ?_
      refine lv_iadd hx hb dX11_writeNumber_85 ?_
      obtain ⟨zg1, hF⟩ := z_grd hF
      refine va_lald hx hb hK hP 1 2 rfl rfl zg1 dX11_writeNumber_86 ?_
      refine z_lcmp_ge (tgt := 112) hx hb dX11_writeNumber_87 dX11_writeNumber_88 (by decide) (fun zc2 => ?_) (fun zc2 => ?_)
      · have hF := z_neg hF zc2
        refine lv_aload_n hx hb dX11_writeNumber_112 rfl (lv_at hl 0 rfl) ?_
        refine lv_aload_n hx hb dX11_writeNumber_113 rfl (lv_at hl 0 rfl) ?_
        refine va_get (D := gD g) (ci := 7) (v := .ref q1) (C := RX11) (T := TX11) (N := 25) hx hb hts inX11 hown hK hP 0 rfl rfl 0 (by decide) (hts _ mU_1244) (fun _ h9 => h9) rfl dX11_writeNumber_114 ?_
        refine lv_iload hx hb dX11_writeNumber_117 (lv_at hl 2 rfl) ?_
        refine lv_iconst (v := 3) hx hb dX11_writeNumber_119 (by decide) ?_
        refine lv_iadd hx hb dX11_writeNumber_120 ?_
        obtain ⟨zg3, hF⟩ := z_grd hF
        refine va_lald hx hb hK hP 1 2 rfl rfl zg3 dX11_writeNumber_121 ?_
        refine lv_l2i (v := (Int64.toInt32 (mm (Int32.toNatClampNeg (x4 + 3))))) hx hb dX11_writeNumber_122 rfl ?_
        obtain ⟨zo4, hzo4, hF⟩ := z_bind hF
        refine z_callvE (fun (u : (Nat → Int32) × Int32) => (wModel g q0 q1 q2 q3 q4 q5 q6 q7 q8 q9 q10 q11 q12 mm masd msav misS mpst mchg merr mfai mthr minp minM mUp mcar mcam mahd magn mltr mbeg mcmd mcmM mpl msz mwr u.1 u.2)) (va_runV (As := [.int (Int64.toInt32 (mm (Int32.toNatClampNeg (x4 + 3))))]) (rest := []) ⟨hx, hb, hml, hown, hts⟩ (c_X11_sign l g q0 q1 q2 q3 q4 q5 q6 q7 q8 q9 q10 q11 q12 mm masd msav misS mpst mchg merr mfai mthr minp minM mUp mcar mcam mahd magn mltr mbeg mcmd mcmM mpl msz mwr mlin mliM _ (Int64.toInt32 (mm (Int32.toNatClampNeg (x4 + 3)))) _ hzo4) (cwV 1 hts (gdV mU_1682 mU_1684 mU_64 mU_75 mU_1685) rfl rfl rfl (by decide +kernel) ⟨Nat.le_of_ble_eq_true rfl, Nat.le_of_ble_eq_true rfl⟩) ⟨z_blind _ _ _ _, va_recv hK hP (ci := 7) (q0 := 0) rfl rfl, fun U hU hW => z_preE hP hD hK hB hS hA hU hW⟩ rfl rfl hl.1 rfl (lv_room (Nat.le_of_ble_eq_true rfl)) dX11_writeNumber_123 ⟨Nat.le_of_ble_eq_true rfl, Nat.le_of_ble_eq_true rfl⟩) hD hS hA (fun _ => rfl) (fun u H locs hw hP hD hS => ?_)
        subst hw
        have hP : va_P (gD g) zCl (wModel g q0 q1 q2 q3 q4 q5 q6 q7 q8 q9 q10 q11 q12 mm masd msav misS mpst mchg merr mfai mthr minp minM mUp mcar mcam mahd magn mltr mbeg mcmd mcmM mpl msz mwr zo4.1 zo4.2) H := hP
        have hD : va_D A (wModel g q0 q1 q2 q3 q4 q5 q6 q7 q8 q9 q10 q11 q12 mm masd msav misS mpst mchg merr mfai mthr minp minM mUp mcar mcam mahd magn mltr mbeg mcmd mcmM mpl msz mwr zo4.1 zo4.2) := hD
        refine lv_aload_n hx hb dX11_writeNumber_126 rfl (lv_at hl 0 rfl) ?_
        refine va_get (D := gD g) (ci := 7) (v := .int zo4.2) (C := RX11) (T := TX11) (N := 25) hx hb hts inX11 hown hK hP 0 rfl rfl 24 (by decide) (hts _ mU_1268) (fun _ h9 => h9) rfl dX11_writeNumber_127 ?_
        have ho := (Option.some.inj hF).symm
        exact W.iret (v := zo4.2) hx hb hr (fun t ht hW => ⟨⟨zo4.2, (mthr, zo4.1, zo4.2), rfl, ⟨by rw [ho], by rw [ho]⟩, z_end ht hP⟩, hS.F ht⟩) hS.2.2 dX11_writeNumber_130
      · have hF := z_pos hF zc2
        refine lv_aload_n hx hb dX11_writeNumber_91 rfl (lv_at hl 0 rfl) ?_
        refine lv_bipush (v := 48) hx hb dX11_writeNumber_92 (by decide) ?_
        refine lv_lload_n hx hb dX11_writeNumber_94 rfl (lv_at hl 1 rfl) ?_
        refine lv_iconst (v := (-1)) hx hb dX11_writeNumber_95 (by decide) ?_
        refine lv_iload hx hb dX11_writeNumber_96 (lv_at hl 3 rfl) ?_
        refine lv_isub hx hb dX11_writeNumber_98 ?_
        obtain ⟨zo5, hzo5, hF⟩ := z_bind hF
        refine z_calli (fun (_ : Unit) => []) [] (va_runS (As := [.long x2, .int ((-1) - x5)]) (rest := [.int 48, .ref q0]) ⟨hx, hb, hml, hown, hts⟩ (c_X11_digitAt l g _ x2 ((-1) - x5) fu _ hzo5) (va_cwS 2 hts (gdS mU_1495 mU_1496 mU_75 mU_1497) rfl rfl rfl (by decide +kernel) ⟨Nat.le_of_ble_eq_true rfl, Nat.le_of_ble_eq_true rfl⟩) ⟨z_blind _ _ _ _, fun U hU hW => z_pre [] hP hD hK hB hS hA rfl rfl hU hW⟩ rfl rfl hl.1 rfl (lv_room (Nat.le_of_ble_eq_true rfl)) dX11_writeNumber_99 ⟨Nat.le_of_ble_eq_true rfl, Nat.le_of_ble_eq_true rfl⟩) hP hD hS hA rfl (fun _ => rfl) (fun r u H locs hw hP hD hS => ?_)
        subst hw
        have hP : va_P (gD g) zCl (wModel g q0 q1 q2 q3 q4 q5 q6 q7 q8 q9 q10 q11 q12 mm masd msav misS mpst mchg merr mfai mthr minp minM mUp mcar mcam mahd magn mltr mbeg mcmd mcmM mpl msz mwr mlin mliM) H := hP
        have hD : va_D A (wModel g q0 q1 q2 q3 q4 q5 q6 q7 q8 q9 q10 q11 q12 mm masd msav misS mpst mchg merr mfai mthr minp minM mUp mcar mcam mahd magn mltr mbeg mcmd mcmM mpl msz mwr mlin mliM) := hD
        refine lv_iadd hx hb dX11_writeNumber_102 ?_
        obtain ⟨zo6, hzo6, hF⟩ := z_bind hF
        refine z_callvE (fun (u : (Nat → Int32) × Int32) => (wModel g q0 q1 q2 q3 q4 q5 q6 q7 q8 q9 q10 q11 q12 mm masd msav misS mpst mchg merr mfai mthr minp minM mUp mcar mcam mahd magn mltr mbeg mcmd mcmM mpl msz mwr u.1 u.2)) (va_runV (As := [.int (48 + zo5)]) (rest := []) ⟨hx, hb, hml, hown, hts⟩ (c_X11_sign l g q0 q1 q2 q3 q4 q5 q6 q7 q8 q9 q10 q11 q12 mm masd msav misS mpst mchg merr mfai mthr minp minM mUp mcar mcam mahd magn mltr mbeg mcmd mcmM mpl msz mwr mlin mliM _ (48 + zo5) _ hzo6) (cwV 1 hts (gdV mU_1682 mU_1684 mU_64 mU_75 mU_1685) rfl rfl rfl (by decide +kernel) ⟨Nat.le_of_ble_eq_true rfl, Nat.le_of_ble_eq_true rfl⟩) ⟨z_blind _ _ _ _, va_recv hK hP (ci := 7) (q0 := 0) rfl rfl, fun U hU hW => z_preE hP hD hK hB hS hA hU hW⟩ rfl rfl hl.1 rfl (lv_room (Nat.le_of_ble_eq_true rfl)) dX11_writeNumber_103 ⟨Nat.le_of_ble_eq_true rfl, Nat.le_of_ble_eq_true rfl⟩) hD hS hA (fun _ => rfl) (fun u H locs hw hP hD hS => ?_)
        subst hw
        have hP : va_P (gD g) zCl (wModel g q0 q1 q2 q3 q4 q5 q6 q7 q8 q9 q10 q11 q12 mm masd msav misS mpst mchg merr mfai mthr minp minM mUp mcar mcam mahd magn mltr mbeg mcmd mcmM mpl msz mwr zo6.1 zo6.2) H := hP
        have hD : va_D A (wModel g q0 q1 q2 q3 q4 q5 q6 q7 q8 q9 q10 q11 q12 mm masd msav misS mpst mchg merr mfai mthr minp minM mUp mcar mcam mahd magn mltr mbeg mcmd mcmM mpl msz mwr zo6.1 zo6.2) := hD
        obtain ⟨zv7, ezv7, hF⟩ := z_let hF
        refine lv_iinc (v := zv7) (lv' := [(5, .int zv7), (0, .ref q0), (2, .long x2), (4, .int x4)]) hx hb dX11_writeNumber_106 hl (k := 3) rfl (by rw [ezv7]; rfl) (by decide) rfl (fun ls hl => ?_)
        refine lv_goto (tgt := 75) hx hb dX11_writeNumber_109 (by decide) ?_
        exact ih75 mthr zo6.1 zo6.2 x2 x4 zv7 hF _ _ _ (lv_sub hl [1, 2, 3, 0] rfl) hP hD hS
  refine lv_aload_n hx hb dX11_writeNumber_0 rfl (lv_at hl 0 rfl) ?_
  refine lv_iload_n hx hb dX11_writeNumber_1 rfl (lv_at hl 1 rfl) ?_
  refine lv_iconst (v := 1) hx hb dX11_writeNumber_2 (by decide) ?_
  obtain ⟨zo8, hzo8, hF⟩ := z_bind hF
  refine z_calllE (fun (u : Int32) => (wModel g q0 q1 q2 q3 q4 q5 q6 q7 q8 q9 q10 q11 q12 mm masd msav misS mpst mchg merr mfai u minp minM mUp mcar mcam mahd magn mltr mbeg mcmd mcmM mpl msz mwr mlin mliM)) (va_runV (As := [.int p1, .int 1]) (rest := []) ⟨hx, hb, hml, hown, hts⟩ (c_X11_ofNumber l g q0 q1 q2 q3 q4 q5 q6 q7 q8 q9 q10 q11 q12 mm masd msav misS mpst mchg merr mfai mthr minp minM mUp mcar mcam mahd magn mltr mbeg mcmd mcmM mpl msz mwr mlin mliM _ p1 1 fu _ hzo8) (cwV 2 hts (gdV mU_1477 mU_1479 mU_47 mU_75 mU_1480) rfl rfl rfl (by decide +kernel) ⟨Nat.le_of_ble_eq_true rfl, Nat.le_of_ble_eq_true rfl⟩) ⟨z_blind _ _ _ _, va_recv hK hP (ci := 7) (q0 := 0) rfl rfl, fun U hU hW => z_preE hP hD hK hB hS hA hU hW⟩ rfl rfl hl.1 rfl (lv_room (Nat.le_of_ble_eq_true rfl)) dX11_writeNumber_3 ⟨Nat.le_of_ble_eq_true rfl, Nat.le_of_ble_eq_true rfl⟩) hD hS hA (fun _ => rfl) (fun r u H locs hw hP hD hS => ?_)
  obtain ⟨rfl, rfl⟩ := hw
  have hP : va_P (gD g) zCl (wModel g q0 q1 q2 q3 q4 q5 q6 q7 q8 q9 q10 q11 q12 mm masd msav misS mpst mchg merr mfai zo8.2 minp minM mUp mcar mcam mahd magn mltr mbeg mcmd mcmM mpl msz mwr mlin mliM) H := hP
  have hD : va_D A (wModel g q0 q1 q2 q3 q4 q5 q6 q7 q8 q9 q10 q11 q12 mm masd msav misS mpst mchg merr mfai zo8.2 minp minM mUp mcar mcam mahd magn mltr mbeg mcmd mcmM mpl msz mwr mlin mliM) := hD
  refine lv_lstore_n (lv' := [(2, .long zo8.1), (0, .ref q0), (1, .int p1)]) hx hb dX11_writeNumber_6 rfl hl (by decide) rfl (fun ls hl => ?_)
  refine lv_aload_n hx hb dX11_writeNumber_7 rfl (lv_at hl 1 rfl) ?_
  refine va_get (D := gD g) (ci := 7) (v := .int zo8.2) (C := RX11) (T := TX11) (N := 25) hx hb hts inX11 hown hK hP 0 rfl rfl 8 (by decide) (hts _ mU_1252) (fun _ h9 => h9) rfl dX11_writeNumber_8 ?_
  refine lv_if_le (tgt := 16) hx hb dX11_writeNumber_11 (by decide) (fun zc9 => ?_) (fun zc9 => ?_)
  · have hF := z_pos hF zc9
    refine lv_aload_n hx hb dX11_writeNumber_16 rfl (lv_at hl 1 rfl) ?_
    refine lv_iload_n hx hb dX11_writeNumber_17 rfl (lv_at hl 2 rfl) ?_
    obtain ⟨zo10, hzo10, hF⟩ := z_bind hF
    refine z_calliE (fun (_ : Unit) => (wModel g q0 q1 q2 q3 q4 q5 q6 q7 q8 q9 q10 q11 q12 mm masd msav misS mpst mchg merr mfai zo8.2 minp minM mUp mcar mcam mahd magn mltr mbeg mcmd mcmM mpl msz mwr mlin mliM)) (va_runV (As := [.int p1]) (rest := []) ⟨hx, hb, hml, hown, hts⟩ (c_X11_find l g q0 q1 q2 q3 q4 q5 q6 q7 q8 q9 q10 q11 q12 mm masd msav misS mpst mchg merr mfai zo8.2 minp minM mUp mcar mcam mahd magn mltr mbeg mcmd mcmM mpl msz mwr mlin mliM _ p1 fu _ hzo10) (cwV 1 hts (gdV mU_1400 mU_1402 mU_37 mU_75 mU_1403) rfl rfl rfl (by decide +kernel) ⟨Nat.le_of_ble_eq_true rfl, Nat.le_of_ble_eq_true rfl⟩) ⟨z_blind _ _ _ _, va_recv hK hP (ci := 7) (q0 := 0) rfl rfl, fun U hU hW => z_preE hP hD hK hB hS hA hU hW⟩ rfl rfl hl.1 rfl (lv_room (Nat.le_of_ble_eq_true rfl)) dX11_writeNumber_18 ⟨Nat.le_of_ble_eq_true rfl, Nat.le_of_ble_eq_true rfl⟩) hD hS hA (fun _ => rfl) (fun r u H locs hw hP hD hS => ?_)
    subst hw
    have hP : va_P (gD g) zCl (wModel g q0 q1 q2 q3 q4 q5 q6 q7 q8 q9 q10 q11 q12 mm masd msav misS mpst mchg merr mfai zo8.2 minp minM mUp mcar mcam mahd magn mltr mbeg mcmd mcmM mpl msz mwr mlin mliM) H := hP
    have hD : va_D A (wModel g q0 q1 q2 q3 q4 q5 q6 q7 q8 q9 q10 q11 q12 mm masd msav misS mpst mchg merr mfai zo8.2 minp minM mUp mcar mcam mahd magn mltr mbeg mcmd mcmM mpl msz mwr mlin mliM) := hD
    obtain ⟨zo11, hzo11, hF⟩ := z_bind hF
    refine z_calli (fun (_ : Unit) => []) [] (va_runS (As := [.int zo10]) (rest := []) ⟨hx, hb, hml, hown, hts⟩ (c_X11_at l g _ zo10 _ hzo11) (va_cwS 1 hts (gdS mU_1372 mU_1373 mU_75 mU_1374) rfl rfl rfl (by decide +kernel) ⟨Nat.le_of_ble_eq_true rfl, Nat.le_of_ble_eq_true rfl⟩) ⟨z_blind _ _ _ _, fun U hU hW => z_pre [] hP hD hK hB hS hA rfl rfl hU hW⟩ rfl rfl hl.1 rfl (lv_room (Nat.le_of_ble_eq_true rfl)) dX11_writeNumber_21 ⟨Nat.le_of_ble_eq_true rfl, Nat.le_of_ble_eq_true rfl⟩) hP hD hS hA rfl (fun _ => rfl) (fun r u H locs hw hP hD hS => ?_)
    subst hw
    have hP : va_P (gD g) zCl (wModel g q0 q1 q2 q3 q4 q5 q6 q7 q8 q9 q10 q11 q12 mm masd msav misS mpst mchg merr mfai zo8.2 minp minM mUp mcar mcam mahd magn mltr mbeg mcmd mcmM mpl msz mwr mlin mliM) H := hP
    have hD : va_D A (wModel g q0 q1 q2 q3 q4 q5 q6 q7 q8 q9 q10 q11 q12 mm masd msav misS mpst mchg merr mfai zo8.2 minp minM mUp mcar mcam mahd magn mltr mbeg mcmd mcmM mpl msz mwr mlin mliM) := hD
    refine lv_istore (lv' := [(4, .int zo11), (2, .long zo8.1), (0, .ref q0), (1, .int p1)]) hx hb dX11_writeNumber_24 hl (by decide) rfl (fun ls hl => ?_)
    refine lv_aload_n hx hb dX11_writeNumber_26 rfl (lv_at hl 2 rfl) ?_
    refine lv_iconst (v := 0) hx hb dX11_writeNumber_27 (by decide) ?_
    refine va_put (D := gD g) (ci := 7) (v := .int 0) (ty := .int) (C := RX11) (T := TX11) (N := 25) hx hb hts inX11 tyX11 tyX11_ok nmX11 hown hK hP hD hS 0 rfl rfl 24 (by decide) (hts _ mU_1268) (fun _ h9 => h9) rfl (by decide +kernel) rfl rfl (Nat.le_of_ble_eq_true rfl) dX11_writeNumber_28 (fun H locs hP hD hS => ?_)
    have hP : va_P (gD g) zCl (wModel g q0 q1 q2 q3 q4 q5 q6 q7 q8 q9 q10 q11 q12 mm masd msav misS mpst mchg merr mfai zo8.2 minp minM mUp mcar mcam mahd magn mltr mbeg mcmd mcmM mpl msz mwr mlin 0) H := hP
    have hD : va_D A (wModel g q0 q1 q2 q3 q4 q5 q6 q7 q8 q9 q10 q11 q12 mm masd msav misS mpst mchg merr mfai zo8.2 minp minM mUp mcar mcam mahd magn mltr mbeg mcmd mcmM mpl msz mwr mlin 0) := hD
    refine lv_aload_n hx hb dX11_writeNumber_31 rfl (lv_at hl 2 rfl) ?_
    refine lv_iload_n hx hb dX11_writeNumber_32 rfl (lv_at hl 3 rfl) ?_
    obtain ⟨zo12, hzo12, hF⟩ := z_bind hF
    refine z_callvE (fun (u : (Nat → Int32) × Int32) => (wModel g q0 q1 q2 q3 q4 q5 q6 q7 q8 q9 q10 q11 q12 mm masd msav misS mpst mchg merr mfai zo8.2 minp minM mUp mcar mcam mahd magn mltr mbeg mcmd mcmM mpl msz mwr u.1 u.2)) (va_runV (As := [.int p1]) (rest := []) ⟨hx, hb, hml, hown, hts⟩ (c_X11_writesWhole l g q0 q1 q2 q3 q4 q5 q6 q7 q8 q9 q10 q11 q12 mm masd msav misS mpst mchg merr mfai zo8.2 minp minM mUp mcar mcam mahd magn mltr mbeg mcmd mcmM mpl msz mwr mlin 0 _ p1 fu _ hzo12) (cwV 1 hts (gdV mU_1678 mU_1680 mU_63 mU_75 mU_1681) rfl rfl rfl (by decide +kernel) ⟨Nat.le_of_ble_eq_true rfl, Nat.le_of_ble_eq_true rfl⟩) ⟨z_blind _ _ _ _, va_recv hK hP (ci := 7) (q0 := 0) rfl rfl, fun U hU hW => z_preE hP hD hK hB hS hA hU hW⟩ rfl rfl hl.1 rfl (lv_room (Nat.le_of_ble_eq_true rfl)) dX11_writeNumber_33 ⟨Nat.le_of_ble_eq_true rfl, Nat.le_of_ble_eq_true rfl⟩) hD hS hA (fun _ => rfl) (fun u H locs hw hP hD hS => ?_)
    subst hw
    have hP : va_P (gD g) zCl (wModel g q0 q1 q2 q3 q4 q5 q6 q7 q8 q9 q10 q11 q12 mm masd msav misS mpst mchg merr mfai zo8.2 minp minM mUp mcar mcam mahd magn mltr mbeg mcmd mcmM mpl msz mwr zo12.1 zo12.2) H := hP
    have hD : va_D A (wModel g q0 q1 q2 q3 q4 q5 q6 q7 q8 q9 q10 q11 q12 mm masd msav misS mpst mchg merr mfai zo8.2 minp minM mUp mcar mcam mahd magn mltr mbeg mcmd mcmM mpl msz mwr zo12.1 zo12.2) := hD
    refine lv_aload_n hx hb dX11_writeNumber_36 rfl (lv_at hl 2 rfl) ?_
    refine lv_bipush (v := 58) hx hb dX11_writeNumber_37 (by decide) ?_
    obtain ⟨zo13, hzo13, hF⟩ := z_bind hF
    refine z_callvE (fun (u : (Nat → Int32) × Int32) => (wModel g q0 q1 q2 q3 q4 q5 q6 q7 q8 q9 q10 q11 q12 mm masd msav misS mpst mchg merr mfai zo8.2 minp minM mUp mcar mcam mahd magn mltr mbeg mcmd mcmM mpl msz mwr u.1 u.2)) (va_runV (As := [.int 58]) (rest := []) ⟨hx, hb, hml, hown, hts⟩ (c_X11_sign l g q0 q1 q2 q3 q4 q5 q6 q7 q8 q9 q10 q11 q12 mm masd msav misS mpst mchg merr mfai zo8.2 minp minM mUp mcar mcam mahd magn mltr mbeg mcmd mcmM mpl msz mwr zo12.1 zo12.2 _ 58 _ hzo13) (cwV 1 hts (gdV mU_1682 mU_1684 mU_64 mU_75 mU_1685) rfl rfl rfl (by decide +kernel) ⟨Nat.le_of_ble_eq_true rfl, Nat.le_of_ble_eq_true rfl⟩) ⟨z_blind _ _ _ _, va_recv hK hP (ci := 7) (q0 := 0) rfl rfl, fun U hU hW => z_preE hP hD hK hB hS hA hU hW⟩ rfl rfl hl.1 rfl (lv_room (Nat.le_of_ble_eq_true rfl)) dX11_writeNumber_39 ⟨Nat.le_of_ble_eq_true rfl, Nat.le_of_ble_eq_true rfl⟩) hD hS hA (fun _ => rfl) (fun u H locs hw hP hD hS => ?_)
    subst hw
    have hP : va_P (gD g) zCl (wModel g q0 q1 q2 q3 q4 q5 q6 q7 q8 q9 q10 q11 q12 mm masd msav misS mpst mchg merr mfai zo8.2 minp minM mUp mcar mcam mahd magn mltr mbeg mcmd mcmM mpl msz mwr zo13.1 zo13.2) H := hP
    have hD : va_D A (wModel g q0 q1 q2 q3 q4 q5 q6 q7 q8 q9 q10 q11 q12 mm masd msav misS mpst mchg merr mfai zo8.2 minp minM mUp mcar mcam mahd magn mltr mbeg mcmd mcmM mpl msz mwr zo13.1 zo13.2) := hD
    refine lv_aload_n hx hb dX11_writeNumber_42 rfl (lv_at hl 2 rfl) ?_
    refine lv_lload_n hx hb dX11_writeNumber_43 rfl (lv_at hl 1 rfl) ?_
    refine lv_ldc2 (v := 10000) hx hb hown (hts _ mU_1363) dX11_writeNumber_44 ?_
    refine lv_ldiv hx hb dX11_writeNumber_47 (by decide) ?_
    refine lv_l2i (v := (Int64.toInt32 (zo8.1 / 10000))) hx hb dX11_writeNumber_48 rfl ?_
    obtain ⟨zo14, hzo14, hF⟩ := z_bind hF
    refine z_callvE (fun (u : (Nat → Int32) × Int32) => (wModel g q0 q1 q2 q3 q4 q5 q6 q7 q8 q9 q10 q11 q12 mm masd msav misS mpst mchg merr mfai zo8.2 minp minM mUp mcar mcam mahd magn mltr mbeg mcmd mcmM mpl msz mwr u.1 u.2)) (va_runV (As := [.int (Int64.toInt32 (zo8.1 / 10000))]) (rest := []) ⟨hx, hb, hml, hown, hts⟩ (c_X11_writesWhole l g q0 q1 q2 q3 q4 q5 q6 q7 q8 q9 q10 q11 q12 mm masd msav misS mpst mchg merr mfai zo8.2 minp minM mUp mcar mcam mahd magn mltr mbeg mcmd mcmM mpl msz mwr zo13.1 zo13.2 _ (Int64.toInt32 (zo8.1 / 10000)) fu _ hzo14) (cwV 1 hts (gdV mU_1678 mU_1680 mU_63 mU_75 mU_1681) rfl rfl rfl (by decide +kernel) ⟨Nat.le_of_ble_eq_true rfl, Nat.le_of_ble_eq_true rfl⟩) ⟨z_blind _ _ _ _, va_recv hK hP (ci := 7) (q0 := 0) rfl rfl, fun U hU hW => z_preE hP hD hK hB hS hA hU hW⟩ rfl rfl hl.1 rfl (lv_room (Nat.le_of_ble_eq_true rfl)) dX11_writeNumber_49 ⟨Nat.le_of_ble_eq_true rfl, Nat.le_of_ble_eq_true rfl⟩) hD hS hA (fun _ => rfl) (fun u H locs hw hP hD hS => ?_)
    subst hw
    have hP : va_P (gD g) zCl (wModel g q0 q1 q2 q3 q4 q5 q6 q7 q8 q9 q10 q11 q12 mm masd msav misS mpst mchg merr mfai zo8.2 minp minM mUp mcar mcam mahd magn mltr mbeg mcmd mcmM mpl msz mwr zo14.1 zo14.2) H := hP
    have hD : va_D A (wModel g q0 q1 q2 q3 q4 q5 q6 q7 q8 q9 q10 q11 q12 mm masd msav misS mpst mchg merr mfai zo8.2 minp minM mUp mcar mcam mahd magn mltr mbeg mcmd mcmM mpl msz mwr zo14.1 zo14.2) := hD
    refine lv_aload_n hx hb dX11_writeNumber_52 rfl (lv_at hl 2 rfl) ?_
    refine va_get (D := gD g) (ci := 7) (v := .ref q1) (C := RX11) (T := TX11) (N := 25) hx hb hts inX11 hown hK hP 0 rfl rfl 0 (by decide) (hts _ mU_1244) (fun _ h9 => h9) rfl dX11_writeNumber_53 ?_
    refine lv_iload hx hb dX11_writeNumber_56 (lv_at hl 0 rfl) ?_
    refine lv_iconst (v := 2) hx hb dX11_writeNumber_58 (by decide) ?_
    refine lv_iadd hx hb dX11_writeNumber_59 ?_
    obtain ⟨zg15, hF⟩ := z_grd hF
    refine va_lald hx hb hK hP 1 2 rfl rfl zg15 dX11_writeNumber_60 ?_
    refine lv_lconst (v := 0) hx hb dX11_writeNumber_61 (by decide) ?_
    refine z_lcmp_le (tgt := 72) hx hb dX11_writeNumber_62 dX11_writeNumber_63 (by decide) (fun zc16 => ?_) (fun zc16 => ?_)
    · have hF := z_neg hF zc16
      refine lv_iconst (v := 0) hx hb dX11_writeNumber_72 (by decide) ?_
      refine lv_istore (lv' := [(5, .int 0), (4, .int zo11), (2, .long zo8.1), (0, .ref q0), (1, .int p1)]) hx hb dX11_writeNumber_73 hl (by decide) rfl (fun ls hl => ?_)
      exact K75 fu zo8.2 zo14.1 zo14.2 zo8.1 zo11 0 hF _ _ _ (lv_sub hl [3, 2, 1, 0] rfl) hP hD hS
    · have hF := z_pos hF zc16
      refine lv_aload_n hx hb dX11_writeNumber_66 rfl (lv_at hl 2 rfl) ?_
      refine lv_bipush (v := 46) hx hb dX11_writeNumber_67 (by decide) ?_
      obtain ⟨zo17, hzo17, hF⟩ := z_bind hF
      refine z_callvE (fun (u : (Nat → Int32) × Int32) => (wModel g q0 q1 q2 q3 q4 q5 q6 q7 q8 q9 q10 q11 q12 mm masd msav misS mpst mchg merr mfai zo8.2 minp minM mUp mcar mcam mahd magn mltr mbeg mcmd mcmM mpl msz mwr u.1 u.2)) (va_runV (As := [.int 46]) (rest := []) ⟨hx, hb, hml, hown, hts⟩ (c_X11_sign l g q0 q1 q2 q3 q4 q5 q6 q7 q8 q9 q10 q11 q12 mm masd msav misS mpst mchg merr mfai zo8.2 minp minM mUp mcar mcam mahd magn mltr mbeg mcmd mcmM mpl msz mwr zo14.1 zo14.2 _ 46 _ hzo17) (cwV 1 hts (gdV mU_1682 mU_1684 mU_64 mU_75 mU_1685) rfl rfl rfl (by decide +kernel) ⟨Nat.le_of_ble_eq_true rfl, Nat.le_of_ble_eq_true rfl⟩) ⟨z_blind _ _ _ _, va_recv hK hP (ci := 7) (q0 := 0) rfl rfl, fun U hU hW => z_preE hP hD hK hB hS hA hU hW⟩ rfl rfl hl.1 rfl (lv_room (Nat.le_of_ble_eq_true rfl)) dX11_writeNumber_69 ⟨Nat.le_of_ble_eq_true rfl, Nat.le_of_ble_eq_true rfl⟩) hD hS hA (fun _ => rfl) (fun u H locs hw hP hD hS => ?_)
      subst hw
      have hP : va_P (gD g) zCl (wModel g q0 q1 q2 q3 q4 q5 q6 q7 q8 q9 q10 q11 q12 mm masd msav misS mpst mchg merr mfai zo8.2 minp minM mUp mcar mcam mahd magn mltr mbeg mcmd mcmM mpl msz mwr zo17.1 zo17.2) H := hP
      have hD : va_D A (wModel g q0 q1 q2 q3 q4 q5 q6 q7 q8 q9 q10 q11 q12 mm masd msav misS mpst mchg merr mfai zo8.2 minp minM mUp mcar mcam mahd magn mltr mbeg mcmd mcmM mpl msz mwr zo17.1 zo17.2) := hD
      refine lv_iconst (v := 0) hx hb dX11_writeNumber_72 (by decide) ?_
      refine lv_istore (lv' := [(5, .int 0), (4, .int zo11), (2, .long zo8.1), (0, .ref q0), (1, .int p1)]) hx hb dX11_writeNumber_73 hl (by decide) rfl (fun ls hl => ?_)
      exact K75 fu zo8.2 zo17.1 zo17.2 zo8.1 zo11 0 hF _ _ _ (lv_sub hl [3, 2, 1, 0] rfl) hP hD hS
  · have hF := z_neg hF zc9
    refine lv_iconst (v := (-1)) hx hb dX11_writeNumber_14 (by decide) ?_
    have ho := (Option.some.inj hF).symm
    exact W.iret (v := (-1)) hx hb hr (fun t ht hW => ⟨⟨(-1), (zo8.2, mlin, mliM), rfl, ⟨by rw [ho], by rw [ho]⟩, z_end ht hP⟩, hS.F ht⟩) hS.2.2 dX11_writeNumber_15
abbrev w_X11_writeQuotient : List Cond := .code yX11_writeQuotient cX11_writeQuotient 4 (some .int) :: wU
abbrev r_X11_writeQuotient : Room := { frames := 2, cells := 0, slots := 0, locals := 46 }
abbrev q_X11_writeQuotient (g : GG) (q0 q1 q2 q3 q4 q5 q6 q7 q8 q9 q10 q11 q12 : Nat) (mm : Nat → Int64) (masd : Nat → Int64) (msav : Nat → Int64) (misS : Int32) (mpst : Nat → Int64) (mchg : Int32) (merr : Int32) (mfai : Int32) (mthr : Int32) (minp : Nat → Int32) (minM : Int32) (mUp : Nat → Int32) (mcar : Nat → Int32) (mcam : Nat → Int32) (mahd : Int32) (magn : Int32) (mltr : Nat → Int32) (mbeg : Nat → Int32) (mcmd : Nat → Int32) (mcmM : Int32) (mpl : Int32) (msz : Int32) (mwr : Int32) (mlin : Nat → Int32) (mliM : Int32) (o : Int32 × Int32 × (Nat → Int32) × Int32 × Int32 × (Nat → Int32) × Int32) (A : Nat → Prop) := va_Qi (fun (r : Int32) (u : Int32 × (Nat → Int32) × Int32 × Int32 × (Nat → Int32) × Int32) => o.1 = r ∧ o.2 = u) (fun u t => va_P (gD g) zCl (wModel g q0 q1 q2 q3 q4 q5 q6 q7 q8 q9 q10 q11 q12 mm masd msav misS mpst mchg merr mfai u.1 minp minM mUp mcar u.2.1 u.2.2.1 u.2.2.2.1 mltr mbeg mcmd mcmM mpl msz mwr u.2.2.2.2.1 u.2.2.2.2.2) t.heap) A
set_option maxHeartbeats 4000000 in
set_option maxRecDepth 100000 in
theorem c_X11_writeQuotient (l : Launch) (g : GG) (q0 q1 q2 q3 q4 q5 q6 q7 q8 q9 q10 q11 q12 : Nat) (mm : Nat → Int64) (masd : Nat → Int64) (msav : Nat → Int64) (misS : Int32) (mpst : Nat → Int64) (mchg : Int32) (merr : Int32) (mfai : Int32) (mthr : Int32) (minp : Nat → Int32) (minM : Int32) (mUp : Nat → Int32) (mcar : Nat → Int32) (mcam : Nat → Int32) (mahd : Int32) (magn : Int32) (mltr : Nat → Int32) (mbeg : Nat → Int32) (mcmd : Nat → Int32) (mcmM : Int32) (mpl : Int32) (msz : Int32) (mwr : Int32) (mlin : Nat → Int32) (mliM : Int32) (sz : Nat) (p1 : Int32) (p2 : Int32) (fu : Nat) (o : Int32 × Int32 × (Nat → Int32) × Int32 × Int32 × (Nat → Int32) × Int32) (hF : F_X11_writeQuotient fu mthr mcam mahd magn mlin mliM p1 p2 = some o) : Met l yX11_writeQuotient w_X11_writeQuotient r_X11_writeQuotient (va_Pc [.ref q0, .int p1, .int p2] (zP g (wModel g q0 q1 q2 q3 q4 q5 q6 q7 q8 q9 q10 q11 q12 mm masd msav misS mpst mchg merr mfai mthr minp minM mUp mcar mcam mahd magn mltr mbeg mcmd mcmM mpl msz mwr mlin mliM) sz)) (q_X11_writeQuotient g q0 q1 q2 q3 q4 q5 q6 q7 q8 q9 q10 q11 q12 mm masd msav misS mpst mchg merr mfai mthr minp minM mUp mcar mcam mahd magn mltr mbeg mcmd mcmM mpl msz mwr mlin mliM o (va_A (wModel g q0 q1 q2 q3 q4 q5 q6 q7 q8 q9 q10 q11 q12 mm masd msav misS mpst mchg merr mfai mthr minp minM mUp mcar mcam mahd magn mltr mbeg mcmd mcmM mpl msz mwr mlin mliM) sz)) 0 0 (va_A (wModel g q0 q1 q2 q3 q4 q5 q6 q7 q8 q9 q10 q11 q12 mm masd msav misS mpst mchg merr mfai mthr minp minM mUp mcar mcam mahd magn mltr mbeg mcmd mcmM mpl msz mwr mlin mliM) sz) := by
  refine Met.ofW (cc := cX11_writeQuotient) (maxL := 4) (ret := (some .int)) (by decide) rfl ?_
  intro p e s m args below meth c s₁ B hml hv
  obtain ⟨rfl, rfl, hP, hK, hD0, hB⟩ := hv
  have hx := B.exec
  have hb := B.bytes
  have hr := B.returns
  have hts : ∀ w ∈ wU, w.before _ s = true := fun w h => atoms_spec (ws := w_X11_writeQuotient) B.pre w (List.mem_cons_of_mem _ h)
  have hown : s.vm.findClass RX11 = some m.cls := findClass_of_methodNamed B.named
  have hlocks := B.notSynchronized
  have hD := hD0.self (sz := s.heap.size)
  generalize hAe : va_A (wModel g q0 q1 q2 q3 q4 q5 q6 q7 q8 q9 q10 q11 q12 mm masd msav misS mpst mchg merr mfai mthr minp minM mUp mcar mcam mahd magn mltr mbeg mcmd mcmM mpl msz mwr mlin mliM) s.heap.size = A at hD hB ⊢
  have hA : ∀ q : Nat, s.heap.size ≤ q → A q := fun q h => by rw [← hAe]; exact Or.inr h
  have hS : va_S A s.heap s.heap [] := va_S.rf
  have hl := lv_entry ([.ref q0, .int p1, .int p2]) (n := 4) (Nat.le_of_ble_eq_true rfl)
  rw [lg_entry_eq]
  generalize (lg_sl ([.ref q0, .int p1, .int p2]) ++ List.replicate (4 - (lg_sl ([.ref q0, .int p1, .int p2])).length) Slot.unset).toArray = ls at hl ⊢
  have hl : lv_has ls 4 [(0, .ref q0), (1, .int p1), (2, .int p2)] := hl
  unfold F_X11_writeQuotient at hF
  have K45 : ∀ (n45 : Nat) (mthr : Int32) (mcam : Nat → Int32) (mahd : Int32) (magn : Int32) (mlin : Nat → Int32) (mliM : Int32) (x3 : Int32), F_X11_writeQuotient_45 fu n45 mthr mcam mahd magn mlin mliM p1 p2 x3 = some o → ∀ (H : Heap) (locs : List Loc) (ls : Array Slot), lv_has ls 4 [(0, .ref q0), (1, .int p1), (2, .int p2), (3, .int x3)] → va_P (gD g) zCl (wModel g q0 q1 q2 q3 q4 q5 q6 q7 q8 q9 q10 q11 q12 mm masd msav misS mpst mchg merr mfai mthr minp minM mUp mcar mcam mahd magn mltr mbeg mcmd mcmM mpl msz mwr mlin mliM) H → va_D A (wModel g q0 q1 q2 q3 q4 q5 q6 q7 q8 q9 q10 q11 q12 mm masd msav misS mpst mchg merr mfai mthr minp minM mUp mcar mcam mahd magn mltr mbeg mcmd mcmM mpl msz mwr mlin mliM) → va_S A s.heap H locs → W p l e (headSpec w_X11_writeQuotient r_X11_writeQuotient).room s m ([.ref q0, .int p1, .int p2] : List Value).toArray below meth c H locs 0 0 (MQ below (q_X11_writeQuotient g q0 q1 q2 q3 q4 q5 q6 q7 q8 q9 q10 q11 q12 mm masd msav misS mpst mchg merr mfai mthr minp minM mUp mcar mcam mahd magn mltr mbeg mcmd mcmM mpl msz mwr mlin mliM o A) ([.ref q0, .int p1, .int p2] : List Value).toArray s 0 0 A) (F0 m 45 ls []) := by
    intro n45
    induction n45 with
    | zero =>
      intro mthr mcam mahd magn mlin mliM x3 hF
      exact absurd hF (by simp [F_X11_writeQuotient_45])
    | succ n45 ih45 =>
      intro mthr mcam mahd magn mlin mliM x3 hF H locs ls hl hP hD hS
      unfold F_X11_writeQuotient_45 at hF
      refine lv_iload_n hx hb dX11_writeQuotient_45 rfl (lv_at hl 3 rfl) ?_
      refine lv_aload_n hx hb dX11_writeQuotient_46 rfl (lv_at hl 0 rfl) ?_
      refine va_get (D := gD g) (ci := 7) (v := .int mahd) (C := RX11) (T := TX11) (N := 25) hx hb hts inX11 hown hK hP 0 rfl rfl 14 (by decide) (hts _ mU_1258) (fun _ h9 => h9) rfl dX11_writeQuotient_47 ?_
      refine lv_bipush (v := 20) hx hb dX11_writeQuotient_50 (by decide) ?_
      refine lv_aload_n hx hb dX11_writeQuotient_52 rfl (lv_at hl 0 rfl) ?_
      refine va_get (D := gD g) (ci := 7) (v := .int magn) (C := RX11) (T := TX11) (N := 25) hx hb hts inX11 hown hK hP 0 rfl rfl 15 (by decide) (hts _ mU_1259) (fun _ h9 => h9) rfl dX11_writeQuotient_53 ?_
      refine va_mmin hx hb (hml.trans hl.1.symm) hown (hts _ mU_1690) (hts _ mU_568) (hts _ mU_83) (hts _ mU_569) (Nat.le_of_ble_eq_true rfl) (Nat.le_of_ble_eq_true rfl) (Nat.le_of_ble_eq_true rfl) (Nat.le_of_ble_eq_true rfl) dX11_writeQuotient_56 ?_
      refine lv_iadd hx hb dX11_writeQuotient_59 ?_
      refine lv_icmp_gt (tgt := 98) hx hb dX11_writeQuotient_60 (by decide) (fun zc1 => ?_) (fun zc1 => ?_)
      · have hF := z_pos hF zc1
        refine lv_aload_n hx hb dX11_writeQuotient_98 rfl (lv_at hl 0 rfl) ?_
        refine lv_bipush (v := 41) hx hb dX11_writeQuotient_99 (by decide) ?_
        obtain ⟨zo2, hzo2, hF⟩ := z_bind hF
        refine z_callvE (fun (u : (Nat → Int32) × Int32) => (wModel g q0 q1 q2 q3 q4 q5 q6 q7 q8 q9 q10 q11 q12 mm masd msav misS mpst mchg merr mfai mthr minp minM mUp mcar mcam mahd magn mltr mbeg mcmd mcmM mpl msz mwr u.1 u.2)) (va_runV (As := [.int 41]) (rest := []) ⟨hx, hb, hml, hown, hts⟩ (c_X11_sign l g q0 q1 q2 q3 q4 q5 q6 q7 q8 q9 q10 q11 q12 mm masd msav misS mpst mchg merr mfai mthr minp minM mUp mcar mcam mahd magn mltr mbeg mcmd mcmM mpl msz mwr mlin mliM _ 41 _ hzo2) (cwV 1 hts (gdV mU_1682 mU_1684 mU_64 mU_75 mU_1685) rfl rfl rfl (by decide +kernel) ⟨Nat.le_of_ble_eq_true rfl, Nat.le_of_ble_eq_true rfl⟩) ⟨z_blind _ _ _ _, va_recv hK hP (ci := 7) (q0 := 0) rfl rfl, fun U hU hW => z_preE hP hD hK hB hS hA hU hW⟩ rfl rfl hl.1 rfl (lv_room (Nat.le_of_ble_eq_true rfl)) dX11_writeQuotient_101 ⟨Nat.le_of_ble_eq_true rfl, Nat.le_of_ble_eq_true rfl⟩) hD hS hA (fun _ => rfl) (fun u H locs hw hP hD hS => ?_)
        subst hw
        have hP : va_P (gD g) zCl (wModel g q0 q1 q2 q3 q4 q5 q6 q7 q8 q9 q10 q11 q12 mm masd msav misS mpst mchg merr mfai mthr minp minM mUp mcar mcam mahd magn mltr mbeg mcmd mcmM mpl msz mwr zo2.1 zo2.2) H := hP
        have hD : va_D A (wModel g q0 q1 q2 q3 q4 q5 q6 q7 q8 q9 q10 q11 q12 mm masd msav misS mpst mchg merr mfai mthr minp minM mUp mcar mcam mahd magn mltr mbeg mcmd mcmM mpl msz mwr zo2.1 zo2.2) := hD
        refine lv_aload_n hx hb dX11_writeQuotient_104 rfl (lv_at hl 0 rfl) ?_
        refine va_get (D := gD g) (ci := 7) (v := .int zo2.2) (C := RX11) (T := TX11) (N := 25) hx hb hts inX11 hown hK hP 0 rfl rfl 24 (by decide) (hts _ mU_1268) (fun _ h9 => h9) rfl dX11_writeQuotient_105 ?_
        have ho := (Option.some.inj hF).symm
        exact W.iret (v := zo2.2) hx hb hr (fun t ht hW => ⟨⟨zo2.2, (mthr, mcam, mahd, magn, zo2.1, zo2.2), rfl, ⟨by rw [ho], by rw [ho]⟩, z_end ht hP⟩, hS.F ht⟩) hS.2.2 dX11_writeQuotient_108
      · have hF := z_neg hF zc1
        refine lv_iload_n hx hb dX11_writeQuotient_63 rfl (lv_at hl 3 rfl) ?_
        refine lv_aload_n hx hb dX11_writeQuotient_64 rfl (lv_at hl 0 rfl) ?_
        refine va_get (D := gD g) (ci := 7) (v := .int mahd) (C := RX11) (T := TX11) (N := 25) hx hb hts inX11 hown hK hP 0 rfl rfl 14 (by decide) (hts _ mU_1258) (fun _ h9 => h9) rfl dX11_writeQuotient_65 ?_
        refine lv_iconst (v := 1) hx hb dX11_writeQuotient_68 (by decide) ?_
        refine lv_iadd hx hb dX11_writeQuotient_69 ?_
        refine lv_icmp_ne (tgt := 79) hx hb dX11_writeQuotient_70 (by decide) (fun zc3 => ?_) (fun zc3 => ?_)
        · have hF := z_neg hF zc3
          refine lv_aload_n hx hb dX11_writeQuotient_79 rfl (lv_at hl 0 rfl) ?_
          refine lv_bipush (v := 48) hx hb dX11_writeQuotient_80 (by decide) ?_
          refine lv_iload_n hx hb dX11_writeQuotient_82 rfl (lv_at hl 1 rfl) ?_
          refine lv_iload_n hx hb dX11_writeQuotient_83 rfl (lv_at hl 2 rfl) ?_
          refine lv_iload_n hx hb dX11_writeQuotient_84 rfl (lv_at hl 3 rfl) ?_
          obtain ⟨zo4, hzo4, hF⟩ := z_bind hF
          refine z_calli (fun (_ : Unit) => []) [] (va_runS (As := [.int p1, .int p2, .int x3]) (rest := [.int 48, .ref q0]) ⟨hx, hb, hml, hown, hts⟩ (c_X11_digitOf l g _ p1 p2 x3 fu _ hzo4) (va_cwS 3 hts (gdS mU_1558 mU_1559 mU_75 mU_1560) rfl rfl rfl (by decide +kernel) ⟨Nat.le_of_ble_eq_true rfl, Nat.le_of_ble_eq_true rfl⟩) ⟨z_blind _ _ _ _, fun U hU hW => z_pre [] hP hD hK hB hS hA rfl rfl hU hW⟩ rfl rfl hl.1 rfl (lv_room (Nat.le_of_ble_eq_true rfl)) dX11_writeQuotient_85 ⟨Nat.le_of_ble_eq_true rfl, Nat.le_of_ble_eq_true rfl⟩) hP hD hS hA rfl (fun _ => rfl) (fun r u H locs hw hP hD hS => ?_)
          subst hw
          have hP : va_P (gD g) zCl (wModel g q0 q1 q2 q3 q4 q5 q6 q7 q8 q9 q10 q11 q12 mm masd msav misS mpst mchg merr mfai mthr minp minM mUp mcar mcam mahd magn mltr mbeg mcmd mcmM mpl msz mwr mlin mliM) H := hP
          have hD : va_D A (wModel g q0 q1 q2 q3 q4 q5 q6 q7 q8 q9 q10 q11 q12 mm masd msav misS mpst mchg merr mfai mthr minp minM mUp mcar mcam mahd magn mltr mbeg mcmd mcmM mpl msz mwr mlin mliM) := hD
          refine lv_iadd hx hb dX11_writeQuotient_88 ?_
          obtain ⟨zo5, hzo5, hF⟩ := z_bind hF
          refine z_callvE (fun (u : (Nat → Int32) × Int32) => (wModel g q0 q1 q2 q3 q4 q5 q6 q7 q8 q9 q10 q11 q12 mm masd msav misS mpst mchg merr mfai mthr minp minM mUp mcar mcam mahd magn mltr mbeg mcmd mcmM mpl msz mwr u.1 u.2)) (va_runV (As := [.int (48 + zo4)]) (rest := []) ⟨hx, hb, hml, hown, hts⟩ (c_X11_sign l g q0 q1 q2 q3 q4 q5 q6 q7 q8 q9 q10 q11 q12 mm masd msav misS mpst mchg merr mfai mthr minp minM mUp mcar mcam mahd magn mltr mbeg mcmd mcmM mpl msz mwr mlin mliM _ (48 + zo4) _ hzo5) (cwV 1 hts (gdV mU_1682 mU_1684 mU_64 mU_75 mU_1685) rfl rfl rfl (by decide +kernel) ⟨Nat.le_of_ble_eq_true rfl, Nat.le_of_ble_eq_true rfl⟩) ⟨z_blind _ _ _ _, va_recv hK hP (ci := 7) (q0 := 0) rfl rfl, fun U hU hW => z_preE hP hD hK hB hS hA hU hW⟩ rfl rfl hl.1 rfl (lv_room (Nat.le_of_ble_eq_true rfl)) dX11_writeQuotient_89 ⟨Nat.le_of_ble_eq_true rfl, Nat.le_of_ble_eq_true rfl⟩) hD hS hA (fun _ => rfl) (fun u H locs hw hP hD hS => ?_)
          subst hw
          have hP : va_P (gD g) zCl (wModel g q0 q1 q2 q3 q4 q5 q6 q7 q8 q9 q10 q11 q12 mm masd msav misS mpst mchg merr mfai mthr minp minM mUp mcar mcam mahd magn mltr mbeg mcmd mcmM mpl msz mwr zo5.1 zo5.2) H := hP
          have hD : va_D A (wModel g q0 q1 q2 q3 q4 q5 q6 q7 q8 q9 q10 q11 q12 mm masd msav misS mpst mchg merr mfai mthr minp minM mUp mcar mcam mahd magn mltr mbeg mcmd mcmM mpl msz mwr zo5.1 zo5.2) := hD
          obtain ⟨zv6, ezv6, hF⟩ := z_let hF
          refine lv_iinc (v := zv6) (lv' := [(3, .int zv6), (0, .ref q0), (1, .int p1), (2, .int p2)]) hx hb dX11_writeQuotient_92 hl (k := 3) rfl (by rw [ezv6]; rfl) (by decide) rfl (fun ls hl => ?_)
          refine lv_goto (tgt := 45) hx hb dX11_writeQuotient_95 (by decide) ?_
          exact ih45 mthr mcam mahd magn zo5.1 zo5.2 zv6 hF _ _ _ (lv_sub hl [1, 2, 3, 0] rfl) hP hD hS
        · have hF := z_pos hF zc3
          refine lv_aload_n hx hb dX11_writeQuotient_73 rfl (lv_at hl 0 rfl) ?_
          refine lv_bipush (v := 40) hx hb dX11_writeQuotient_74 (by decide) ?_
          obtain ⟨zo7, hzo7, hF⟩ := z_bind hF
          refine z_callvE (fun (u : (Nat → Int32) × Int32) => (wModel g q0 q1 q2 q3 q4 q5 q6 q7 q8 q9 q10 q11 q12 mm masd msav misS mpst mchg merr mfai mthr minp minM mUp mcar mcam mahd magn mltr mbeg mcmd mcmM mpl msz mwr u.1 u.2)) (va_runV (As := [.int 40]) (rest := []) ⟨hx, hb, hml, hown, hts⟩ (c_X11_sign l g q0 q1 q2 q3 q4 q5 q6 q7 q8 q9 q10 q11 q12 mm masd msav misS mpst mchg merr mfai mthr minp minM mUp mcar mcam mahd magn mltr mbeg mcmd mcmM mpl msz mwr mlin mliM _ 40 _ hzo7) (cwV 1 hts (gdV mU_1682 mU_1684 mU_64 mU_75 mU_1685) rfl rfl rfl (by decide +kernel) ⟨Nat.le_of_ble_eq_true rfl, Nat.le_of_ble_eq_true rfl⟩) ⟨z_blind _ _ _ _, va_recv hK hP (ci := 7) (q0 := 0) rfl rfl, fun U hU hW => z_preE hP hD hK hB hS hA hU hW⟩ rfl rfl hl.1 rfl (lv_room (Nat.le_of_ble_eq_true rfl)) dX11_writeQuotient_76 ⟨Nat.le_of_ble_eq_true rfl, Nat.le_of_ble_eq_true rfl⟩) hD hS hA (fun _ => rfl) (fun u H locs hw hP hD hS => ?_)
          subst hw
          have hP : va_P (gD g) zCl (wModel g q0 q1 q2 q3 q4 q5 q6 q7 q8 q9 q10 q11 q12 mm masd msav misS mpst mchg merr mfai mthr minp minM mUp mcar mcam mahd magn mltr mbeg mcmd mcmM mpl msz mwr zo7.1 zo7.2) H := hP
          have hD : va_D A (wModel g q0 q1 q2 q3 q4 q5 q6 q7 q8 q9 q10 q11 q12 mm masd msav misS mpst mchg merr mfai mthr minp minM mUp mcar mcam mahd magn mltr mbeg mcmd mcmM mpl msz mwr zo7.1 zo7.2) := hD
          refine lv_aload_n hx hb dX11_writeQuotient_79 rfl (lv_at hl 0 rfl) ?_
          refine lv_bipush (v := 48) hx hb dX11_writeQuotient_80 (by decide) ?_
          refine lv_iload_n hx hb dX11_writeQuotient_82 rfl (lv_at hl 1 rfl) ?_
          refine lv_iload_n hx hb dX11_writeQuotient_83 rfl (lv_at hl 2 rfl) ?_
          refine lv_iload_n hx hb dX11_writeQuotient_84 rfl (lv_at hl 3 rfl) ?_
          obtain ⟨zo8, hzo8, hF⟩ := z_bind hF
          refine z_calli (fun (_ : Unit) => []) [] (va_runS (As := [.int p1, .int p2, .int x3]) (rest := [.int 48, .ref q0]) ⟨hx, hb, hml, hown, hts⟩ (c_X11_digitOf l g _ p1 p2 x3 fu _ hzo8) (va_cwS 3 hts (gdS mU_1558 mU_1559 mU_75 mU_1560) rfl rfl rfl (by decide +kernel) ⟨Nat.le_of_ble_eq_true rfl, Nat.le_of_ble_eq_true rfl⟩) ⟨z_blind _ _ _ _, fun U hU hW => z_pre [] hP hD hK hB hS hA rfl rfl hU hW⟩ rfl rfl hl.1 rfl (lv_room (Nat.le_of_ble_eq_true rfl)) dX11_writeQuotient_85 ⟨Nat.le_of_ble_eq_true rfl, Nat.le_of_ble_eq_true rfl⟩) hP hD hS hA rfl (fun _ => rfl) (fun r u H locs hw hP hD hS => ?_)
          subst hw
          have hP : va_P (gD g) zCl (wModel g q0 q1 q2 q3 q4 q5 q6 q7 q8 q9 q10 q11 q12 mm masd msav misS mpst mchg merr mfai mthr minp minM mUp mcar mcam mahd magn mltr mbeg mcmd mcmM mpl msz mwr zo7.1 zo7.2) H := hP
          have hD : va_D A (wModel g q0 q1 q2 q3 q4 q5 q6 q7 q8 q9 q10 q11 q12 mm masd msav misS mpst mchg merr mfai mthr minp minM mUp mcar mcam mahd magn mltr mbeg mcmd mcmM mpl msz mwr zo7.1 zo7.2) := hD
          refine lv_iadd hx hb dX11_writeQuotient_88 ?_
          obtain ⟨zo9, hzo9, hF⟩ := z_bind hF
          refine z_callvE (fun (u : (Nat → Int32) × Int32) => (wModel g q0 q1 q2 q3 q4 q5 q6 q7 q8 q9 q10 q11 q12 mm masd msav misS mpst mchg merr mfai mthr minp minM mUp mcar mcam mahd magn mltr mbeg mcmd mcmM mpl msz mwr u.1 u.2)) (va_runV (As := [.int (48 + zo8)]) (rest := []) ⟨hx, hb, hml, hown, hts⟩ (c_X11_sign l g q0 q1 q2 q3 q4 q5 q6 q7 q8 q9 q10 q11 q12 mm masd msav misS mpst mchg merr mfai mthr minp minM mUp mcar mcam mahd magn mltr mbeg mcmd mcmM mpl msz mwr zo7.1 zo7.2 _ (48 + zo8) _ hzo9) (cwV 1 hts (gdV mU_1682 mU_1684 mU_64 mU_75 mU_1685) rfl rfl rfl (by decide +kernel) ⟨Nat.le_of_ble_eq_true rfl, Nat.le_of_ble_eq_true rfl⟩) ⟨z_blind _ _ _ _, va_recv hK hP (ci := 7) (q0 := 0) rfl rfl, fun U hU hW => z_preE hP hD hK hB hS hA hU hW⟩ rfl rfl hl.1 rfl (lv_room (Nat.le_of_ble_eq_true rfl)) dX11_writeQuotient_89 ⟨Nat.le_of_ble_eq_true rfl, Nat.le_of_ble_eq_true rfl⟩) hD hS hA (fun _ => rfl) (fun u H locs hw hP hD hS => ?_)
          subst hw
          have hP : va_P (gD g) zCl (wModel g q0 q1 q2 q3 q4 q5 q6 q7 q8 q9 q10 q11 q12 mm masd msav misS mpst mchg merr mfai mthr minp minM mUp mcar mcam mahd magn mltr mbeg mcmd mcmM mpl msz mwr zo9.1 zo9.2) H := hP
          have hD : va_D A (wModel g q0 q1 q2 q3 q4 q5 q6 q7 q8 q9 q10 q11 q12 mm masd msav misS mpst mchg merr mfai mthr minp minM mUp mcar mcam mahd magn mltr mbeg mcmd mcmM mpl msz mwr zo9.1 zo9.2) := hD
          obtain ⟨zv10, ezv10, hF⟩ := z_let hF
          refine lv_iinc (v := zv10) (lv' := [(3, .int zv10), (0, .ref q0), (1, .int p1), (2, .int p2)]) hx hb dX11_writeQuotient_92 hl (k := 3) rfl (by rw [ezv10]; rfl) (by decide) rfl (fun ls hl => ?_)
          refine lv_goto (tgt := 45) hx hb dX11_writeQuotient_95 (by decide) ?_
          exact ih45 mthr mcam mahd magn zo9.1 zo9.2 zv10 hF _ _ _ (lv_sub hl [1, 2, 3, 0] rfl) hP hD hS
  refine lv_aload_n hx hb dX11_writeQuotient_0 rfl (lv_at hl 0 rfl) ?_
  refine lv_iconst (v := 0) hx hb dX11_writeQuotient_1 (by decide) ?_
  refine va_put (D := gD g) (ci := 7) (v := .int 0) (ty := .int) (C := RX11) (T := TX11) (N := 25) hx hb hts inX11 tyX11 tyX11_ok nmX11 hown hK hP hD hS 0 rfl rfl 8 (by decide) (hts _ mU_1252) (fun _ h9 => h9) rfl (by decide +kernel) rfl rfl (Nat.le_of_ble_eq_true rfl) dX11_writeQuotient_2 (fun H locs hP hD hS => ?_)
  have hP : va_P (gD g) zCl (wModel g q0 q1 q2 q3 q4 q5 q6 q7 q8 q9 q10 q11 q12 mm masd msav misS mpst mchg merr mfai 0 minp minM mUp mcar mcam mahd magn mltr mbeg mcmd mcmM mpl msz mwr mlin mliM) H := hP
  have hD : va_D A (wModel g q0 q1 q2 q3 q4 q5 q6 q7 q8 q9 q10 q11 q12 mm masd msav misS mpst mchg merr mfai 0 minp minM mUp mcar mcam mahd magn mltr mbeg mcmd mcmM mpl msz mwr mlin mliM) := hD
  refine lv_iload_n hx hb dX11_writeQuotient_5 rfl (lv_at hl 1 rfl) ?_
  refine lv_iload_n hx hb dX11_writeQuotient_6 rfl (lv_at hl 2 rfl) ?_
  obtain ⟨zo11, hzo11, hF⟩ := z_bind hF
  refine z_calli (fun (_ : Unit) => []) [] (va_runS (As := [.int p1, .int p2]) (rest := []) ⟨hx, hb, hml, hown, hts⟩ (c_X11_isQuotient l g _ p1 p2 _ hzo11) (va_cwS 2 hts (gdS mU_1555 mU_1556 mU_75 mU_1557) rfl rfl rfl (by decide +kernel) ⟨Nat.le_of_ble_eq_true rfl, Nat.le_of_ble_eq_true rfl⟩) ⟨z_blind _ _ _ _, fun U hU hW => z_pre [] hP hD hK hB hS hA rfl rfl hU hW⟩ rfl rfl hl.1 rfl (lv_room (Nat.le_of_ble_eq_true rfl)) dX11_writeQuotient_7 ⟨Nat.le_of_ble_eq_true rfl, Nat.le_of_ble_eq_true rfl⟩) hP hD hS hA rfl (fun _ => rfl) (fun r u H locs hw hP hD hS => ?_)
  subst hw
  have hP : va_P (gD g) zCl (wModel g q0 q1 q2 q3 q4 q5 q6 q7 q8 q9 q10 q11 q12 mm masd msav misS mpst mchg merr mfai 0 minp minM mUp mcar mcam mahd magn mltr mbeg mcmd mcmM mpl msz mwr mlin mliM) H := hP
  have hD : va_D A (wModel g q0 q1 q2 q3 q4 q5 q6 q7 q8 q9 q10 q11 q12 mm masd msav misS mpst mchg merr mfai 0 minp minM mUp mcar mcam mahd magn mltr mbeg mcmd mcmM mpl msz mwr mlin mliM) := hD
  refine lv_if_ne (tgt := 19) hx hb dX11_writeQuotient_10 (by decide) (fun zc12 => ?_) (fun zc12 => ?_)
  · have hF := z_neg hF zc12
    refine lv_aload_n hx hb dX11_writeQuotient_19 rfl (lv_at hl 0 rfl) ?_
    refine lv_iload_n hx hb dX11_writeQuotient_20 rfl (lv_at hl 1 rfl) ?_
    refine lv_iload_n hx hb dX11_writeQuotient_21 rfl (lv_at hl 2 rfl) ?_
    obtain ⟨zo13, hzo13, hF⟩ := z_bind hF
    refine z_callvE (fun (u : (Nat → Int32) × Int32 × Int32) => (wModel g q0 q1 q2 q3 q4 q5 q6 q7 q8 q9 q10 q11 q12 mm masd msav misS mpst mchg merr mfai 0 minp minM mUp mcar u.1 u.2.1 u.2.2 mltr mbeg mcmd mcmM mpl msz mwr mlin mliM)) (va_runV (As := [.int p1, .int p2]) (rest := []) ⟨hx, hb, hml, hown, hts⟩ (c_X11_divides l g q0 q1 q2 q3 q4 q5 q6 q7 q8 q9 q10 q11 q12 mm masd msav misS mpst mchg merr mfai 0 minp minM mUp mcar mcam mahd magn mltr mbeg mcmd mcmM mpl msz mwr mlin mliM _ p1 p2 fu _ hzo13) (cwV 2 hts (gdV mU_1565 mU_1567 mU_50 mU_75 mU_1568) rfl rfl rfl (by decide +kernel) ⟨Nat.le_of_ble_eq_true rfl, Nat.le_of_ble_eq_true rfl⟩) ⟨z_blind _ _ _ _, va_recv hK hP (ci := 7) (q0 := 0) rfl rfl, fun U hU hW => z_preE hP hD hK hB hS hA hU hW⟩ rfl rfl hl.1 rfl (lv_room (Nat.le_of_ble_eq_true rfl)) dX11_writeQuotient_22 ⟨Nat.le_of_ble_eq_true rfl, Nat.le_of_ble_eq_true rfl⟩) hD hS hA (fun _ => rfl) (fun u H locs hw hP hD hS => ?_)
    subst hw
    have hP : va_P (gD g) zCl (wModel g q0 q1 q2 q3 q4 q5 q6 q7 q8 q9 q10 q11 q12 mm masd msav misS mpst mchg merr mfai 0 minp minM mUp mcar zo13.1 zo13.2.1 zo13.2.2 mltr mbeg mcmd mcmM mpl msz mwr mlin mliM) H := hP
    have hD : va_D A (wModel g q0 q1 q2 q3 q4 q5 q6 q7 q8 q9 q10 q11 q12 mm masd msav misS mpst mchg merr mfai 0 minp minM mUp mcar zo13.1 zo13.2.1 zo13.2.2 mltr mbeg mcmd mcmM mpl msz mwr mlin mliM) := hD
    refine lv_aload_n hx hb dX11_writeQuotient_25 rfl (lv_at hl 0 rfl) ?_
    refine lv_iconst (v := 0) hx hb dX11_writeQuotient_26 (by decide) ?_
    refine va_put (D := gD g) (ci := 7) (v := .int 0) (ty := .int) (C := RX11) (T := TX11) (N := 25) hx hb hts inX11 tyX11 tyX11_ok nmX11 hown hK hP hD hS 0 rfl rfl 24 (by decide) (hts _ mU_1268) (fun _ h9 => h9) rfl (by decide +kernel) rfl rfl (Nat.le_of_ble_eq_true rfl) dX11_writeQuotient_27 (fun H locs hP hD hS => ?_)
    have hP : va_P (gD g) zCl (wModel g q0 q1 q2 q3 q4 q5 q6 q7 q8 q9 q10 q11 q12 mm masd msav misS mpst mchg merr mfai 0 minp minM mUp mcar zo13.1 zo13.2.1 zo13.2.2 mltr mbeg mcmd mcmM mpl msz mwr mlin 0) H := hP
    have hD : va_D A (wModel g q0 q1 q2 q3 q4 q5 q6 q7 q8 q9 q10 q11 q12 mm masd msav misS mpst mchg merr mfai 0 minp minM mUp mcar zo13.1 zo13.2.1 zo13.2.2 mltr mbeg mcmd mcmM mpl msz mwr mlin 0) := hD
    refine lv_aload_n hx hb dX11_writeQuotient_30 rfl (lv_at hl 0 rfl) ?_
    refine lv_iload_n hx hb dX11_writeQuotient_31 rfl (lv_at hl 1 rfl) ?_
    refine lv_iload_n hx hb dX11_writeQuotient_32 rfl (lv_at hl 2 rfl) ?_
    obtain ⟨zg14, hF⟩ := z_grd hF
    refine lv_idiv hx hb dX11_writeQuotient_33 zg14 ?_
    obtain ⟨zo15, hzo15, hF⟩ := z_bind hF
    refine z_callvE (fun (u : (Nat → Int32) × Int32) => (wModel g q0 q1 q2 q3 q4 q5 q6 q7 q8 q9 q10 q11 q12 mm masd msav misS mpst mchg merr mfai 0 minp minM mUp mcar zo13.1 zo13.2.1 zo13.2.2 mltr mbeg mcmd mcmM mpl msz mwr u.1 u.2)) (va_runV (As := [.int (p1 / p2)]) (rest := []) ⟨hx, hb, hml, hown, hts⟩ (c_X11_writesWhole l g q0 q1 q2 q3 q4 q5 q6 q7 q8 q9 q10 q11 q12 mm masd msav misS mpst mchg merr mfai 0 minp minM mUp mcar zo13.1 zo13.2.1 zo13.2.2 mltr mbeg mcmd mcmM mpl msz mwr mlin 0 _ (p1 / p2) fu _ hzo15) (cwV 1 hts (gdV mU_1678 mU_1680 mU_63 mU_75 mU_1681) rfl rfl rfl (by decide +kernel) ⟨Nat.le_of_ble_eq_true rfl, Nat.le_of_ble_eq_true rfl⟩) ⟨z_blind _ _ _ _, va_recv hK hP (ci := 7) (q0 := 0) rfl rfl, fun U hU hW => z_preE hP hD hK hB hS hA hU hW⟩ rfl rfl hl.1 rfl (lv_room (Nat.le_of_ble_eq_true rfl)) dX11_writeQuotient_34 ⟨Nat.le_of_ble_eq_true rfl, Nat.le_of_ble_eq_true rfl⟩) hD hS hA (fun _ => rfl) (fun u H locs hw hP hD hS => ?_)
    subst hw
    have hP : va_P (gD g) zCl (wModel g q0 q1 q2 q3 q4 q5 q6 q7 q8 q9 q10 q11 q12 mm masd msav misS mpst mchg merr mfai 0 minp minM mUp mcar zo13.1 zo13.2.1 zo13.2.2 mltr mbeg mcmd mcmM mpl msz mwr zo15.1 zo15.2) H := hP
    have hD : va_D A (wModel g q0 q1 q2 q3 q4 q5 q6 q7 q8 q9 q10 q11 q12 mm masd msav misS mpst mchg merr mfai 0 minp minM mUp mcar zo13.1 zo13.2.1 zo13.2.2 mltr mbeg mcmd mcmM mpl msz mwr zo15.1 zo15.2) := hD
    refine lv_aload_n hx hb dX11_writeQuotient_37 rfl (lv_at hl 0 rfl) ?_
    refine lv_bipush (v := 46) hx hb dX11_writeQuotient_38 (by decide) ?_
    obtain ⟨zo16, hzo16, hF⟩ := z_bind hF
    refine z_callvE (fun (u : (Nat → Int32) × Int32) => (wModel g q0 q1 q2 q3 q4 q5 q6 q7 q8 q9 q10 q11 q12 mm masd msav misS mpst mchg merr mfai 0 minp minM mUp mcar zo13.1 zo13.2.1 zo13.2.2 mltr mbeg mcmd mcmM mpl msz mwr u.1 u.2)) (va_runV (As := [.int 46]) (rest := []) ⟨hx, hb, hml, hown, hts⟩ (c_X11_sign l g q0 q1 q2 q3 q4 q5 q6 q7 q8 q9 q10 q11 q12 mm masd msav misS mpst mchg merr mfai 0 minp minM mUp mcar zo13.1 zo13.2.1 zo13.2.2 mltr mbeg mcmd mcmM mpl msz mwr zo15.1 zo15.2 _ 46 _ hzo16) (cwV 1 hts (gdV mU_1682 mU_1684 mU_64 mU_75 mU_1685) rfl rfl rfl (by decide +kernel) ⟨Nat.le_of_ble_eq_true rfl, Nat.le_of_ble_eq_true rfl⟩) ⟨z_blind _ _ _ _, va_recv hK hP (ci := 7) (q0 := 0) rfl rfl, fun U hU hW => z_preE hP hD hK hB hS hA hU hW⟩ rfl rfl hl.1 rfl (lv_room (Nat.le_of_ble_eq_true rfl)) dX11_writeQuotient_40 ⟨Nat.le_of_ble_eq_true rfl, Nat.le_of_ble_eq_true rfl⟩) hD hS hA (fun _ => rfl) (fun u H locs hw hP hD hS => ?_)
    subst hw
    have hP : va_P (gD g) zCl (wModel g q0 q1 q2 q3 q4 q5 q6 q7 q8 q9 q10 q11 q12 mm masd msav misS mpst mchg merr mfai 0 minp minM mUp mcar zo13.1 zo13.2.1 zo13.2.2 mltr mbeg mcmd mcmM mpl msz mwr zo16.1 zo16.2) H := hP
    have hD : va_D A (wModel g q0 q1 q2 q3 q4 q5 q6 q7 q8 q9 q10 q11 q12 mm masd msav misS mpst mchg merr mfai 0 minp minM mUp mcar zo13.1 zo13.2.1 zo13.2.2 mltr mbeg mcmd mcmM mpl msz mwr zo16.1 zo16.2) := hD
    refine lv_iconst (v := 1) hx hb dX11_writeQuotient_43 (by decide) ?_
    refine lv_istore_n (lv' := [(3, .int 1), (0, .ref q0), (1, .int p1), (2, .int p2)]) hx hb dX11_writeQuotient_44 rfl hl (by decide) rfl (fun ls hl => ?_)
    exact K45 fu 0 zo13.1 zo13.2.1 zo13.2.2 zo16.1 zo16.2 1 hF _ _ _ (lv_sub hl [1, 2, 3, 0] rfl) hP hD hS
  · have hF := z_pos hF zc12
    refine lv_aload_n hx hb dX11_writeQuotient_13 rfl (lv_at hl 0 rfl) ?_
    refine lv_iconst (v := 1) hx hb dX11_writeQuotient_14 (by decide) ?_
    obtain ⟨zo17, hzo17, hF⟩ := z_bind hF
    refine z_calliE (fun (u : Int32) => (wModel g q0 q1 q2 q3 q4 q5 q6 q7 q8 q9 q10 q11 q12 mm masd msav misS mpst mchg merr mfai u minp minM mUp mcar mcam mahd magn mltr mbeg mcmd mcmM mpl msz mwr mlin mliM)) (va_runV (As := [.int 1]) (rest := []) ⟨hx, hb, hml, hown, hts⟩ (c_X11_throwing l g q0 q1 q2 q3 q4 q5 q6 q7 q8 q9 q10 q11 q12 mm masd msav misS mpst mchg merr mfai 0 minp minM mUp mcar mcam mahd magn mltr mbeg mcmd mcmM mpl msz mwr mlin mliM _ 1 _ hzo17) (cwV 1 hts (gdV mU_1352 mU_1354 mU_31 mU_75 mU_1355) rfl rfl rfl (by decide +kernel) ⟨Nat.le_of_ble_eq_true rfl, Nat.le_of_ble_eq_true rfl⟩) ⟨z_blind _ _ _ _, va_recv hK hP (ci := 7) (q0 := 0) rfl rfl, fun U hU hW => z_preE hP hD hK hB hS hA hU hW⟩ rfl rfl hl.1 rfl (lv_room (Nat.le_of_ble_eq_true rfl)) dX11_writeQuotient_15 ⟨Nat.le_of_ble_eq_true rfl, Nat.le_of_ble_eq_true rfl⟩) hD hS hA (fun _ => rfl) (fun r u H locs hw hP hD hS => ?_)
    obtain ⟨rfl, rfl⟩ := hw
    have hP : va_P (gD g) zCl (wModel g q0 q1 q2 q3 q4 q5 q6 q7 q8 q9 q10 q11 q12 mm masd msav misS mpst mchg merr mfai zo17.2 minp minM mUp mcar mcam mahd magn mltr mbeg mcmd mcmM mpl msz mwr mlin mliM) H := hP
    have hD : va_D A (wModel g q0 q1 q2 q3 q4 q5 q6 q7 q8 q9 q10 q11 q12 mm masd msav misS mpst mchg merr mfai zo17.2 minp minM mUp mcar mcam mahd magn mltr mbeg mcmd mcmM mpl msz mwr mlin mliM) := hD
    have ho := (Option.some.inj hF).symm
    exact W.iret (v := zo17.1) hx hb hr (fun t ht hW => ⟨⟨zo17.1, (zo17.2, mcam, mahd, magn, mlin, mliM), rfl, ⟨by rw [ho], by rw [ho]⟩, z_end ht hP⟩, hS.F ht⟩) hS.2.2 dX11_writeQuotient_18
abbrev w_X11_outputAt : List Cond := .code yX11_outputAt cX11_outputAt 2 (some .char) :: wU
abbrev r_X11_outputAt : Room := { frames := 1, cells := 0, slots := 0, locals := 25 }
abbrev q_X11_outputAt (g : GG) (q0 q1 q2 q3 q4 q5 q6 q7 q8 q9 q10 q11 q12 : Nat) (mm : Nat → Int64) (masd : Nat → Int64) (msav : Nat → Int64) (misS : Int32) (mpst : Nat → Int64) (mchg : Int32) (merr : Int32) (mfai : Int32) (mthr : Int32) (minp : Nat → Int32) (minM : Int32) (mUp : Nat → Int32) (mcar : Nat → Int32) (mcam : Nat → Int32) (mahd : Int32) (magn : Int32) (mltr : Nat → Int32) (mbeg : Nat → Int32) (mcmd : Nat → Int32) (mcmM : Int32) (mpl : Int32) (msz : Int32) (mwr : Int32) (mlin : Nat → Int32) (mliM : Int32) (o : Int32 × Int32) (A : Nat → Prop) := va_Qi (fun (r : Int32) (u : Int32) => o.1 = r ∧ o.2 = u) (fun u t => va_P (gD g) zCl (wModel g q0 q1 q2 q3 q4 q5 q6 q7 q8 q9 q10 q11 q12 mm masd msav misS mpst mchg merr mfai u minp minM mUp mcar mcam mahd magn mltr mbeg mcmd mcmM mpl msz mwr mlin mliM) t.heap) A
set_option maxHeartbeats 4000000 in
set_option maxRecDepth 100000 in
theorem c_X11_outputAt (l : Launch) (g : GG) (q0 q1 q2 q3 q4 q5 q6 q7 q8 q9 q10 q11 q12 : Nat) (mm : Nat → Int64) (masd : Nat → Int64) (msav : Nat → Int64) (misS : Int32) (mpst : Nat → Int64) (mchg : Int32) (merr : Int32) (mfai : Int32) (mthr : Int32) (minp : Nat → Int32) (minM : Int32) (mUp : Nat → Int32) (mcar : Nat → Int32) (mcam : Nat → Int32) (mahd : Int32) (magn : Int32) (mltr : Nat → Int32) (mbeg : Nat → Int32) (mcmd : Nat → Int32) (mcmM : Int32) (mpl : Int32) (msz : Int32) (mwr : Int32) (mlin : Nat → Int32) (mliM : Int32) (sz : Nat) (p1 : Int32) (o : Int32 × Int32) (hF : F_X11_outputAt mthr mlin mliM p1 = some o) : Met l yX11_outputAt w_X11_outputAt r_X11_outputAt (va_Pc [.ref q0, .int p1] (zP g (wModel g q0 q1 q2 q3 q4 q5 q6 q7 q8 q9 q10 q11 q12 mm masd msav misS mpst mchg merr mfai mthr minp minM mUp mcar mcam mahd magn mltr mbeg mcmd mcmM mpl msz mwr mlin mliM) sz)) (q_X11_outputAt g q0 q1 q2 q3 q4 q5 q6 q7 q8 q9 q10 q11 q12 mm masd msav misS mpst mchg merr mfai mthr minp minM mUp mcar mcam mahd magn mltr mbeg mcmd mcmM mpl msz mwr mlin mliM o (va_A (wModel g q0 q1 q2 q3 q4 q5 q6 q7 q8 q9 q10 q11 q12 mm masd msav misS mpst mchg merr mfai mthr minp minM mUp mcar mcam mahd magn mltr mbeg mcmd mcmM mpl msz mwr mlin mliM) sz)) 0 0 (va_A (wModel g q0 q1 q2 q3 q4 q5 q6 q7 q8 q9 q10 q11 q12 mm masd msav misS mpst mchg merr mfai mthr minp minM mUp mcar mcam mahd magn mltr mbeg mcmd mcmM mpl msz mwr mlin mliM) sz) := by
  refine Met.ofW (cc := cX11_outputAt) (maxL := 2) (ret := (some .char)) (by decide) rfl ?_
  intro p e s m args below meth c s₁ B hml hv
  obtain ⟨rfl, rfl, hP, hK, hD0, hB⟩ := hv
  have hx := B.exec
  have hb := B.bytes
  have hr := B.returns
  have hts : ∀ w ∈ wU, w.before _ s = true := fun w h => atoms_spec (ws := w_X11_outputAt) B.pre w (List.mem_cons_of_mem _ h)
  have hown : s.vm.findClass RX11 = some m.cls := findClass_of_methodNamed B.named
  have hlocks := B.notSynchronized
  have hD := hD0.self (sz := s.heap.size)
  generalize hAe : va_A (wModel g q0 q1 q2 q3 q4 q5 q6 q7 q8 q9 q10 q11 q12 mm masd msav misS mpst mchg merr mfai mthr minp minM mUp mcar mcam mahd magn mltr mbeg mcmd mcmM mpl msz mwr mlin mliM) s.heap.size = A at hD hB ⊢
  have hA : ∀ q : Nat, s.heap.size ≤ q → A q := fun q h => by rw [← hAe]; exact Or.inr h
  have hS : va_S A s.heap s.heap [] := va_S.rf
  have hl := lv_entry ([.ref q0, .int p1]) (n := 2) (Nat.le_of_ble_eq_true rfl)
  rw [lg_entry_eq]
  generalize (lg_sl ([.ref q0, .int p1]) ++ List.replicate (2 - (lg_sl ([.ref q0, .int p1])).length) Slot.unset).toArray = ls at hl ⊢
  have hl : lv_has ls 2 [(0, .ref q0), (1, .int p1)] := hl
  unfold F_X11_outputAt at hF
  refine lv_aload_n hx hb dX11_outputAt_0 rfl (lv_at hl 0 rfl) ?_
  refine lv_iconst (v := 0) hx hb dX11_outputAt_1 (by decide) ?_
  refine va_put (D := gD g) (ci := 7) (v := .int 0) (ty := .int) (C := RX11) (T := TX11) (N := 25) hx hb hts inX11 tyX11 tyX11_ok nmX11 hown hK hP hD hS 0 rfl rfl 8 (by decide) (hts _ mU_1252) (fun _ h9 => h9) rfl (by decide +kernel) rfl rfl (Nat.le_of_ble_eq_true rfl) dX11_outputAt_2 (fun H locs hP hD hS => ?_)
  have hP : va_P (gD g) zCl (wModel g q0 q1 q2 q3 q4 q5 q6 q7 q8 q9 q10 q11 q12 mm masd msav misS mpst mchg merr mfai 0 minp minM mUp mcar mcam mahd magn mltr mbeg mcmd mcmM mpl msz mwr mlin mliM) H := hP
  have hD : va_D A (wModel g q0 q1 q2 q3 q4 q5 q6 q7 q8 q9 q10 q11 q12 mm masd msav misS mpst mchg merr mfai 0 minp minM mUp mcar mcam mahd magn mltr mbeg mcmd mcmM mpl msz mwr mlin mliM) := hD
  refine lv_iload_n hx hb dX11_outputAt_5 rfl (lv_at hl 1 rfl) ?_
  refine lv_i2l (v := (Int32.toInt64 p1)) hx hb dX11_outputAt_6 rfl ?_
  refine lv_lconst (v := 0) hx hb dX11_outputAt_7 (by decide) ?_
  refine lv_aload_n hx hb dX11_outputAt_8 rfl (lv_at hl 0 rfl) ?_
  refine va_get (D := gD g) (ci := 7) (v := .int mliM) (C := RX11) (T := TX11) (N := 25) hx hb hts inX11 hown hK hP 0 rfl rfl 24 (by decide) (hts _ mU_1268) (fun _ h9 => h9) rfl dX11_outputAt_9 ?_
  refine lv_iconst (v := 1) hx hb dX11_outputAt_12 (by decide) ?_
  refine lv_isub hx hb dX11_outputAt_13 ?_
  refine lv_i2l (v := (Int32.toInt64 (mliM - 1))) hx hb dX11_outputAt_14 rfl ?_
  obtain ⟨zo1, hzo1, hF⟩ := z_bind hF
  refine z_calli (fun (_ : Unit) => []) [] (va_runS (As := [.long (Int32.toInt64 p1), .long 0, .long (Int32.toInt64 (mliM - 1))]) (rest := []) ⟨hx, hb, hml, hown, hts⟩ (c_X11_in l g _ (Int32.toInt64 p1) 0 (Int32.toInt64 (mliM - 1)) _ hzo1) (va_cwS 3 hts (gdS mU_1341 mU_1342 mU_75 mU_1343) rfl rfl rfl (by decide +kernel) ⟨Nat.le_of_ble_eq_true rfl, Nat.le_of_ble_eq_true rfl⟩) ⟨z_blind _ _ _ _, fun U hU hW => z_pre [] hP hD hK hB hS hA rfl rfl hU hW⟩ rfl rfl hl.1 rfl (lv_room (Nat.le_of_ble_eq_true rfl)) dX11_outputAt_15 ⟨Nat.le_of_ble_eq_true rfl, Nat.le_of_ble_eq_true rfl⟩) hP hD hS hA rfl (fun _ => rfl) (fun r u H locs hw hP hD hS => ?_)
  subst hw
  have hP : va_P (gD g) zCl (wModel g q0 q1 q2 q3 q4 q5 q6 q7 q8 q9 q10 q11 q12 mm masd msav misS mpst mchg merr mfai 0 minp minM mUp mcar mcam mahd magn mltr mbeg mcmd mcmM mpl msz mwr mlin mliM) H := hP
  have hD : va_D A (wModel g q0 q1 q2 q3 q4 q5 q6 q7 q8 q9 q10 q11 q12 mm masd msav misS mpst mchg merr mfai 0 minp minM mUp mcar mcam mahd magn mltr mbeg mcmd mcmM mpl msz mwr mlin mliM) := hD
  refine lv_if_eq (tgt := 31) hx hb dX11_outputAt_18 (by decide) (fun zc2 => ?_) (fun zc2 => ?_)
  · have hF := z_pos hF zc2
    refine lv_aload_n hx hb dX11_outputAt_31 rfl (lv_at hl 0 rfl) ?_
    refine lv_iconst (v := 1) hx hb dX11_outputAt_32 (by decide) ?_
    obtain ⟨zo3, hzo3, hF⟩ := z_bind hF
    refine z_calliE (fun (u : Int32) => (wModel g q0 q1 q2 q3 q4 q5 q6 q7 q8 q9 q10 q11 q12 mm masd msav misS mpst mchg merr mfai u minp minM mUp mcar mcam mahd magn mltr mbeg mcmd mcmM mpl msz mwr mlin mliM)) (va_runV (As := [.int 1]) (rest := []) ⟨hx, hb, hml, hown, hts⟩ (c_X11_throwing l g q0 q1 q2 q3 q4 q5 q6 q7 q8 q9 q10 q11 q12 mm masd msav misS mpst mchg merr mfai 0 minp minM mUp mcar mcam mahd magn mltr mbeg mcmd mcmM mpl msz mwr mlin mliM _ 1 _ hzo3) (cwV 1 hts (gdV mU_1352 mU_1354 mU_31 mU_75 mU_1355) rfl rfl rfl (by decide +kernel) ⟨Nat.le_of_ble_eq_true rfl, Nat.le_of_ble_eq_true rfl⟩) ⟨z_blind _ _ _ _, va_recv hK hP (ci := 7) (q0 := 0) rfl rfl, fun U hU hW => z_preE hP hD hK hB hS hA hU hW⟩ rfl rfl hl.1 rfl (lv_room (Nat.le_of_ble_eq_true rfl)) dX11_outputAt_33 ⟨Nat.le_of_ble_eq_true rfl, Nat.le_of_ble_eq_true rfl⟩) hD hS hA (fun _ => rfl) (fun r u H locs hw hP hD hS => ?_)
    obtain ⟨rfl, rfl⟩ := hw
    have hP : va_P (gD g) zCl (wModel g q0 q1 q2 q3 q4 q5 q6 q7 q8 q9 q10 q11 q12 mm masd msav misS mpst mchg merr mfai zo3.2 minp minM mUp mcar mcam mahd magn mltr mbeg mcmd mcmM mpl msz mwr mlin mliM) H := hP
    have hD : va_D A (wModel g q0 q1 q2 q3 q4 q5 q6 q7 q8 q9 q10 q11 q12 mm masd msav misS mpst mchg merr mfai zo3.2 minp minM mUp mcar mcam mahd magn mltr mbeg mcmd mcmM mpl msz mwr mlin mliM) := hD
    refine lv_i2c (v := (zchar zo3.1)) hx hb dX11_outputAt_36 rfl ?_
    obtain ⟨zg4, hF⟩ := z_grd hF
    have ho := (Option.some.inj hF).symm
    exact W.zret (v := (zchar zo3.1)) hx hb hr (z_narc (Classical.not_not.mp zg4)).1 (fun t ht hW => ⟨⟨(zchar zo3.1), zo3.2, rfl, ⟨by rw [ho], by rw [ho]⟩, z_end ht hP⟩, hS.F ht⟩) hS.2.2 dX11_outputAt_37
  · have hF := z_neg hF zc2
    refine lv_aload_n hx hb dX11_outputAt_21 rfl (lv_at hl 0 rfl) ?_
    refine va_get (D := gD g) (ci := 7) (v := .ref q12) (C := RX11) (T := TX11) (N := 25) hx hb hts inX11 hown hK hP 0 rfl rfl 23 (by decide) (hts _ mU_1267) (fun _ h9 => h9) rfl dX11_outputAt_22 ?_
    refine lv_iload_n hx hb dX11_outputAt_25 rfl (lv_at hl 1 rfl) ?_
    obtain ⟨zg5, hF⟩ := z_grd hF
    refine va_iald hx hb hK hP 12 1 rfl rfl zg5 dX11_outputAt_26 ?_
    refine lv_i2c (v := (zchar (mlin (Int32.toNatClampNeg p1)))) hx hb dX11_outputAt_27 rfl ?_
    refine lv_goto (tgt := 37) hx hb dX11_outputAt_28 (by decide) ?_
    obtain ⟨zg6, hF⟩ := z_grd hF
    have ho := (Option.some.inj hF).symm
    exact W.zret (v := (zchar (mlin (Int32.toNatClampNeg p1)))) hx hb hr (z_narc (Classical.not_not.mp zg6)).1 (fun t ht hW => ⟨⟨(zchar (mlin (Int32.toNatClampNeg p1))), 0, rfl, ⟨by rw [ho], by rw [ho]⟩, z_end ht hP⟩, hS.F ht⟩) hS.2.2 dX11_outputAt_37
abbrev w_X11_undo : List Cond := .code yX11_undo cX11_undo 2 (some .int) :: wU
abbrev r_X11_undo : Room := { frames := 1, cells := 0, slots := 0, locals := 21 }
abbrev q_X11_undo (g : GG) (q0 q1 q2 q3 q4 q5 q6 q7 q8 q9 q10 q11 q12 : Nat) (mm : Nat → Int64) (masd : Nat → Int64) (msav : Nat → Int64) (misS : Int32) (mpst : Nat → Int64) (mchg : Int32) (merr : Int32) (mfai : Int32) (mthr : Int32) (minp : Nat → Int32) (minM : Int32) (mUp : Nat → Int32) (mcar : Nat → Int32) (mcam : Nat → Int32) (mahd : Int32) (magn : Int32) (mltr : Nat → Int32) (mbeg : Nat → Int32) (mcmd : Nat → Int32) (mcmM : Int32) (mpl : Int32) (msz : Int32) (mwr : Int32) (mlin : Nat → Int32) (mliM : Int32) (o : Int32 × (Nat → Int64) × Int32 × Int32) (A : Nat → Prop) := va_Qi (fun (r : Int32) (u : (Nat → Int64) × Int32 × Int32) => o.1 = r ∧ o.2 = u) (fun u t => va_P (gD g) zCl (wModel g q0 q1 q2 q3 q4 q5 q6 q7 q8 q9 q10 q11 q12 u.1 masd msav misS mpst u.2.1 merr mfai u.2.2 minp minM mUp mcar mcam mahd magn mltr mbeg mcmd mcmM mpl msz mwr mlin mliM) t.heap) A
set_option maxHeartbeats 4000000 in
set_option maxRecDepth 100000 in
theorem c_X11_undo (l : Launch) (g : GG) (q0 q1 q2 q3 q4 q5 q6 q7 q8 q9 q10 q11 q12 : Nat) (mm : Nat → Int64) (masd : Nat → Int64) (msav : Nat → Int64) (misS : Int32) (mpst : Nat → Int64) (mchg : Int32) (merr : Int32) (mfai : Int32) (mthr : Int32) (minp : Nat → Int32) (minM : Int32) (mUp : Nat → Int32) (mcar : Nat → Int32) (mcam : Nat → Int32) (mahd : Int32) (magn : Int32) (mltr : Nat → Int32) (mbeg : Nat → Int32) (mcmd : Nat → Int32) (mcmM : Int32) (mpl : Int32) (msz : Int32) (mwr : Int32) (mlin : Nat → Int32) (mliM : Int32) (sz : Nat) (fu : Nat) (o : Int32 × (Nat → Int64) × Int32 × Int32) (hF : F_X11_undo fu mm mpst mchg mthr = some o) : Met l yX11_undo w_X11_undo r_X11_undo (va_Pc [.ref q0] (zP g (wModel g q0 q1 q2 q3 q4 q5 q6 q7 q8 q9 q10 q11 q12 mm masd msav misS mpst mchg merr mfai mthr minp minM mUp mcar mcam mahd magn mltr mbeg mcmd mcmM mpl msz mwr mlin mliM) sz)) (q_X11_undo g q0 q1 q2 q3 q4 q5 q6 q7 q8 q9 q10 q11 q12 mm masd msav misS mpst mchg merr mfai mthr minp minM mUp mcar mcam mahd magn mltr mbeg mcmd mcmM mpl msz mwr mlin mliM o (va_A (wModel g q0 q1 q2 q3 q4 q5 q6 q7 q8 q9 q10 q11 q12 mm masd msav misS mpst mchg merr mfai mthr minp minM mUp mcar mcam mahd magn mltr mbeg mcmd mcmM mpl msz mwr mlin mliM) sz)) 0 0 (va_A (wModel g q0 q1 q2 q3 q4 q5 q6 q7 q8 q9 q10 q11 q12 mm masd msav misS mpst mchg merr mfai mthr minp minM mUp mcar mcam mahd magn mltr mbeg mcmd mcmM mpl msz mwr mlin mliM) sz) := by
  refine Met.ofW (cc := cX11_undo) (maxL := 2) (ret := (some .int)) (by decide) rfl ?_
  intro p e s m args below meth c s₁ B hml hv
  obtain ⟨rfl, rfl, hP, hK, hD0, hB⟩ := hv
  have hx := B.exec
  have hb := B.bytes
  have hr := B.returns
  have hts : ∀ w ∈ wU, w.before _ s = true := fun w h => atoms_spec (ws := w_X11_undo) B.pre w (List.mem_cons_of_mem _ h)
  have hown : s.vm.findClass RX11 = some m.cls := findClass_of_methodNamed B.named
  have hlocks := B.notSynchronized
  have hD := hD0.self (sz := s.heap.size)
  generalize hAe : va_A (wModel g q0 q1 q2 q3 q4 q5 q6 q7 q8 q9 q10 q11 q12 mm masd msav misS mpst mchg merr mfai mthr minp minM mUp mcar mcam mahd magn mltr mbeg mcmd mcmM mpl msz mwr mlin mliM) s.heap.size = A at hD hB ⊢
  have hA : ∀ q : Nat, s.heap.size ≤ q → A q := fun q h => by rw [← hAe]; exact Or.inr h
  have hS : va_S A s.heap s.heap [] := va_S.rf
  have hl := lv_entry ([.ref q0]) (n := 2) (Nat.le_of_ble_eq_true rfl)
  rw [lg_entry_eq]
  generalize (lg_sl ([.ref q0]) ++ List.replicate (2 - (lg_sl ([.ref q0])).length) Slot.unset).toArray = ls at hl ⊢
  have hl : lv_has ls 2 [(0, .ref q0)] := hl
  unfold F_X11_undo at hF
  have K30 : ∀ (n30 : Nat) (mm : Nat → Int64) (mchg : Int32) (mthr : Int32) (x1 : Int32), F_X11_undo_30 fu n30 mm mpst mchg mthr x1 = some o → ∀ (H : Heap) (locs : List Loc) (ls : Array Slot), lv_has ls 2 [(0, .ref q0), (1, .int x1)] → va_P (gD g) zCl (wModel g q0 q1 q2 q3 q4 q5 q6 q7 q8 q9 q10 q11 q12 mm masd msav misS mpst mchg merr mfai mthr minp minM mUp mcar mcam mahd magn mltr mbeg mcmd mcmM mpl msz mwr mlin mliM) H → va_D A (wModel g q0 q1 q2 q3 q4 q5 q6 q7 q8 q9 q10 q11 q12 mm masd msav misS mpst mchg merr mfai mthr minp minM mUp mcar mcam mahd magn mltr mbeg mcmd mcmM mpl msz mwr mlin mliM) → va_S A s.heap H locs → W p l e (headSpec w_X11_undo r_X11_undo).room s m ([.ref q0] : List Value).toArray below meth c H locs 0 0 (MQ below (q_X11_undo g q0 q1 q2 q3 q4 q5 q6 q7 q8 q9 q10 q11 q12 mm masd msav misS mpst mchg merr mfai mthr minp minM mUp mcar mcam mahd magn mltr mbeg mcmd mcmM mpl msz mwr mlin mliM o A) ([.ref q0] : List Value).toArray s 0 0 A) (F0 m 30 ls []) := by
    intro n30
    induction n30 with
    | zero =>
      intro mm mchg mthr x1 hF
      exact absurd hF (by simp [F_X11_undo_30])
    | succ n30 ih30 =>
      intro mm mchg mthr x1 hF H locs ls hl hP hD hS
      unfold F_X11_undo_30 at hF
      refine lv_iload_n hx hb dX11_undo_30 rfl (lv_at hl 1 rfl) ?_
      refine lv_bipush (v := 28) hx hb dX11_undo_31 (by decide) ?_
      refine lv_icmp_ge (tgt := 62) hx hb dX11_undo_33 (by decide) (fun zc1 => ?_) (fun zc1 => ?_)
      · have hF := z_pos hF zc1
        refine lv_aload_n hx hb dX11_undo_62 rfl (lv_at hl 0 rfl) ?_
        refine va_get (D := gD g) (ci := 7) (v := .int mchg) (C := RX11) (T := TX11) (N := 25) hx hb hts inX11 hown hK hP 0 rfl rfl 5 (by decide) (hts _ mU_1249) (fun _ h9 => h9) rfl dX11_undo_63 ?_
        have ho := (Option.some.inj hF).symm
        exact W.iret (v := mchg) hx hb hr (fun t ht hW => ⟨⟨mchg, (mm, mchg, mthr), rfl, ⟨by rw [ho], by rw [ho]⟩, z_end ht hP⟩, hS.F ht⟩) hS.2.2 dX11_undo_66
      · have hF := z_neg hF zc1
        refine lv_aload_n hx hb dX11_undo_36 rfl (lv_at hl 0 rfl) ?_
        refine va_get (D := gD g) (ci := 7) (v := .ref q1) (C := RX11) (T := TX11) (N := 25) hx hb hts inX11 hown hK hP 0 rfl rfl 0 (by decide) (hts _ mU_1244) (fun _ h9 => h9) rfl dX11_undo_37 ?_
        refine lv_iload_n hx hb dX11_undo_40 rfl (lv_at hl 1 rfl) ?_
        refine lv_aload_n hx hb dX11_undo_41 rfl (lv_at hl 0 rfl) ?_
        refine va_get (D := gD g) (ci := 7) (v := .ref q4) (C := RX11) (T := TX11) (N := 25) hx hb hts inX11 hown hK hP 0 rfl rfl 4 (by decide) (hts _ mU_1248) (fun _ h9 => h9) rfl dX11_undo_42 ?_
        refine lv_bipush (v := 28) hx hb dX11_undo_45 (by decide) ?_
        refine lv_aload_n hx hb dX11_undo_47 rfl (lv_at hl 0 rfl) ?_
        refine va_get (D := gD g) (ci := 7) (v := .int mchg) (C := RX11) (T := TX11) (N := 25) hx hb hts inX11 hown hK hP 0 rfl rfl 5 (by decide) (hts _ mU_1249) (fun _ h9 => h9) rfl dX11_undo_48 ?_
        refine lv_imul hx hb dX11_undo_51 ?_
        refine lv_iload_n hx hb dX11_undo_52 rfl (lv_at hl 1 rfl) ?_
        refine lv_iadd hx hb dX11_undo_53 ?_
        obtain ⟨zg2, hF⟩ := z_grd hF
        refine va_lald hx hb hK hP 4 2 rfl rfl zg2 dX11_undo_54 ?_
        obtain ⟨zg3, hF⟩ := z_grd hF
        refine va_last hx hb hK hP hD hS 1 2 rfl rfl zg3 dX11_undo_55 (fun H locs hP hD hS => ?_)
        have hP : va_P (gD g) zCl (wModel g q0 q1 q2 q3 q4 q5 q6 q7 q8 q9 q10 q11 q12 (vp_updL mm (Int32.toNatClampNeg x1) (mpst (Int32.toNatClampNeg ((28 * mchg) + x1)))) masd msav misS mpst mchg merr mfai mthr minp minM mUp mcar mcam mahd magn mltr mbeg mcmd mcmM mpl msz mwr mlin mliM) H := hP
        have hD : va_D A (wModel g q0 q1 q2 q3 q4 q5 q6 q7 q8 q9 q10 q11 q12 (vp_updL mm (Int32.toNatClampNeg x1) (mpst (Int32.toNatClampNeg ((28 * mchg) + x1)))) masd msav misS mpst mchg merr mfai mthr minp minM mUp mcar mcam mahd magn mltr mbeg mcmd mcmM mpl msz mwr mlin mliM) := hD
        obtain ⟨zv4, ezv4, hF⟩ := z_let hF
        refine lv_iinc (v := zv4) (lv' := [(1, .int zv4), (0, .ref q0)]) hx hb dX11_undo_56 hl (k := 1) rfl (by rw [ezv4]; rfl) (by decide) rfl (fun ls hl => ?_)
        refine lv_goto (tgt := 30) hx hb dX11_undo_59 (by decide) ?_
        exact ih30 (vp_updL mm (Int32.toNatClampNeg x1) (mpst (Int32.toNatClampNeg ((28 * mchg) + x1)))) mchg mthr zv4 hF _ _ _ (lv_sub hl [1, 0] rfl) hP hD hS
  refine lv_aload_n hx hb dX11_undo_0 rfl (lv_at hl 0 rfl) ?_
  refine lv_iconst (v := 0) hx hb dX11_undo_1 (by decide) ?_
  refine va_put (D := gD g) (ci := 7) (v := .int 0) (ty := .int) (C := RX11) (T := TX11) (N := 25) hx hb hts inX11 tyX11 tyX11_ok nmX11 hown hK hP hD hS 0 rfl rfl 8 (by decide) (hts _ mU_1252) (fun _ h9 => h9) rfl (by decide +kernel) rfl rfl (Nat.le_of_ble_eq_true rfl) dX11_undo_2 (fun H locs hP hD hS => ?_)
  have hP : va_P (gD g) zCl (wModel g q0 q1 q2 q3 q4 q5 q6 q7 q8 q9 q10 q11 q12 mm masd msav misS mpst mchg merr mfai 0 minp minM mUp mcar mcam mahd magn mltr mbeg mcmd mcmM mpl msz mwr mlin mliM) H := hP
  have hD : va_D A (wModel g q0 q1 q2 q3 q4 q5 q6 q7 q8 q9 q10 q11 q12 mm masd msav misS mpst mchg merr mfai 0 minp minM mUp mcar mcam mahd magn mltr mbeg mcmd mcmM mpl msz mwr mlin mliM) := hD
  refine lv_aload_n hx hb dX11_undo_5 rfl (lv_at hl 0 rfl) ?_
  refine va_get (D := gD g) (ci := 7) (v := .int mchg) (C := RX11) (T := TX11) (N := 25) hx hb hts inX11 hown hK hP 0 rfl rfl 5 (by decide) (hts _ mU_1249) (fun _ h9 => h9) rfl dX11_undo_6 ?_
  refine lv_if_ne (tgt := 18) hx hb dX11_undo_9 (by decide) (fun zc5 => ?_) (fun zc5 => ?_)
  · have hF := z_neg hF zc5
    refine lv_aload_n hx hb dX11_undo_18 rfl (lv_at hl 0 rfl) ?_
    refine lv_dup hx hb dX11_undo_19 rfl ?_
    refine va_get (D := gD g) (ci := 7) (v := .int mchg) (C := RX11) (T := TX11) (N := 25) hx hb hts inX11 hown hK hP 0 rfl rfl 5 (by decide) (hts _ mU_1249) (fun _ h9 => h9) rfl dX11_undo_20 ?_
    refine lv_iconst (v := 1) hx hb dX11_undo_23 (by decide) ?_
    refine lv_isub hx hb dX11_undo_24 ?_
    refine va_put (D := gD g) (ci := 7) (v := .int (mchg - 1)) (ty := .int) (C := RX11) (T := TX11) (N := 25) hx hb hts inX11 tyX11 tyX11_ok nmX11 hown hK hP hD hS 0 rfl rfl 5 (by decide) (hts _ mU_1249) (fun _ h9 => h9) rfl (by decide +kernel) rfl rfl (Nat.le_of_ble_eq_true rfl) dX11_undo_25 (fun H locs hP hD hS => ?_)
    have hP : va_P (gD g) zCl (wModel g q0 q1 q2 q3 q4 q5 q6 q7 q8 q9 q10 q11 q12 mm masd msav misS mpst (mchg - 1) merr mfai 0 minp minM mUp mcar mcam mahd magn mltr mbeg mcmd mcmM mpl msz mwr mlin mliM) H := hP
    have hD : va_D A (wModel g q0 q1 q2 q3 q4 q5 q6 q7 q8 q9 q10 q11 q12 mm masd msav misS mpst (mchg - 1) merr mfai 0 minp minM mUp mcar mcam mahd magn mltr mbeg mcmd mcmM mpl msz mwr mlin mliM) := hD
    refine lv_iconst (v := 0) hx hb dX11_undo_28 (by decide) ?_
    refine lv_istore_n (lv' := [(1, .int 0), (0, .ref q0)]) hx hb dX11_undo_29 rfl hl (by decide) rfl (fun ls hl => ?_)
    exact K30 fu mm (mchg - 1) 0 0 hF _ _ _ (lv_sub hl [1, 0] rfl) hP hD hS
  · have hF := z_pos hF zc5
    refine lv_aload_n hx hb dX11_undo_12 rfl (lv_at hl 0 rfl) ?_
    refine lv_iconst (v := 1) hx hb dX11_undo_13 (by decide) ?_
    obtain ⟨zo6, hzo6, hF⟩ := z_bind hF
    refine z_calliE (fun (u : Int32) => (wModel g q0 q1 q2 q3 q4 q5 q6 q7 q8 q9 q10 q11 q12 mm masd msav misS mpst mchg merr mfai u minp minM mUp mcar mcam mahd magn mltr mbeg mcmd mcmM mpl msz mwr mlin mliM)) (va_runV (As := [.int 1]) (rest := []) ⟨hx, hb, hml, hown, hts⟩ (c_X11_throwing l g q0 q1 q2 q3 q4 q5 q6 q7 q8 q9 q10 q11 q12 mm masd msav misS mpst mchg merr mfai 0 minp minM mUp mcar mcam mahd magn mltr mbeg mcmd mcmM mpl msz mwr mlin mliM _ 1 _ hzo6) (cwV 1 hts (gdV mU_1352 mU_1354 mU_31 mU_75 mU_1355) rfl rfl rfl (by decide +kernel) ⟨Nat.le_of_ble_eq_true rfl, Nat.le_of_ble_eq_true rfl⟩) ⟨z_blind _ _ _ _, va_recv hK hP (ci := 7) (q0 := 0) rfl rfl, fun U hU hW => z_preE hP hD hK hB hS hA hU hW⟩ rfl rfl hl.1 rfl (lv_room (Nat.le_of_ble_eq_true rfl)) dX11_undo_14 ⟨Nat.le_of_ble_eq_true rfl, Nat.le_of_ble_eq_true rfl⟩) hD hS hA (fun _ => rfl) (fun r u H locs hw hP hD hS => ?_)
    obtain ⟨rfl, rfl⟩ := hw
    have hP : va_P (gD g) zCl (wModel g q0 q1 q2 q3 q4 q5 q6 q7 q8 q9 q10 q11 q12 mm masd msav misS mpst mchg merr mfai zo6.2 minp minM mUp mcar mcam mahd magn mltr mbeg mcmd mcmM mpl msz mwr mlin mliM) H := hP
    have hD : va_D A (wModel g q0 q1 q2 q3 q4 q5 q6 q7 q8 q9 q10 q11 q12 mm masd msav misS mpst mchg merr mfai zo6.2 minp minM mUp mcar mcam mahd magn mltr mbeg mcmd mcmM mpl msz mwr mlin mliM) := hD
    have ho := (Option.some.inj hF).symm
    exact W.iret (v := zo6.1) hx hb hr (fun t ht hW => ⟨⟨zo6.1, (mm, mchg, zo6.2), rfl, ⟨by rw [ho], by rw [ho]⟩, z_end ht hP⟩, hS.F ht⟩) hS.2.2 dX11_undo_17
abbrev w_X11_save : List Cond := .code yX11_save cX11_save 2 none :: wU
abbrev r_X11_save : Room := { frames := 0, cells := 0, slots := 0, locals := 0 }
abbrev q_X11_save (g : GG) (q0 q1 q2 q3 q4 q5 q6 q7 q8 q9 q10 q11 q12 : Nat) (mm : Nat → Int64) (masd : Nat → Int64) (msav : Nat → Int64) (misS : Int32) (mpst : Nat → Int64) (mchg : Int32) (merr : Int32) (mfai : Int32) (mthr : Int32) (minp : Nat → Int32) (minM : Int32) (mUp : Nat → Int32) (mcar : Nat → Int32) (mcam : Nat → Int32) (mahd : Int32) (magn : Int32) (mltr : Nat → Int32) (mbeg : Nat → Int32) (mcmd : Nat → Int32) (mcmM : Int32) (mpl : Int32) (msz : Int32) (mwr : Int32) (mlin : Nat → Int32) (mliM : Int32) (o : (Nat → Int64) × Int32 × Int32) (A : Nat → Prop) := va_Qv (fun (u : (Nat → Int64) × Int32 × Int32) => o = u) (fun u t => va_P (gD g) zCl (wModel g q0 q1 q2 q3 q4 q5 q6 q7 q8 q9 q10 q11 q12 mm masd u.1 u.2.1 mpst mchg merr mfai u.2.2 minp minM mUp mcar mcam mahd magn mltr mbeg mcmd mcmM mpl msz mwr mlin mliM) t.heap) A
set_option maxHeartbeats 4000000 in
set_option maxRecDepth 100000 in
theorem c_X11_save (l : Launch) (g : GG) (q0 q1 q2 q3 q4 q5 q6 q7 q8 q9 q10 q11 q12 : Nat) (mm : Nat → Int64) (masd : Nat → Int64) (msav : Nat → Int64) (misS : Int32) (mpst : Nat → Int64) (mchg : Int32) (merr : Int32) (mfai : Int32) (mthr : Int32) (minp : Nat → Int32) (minM : Int32) (mUp : Nat → Int32) (mcar : Nat → Int32) (mcam : Nat → Int32) (mahd : Int32) (magn : Int32) (mltr : Nat → Int32) (mbeg : Nat → Int32) (mcmd : Nat → Int32) (mcmM : Int32) (mpl : Int32) (msz : Int32) (mwr : Int32) (mlin : Nat → Int32) (mliM : Int32) (sz : Nat) (fu : Nat) (o : (Nat → Int64) × Int32 × Int32) (hF : F_X11_save fu mm msav misS mthr = some o) : Met l yX11_save w_X11_save r_X11_save (va_Pc [.ref q0] (zP g (wModel g q0 q1 q2 q3 q4 q5 q6 q7 q8 q9 q10 q11 q12 mm masd msav misS mpst mchg merr mfai mthr minp minM mUp mcar mcam mahd magn mltr mbeg mcmd mcmM mpl msz mwr mlin mliM) sz)) (q_X11_save g q0 q1 q2 q3 q4 q5 q6 q7 q8 q9 q10 q11 q12 mm masd msav misS mpst mchg merr mfai mthr minp minM mUp mcar mcam mahd magn mltr mbeg mcmd mcmM mpl msz mwr mlin mliM o (va_A (wModel g q0 q1 q2 q3 q4 q5 q6 q7 q8 q9 q10 q11 q12 mm masd msav misS mpst mchg merr mfai mthr minp minM mUp mcar mcam mahd magn mltr mbeg mcmd mcmM mpl msz mwr mlin mliM) sz)) 0 0 (va_A (wModel g q0 q1 q2 q3 q4 q5 q6 q7 q8 q9 q10 q11 q12 mm masd msav misS mpst mchg merr mfai mthr minp minM mUp mcar mcam mahd magn mltr mbeg mcmd mcmM mpl msz mwr mlin mliM) sz) := by
  refine Met.ofW (cc := cX11_save) (maxL := 2) (ret := none) (by decide) rfl ?_
  intro p e s m args below meth c s₁ B hml hv
  obtain ⟨rfl, rfl, hP, hK, hD0, hB⟩ := hv
  have hx := B.exec
  have hb := B.bytes
  have hr := B.returns
  have hts : ∀ w ∈ wU, w.before _ s = true := fun w h => atoms_spec (ws := w_X11_save) B.pre w (List.mem_cons_of_mem _ h)
  have hown : s.vm.findClass RX11 = some m.cls := findClass_of_methodNamed B.named
  have hlocks := B.notSynchronized
  have hD := hD0.self (sz := s.heap.size)
  generalize hAe : va_A (wModel g q0 q1 q2 q3 q4 q5 q6 q7 q8 q9 q10 q11 q12 mm masd msav misS mpst mchg merr mfai mthr minp minM mUp mcar mcam mahd magn mltr mbeg mcmd mcmM mpl msz mwr mlin mliM) s.heap.size = A at hD hB ⊢
  have hA : ∀ q : Nat, s.heap.size ≤ q → A q := fun q h => by rw [← hAe]; exact Or.inr h
  have hS : va_S A s.heap s.heap [] := va_S.rf
  have hl := lv_entry ([.ref q0]) (n := 2) (Nat.le_of_ble_eq_true rfl)
  rw [lg_entry_eq]
  generalize (lg_sl ([.ref q0]) ++ List.replicate (2 - (lg_sl ([.ref q0])).length) Slot.unset).toArray = ls at hl ⊢
  have hl : lv_has ls 2 [(0, .ref q0)] := hl
  unfold F_X11_save at hF
  have K7 : ∀ (n7 : Nat) (msav : Nat → Int64) (misS : Int32) (mthr : Int32) (x1 : Int32), F_X11_save_7 fu n7 mm msav misS mthr x1 = some o → ∀ (H : Heap) (locs : List Loc) (ls : Array Slot), lv_has ls 2 [(0, .ref q0), (1, .int x1)] → va_P (gD g) zCl (wModel g q0 q1 q2 q3 q4 q5 q6 q7 q8 q9 q10 q11 q12 mm masd msav misS mpst mchg merr mfai mthr minp minM mUp mcar mcam mahd magn mltr mbeg mcmd mcmM mpl msz mwr mlin mliM) H → va_D A (wModel g q0 q1 q2 q3 q4 q5 q6 q7 q8 q9 q10 q11 q12 mm masd msav misS mpst mchg merr mfai mthr minp minM mUp mcar mcam mahd magn mltr mbeg mcmd mcmM mpl msz mwr mlin mliM) → va_S A s.heap H locs → W p l e (headSpec w_X11_save r_X11_save).room s m ([.ref q0] : List Value).toArray below meth c H locs 0 0 (MQ below (q_X11_save g q0 q1 q2 q3 q4 q5 q6 q7 q8 q9 q10 q11 q12 mm masd msav misS mpst mchg merr mfai mthr minp minM mUp mcar mcam mahd magn mltr mbeg mcmd mcmM mpl msz mwr mlin mliM o A) ([.ref q0] : List Value).toArray s 0 0 A) (F0 m 7 ls []) := by
    intro n7
    induction n7 with
    | zero =>
      intro msav misS mthr x1 hF
      exact absurd hF (by simp [F_X11_save_7])
    | succ n7 ih7 =>
      intro msav misS mthr x1 hF H locs ls hl hP hD hS
      unfold F_X11_save_7 at hF
      refine lv_iload_n hx hb dX11_save_7 rfl (lv_at hl 1 rfl) ?_
      refine lv_bipush (v := 28) hx hb dX11_save_8 (by decide) ?_
      refine lv_icmp_ge (tgt := 31) hx hb dX11_save_10 (by decide) (fun zc1 => ?_) (fun zc1 => ?_)
      · have hF := z_pos hF zc1
        refine lv_aload_n hx hb dX11_save_31 rfl (lv_at hl 0 rfl) ?_
        refine lv_iconst (v := 1) hx hb dX11_save_32 (by decide) ?_
        refine va_put (D := gD g) (ci := 7) (v := .int 1) (ty := .boolean) (C := RX11) (T := TX11) (N := 25) hx hb hts inX11 tyX11 tyX11_ok nmX11 hown hK hP hD hS 0 rfl rfl 3 (by decide) (hts _ mU_1247) (fun _ h9 => h9) rfl (by decide +kernel) rfl rfl (Nat.le_of_ble_eq_true rfl) dX11_save_33 (fun H locs hP hD hS => ?_)
        have hP : va_P (gD g) zCl (wModel g q0 q1 q2 q3 q4 q5 q6 q7 q8 q9 q10 q11 q12 mm masd msav 1 mpst mchg merr mfai mthr minp minM mUp mcar mcam mahd magn mltr mbeg mcmd mcmM mpl msz mwr mlin mliM) H := hP
        have hD : va_D A (wModel g q0 q1 q2 q3 q4 q5 q6 q7 q8 q9 q10 q11 q12 mm masd msav 1 mpst mchg merr mfai mthr minp minM mUp mcar mcam mahd magn mltr mbeg mcmd mcmM mpl msz mwr mlin mliM) := hD
        have ho := (Option.some.inj hF).symm
        exact W.vret hx hb hr (fun t ht hW => ⟨⟨(msav, 1, mthr), rfl, ho, z_end ht hP⟩, hS.F ht⟩) hS.2.2 dX11_save_36
      · have hF := z_neg hF zc1
        refine lv_aload_n hx hb dX11_save_13 rfl (lv_at hl 0 rfl) ?_
        refine va_get (D := gD g) (ci := 7) (v := .ref q3) (C := RX11) (T := TX11) (N := 25) hx hb hts inX11 hown hK hP 0 rfl rfl 2 (by decide) (hts _ mU_1246) (fun _ h9 => h9) rfl dX11_save_14 ?_
        refine lv_iload_n hx hb dX11_save_17 rfl (lv_at hl 1 rfl) ?_
        refine lv_aload_n hx hb dX11_save_18 rfl (lv_at hl 0 rfl) ?_
        refine va_get (D := gD g) (ci := 7) (v := .ref q1) (C := RX11) (T := TX11) (N := 25) hx hb hts inX11 hown hK hP 0 rfl rfl 0 (by decide) (hts _ mU_1244) (fun _ h9 => h9) rfl dX11_save_19 ?_
        refine lv_iload_n hx hb dX11_save_22 rfl (lv_at hl 1 rfl) ?_
        obtain ⟨zg2, hF⟩ := z_grd hF
        refine va_lald hx hb hK hP 1 2 rfl rfl zg2 dX11_save_23 ?_
        obtain ⟨zg3, hF⟩ := z_grd hF
        refine va_last hx hb hK hP hD hS 3 2 rfl rfl zg3 dX11_save_24 (fun H locs hP hD hS => ?_)
        have hP : va_P (gD g) zCl (wModel g q0 q1 q2 q3 q4 q5 q6 q7 q8 q9 q10 q11 q12 mm masd (vp_updL msav (Int32.toNatClampNeg x1) (mm (Int32.toNatClampNeg x1))) misS mpst mchg merr mfai mthr minp minM mUp mcar mcam mahd magn mltr mbeg mcmd mcmM mpl msz mwr mlin mliM) H := hP
        have hD : va_D A (wModel g q0 q1 q2 q3 q4 q5 q6 q7 q8 q9 q10 q11 q12 mm masd (vp_updL msav (Int32.toNatClampNeg x1) (mm (Int32.toNatClampNeg x1))) misS mpst mchg merr mfai mthr minp minM mUp mcar mcam mahd magn mltr mbeg mcmd mcmM mpl msz mwr mlin mliM) := hD
        obtain ⟨zv4, ezv4, hF⟩ := z_let hF
        refine lv_iinc (v := zv4) (lv' := [(1, .int zv4), (0, .ref q0)]) hx hb dX11_save_25 hl (k := 1) rfl (by rw [ezv4]; rfl) (by decide) rfl (fun ls hl => ?_)
        refine lv_goto (tgt := 7) hx hb dX11_save_28 (by decide) ?_
        exact ih7 (vp_updL msav (Int32.toNatClampNeg x1) (mm (Int32.toNatClampNeg x1))) misS mthr zv4 hF _ _ _ (lv_sub hl [1, 0] rfl) hP hD hS
  refine lv_aload_n hx hb dX11_save_0 rfl (lv_at hl 0 rfl) ?_
  refine lv_iconst (v := 0) hx hb dX11_save_1 (by decide) ?_
  refine va_put (D := gD g) (ci := 7) (v := .int 0) (ty := .int) (C := RX11) (T := TX11) (N := 25) hx hb hts inX11 tyX11 tyX11_ok nmX11 hown hK hP hD hS 0 rfl rfl 8 (by decide) (hts _ mU_1252) (fun _ h9 => h9) rfl (by decide +kernel) rfl rfl (Nat.le_of_ble_eq_true rfl) dX11_save_2 (fun H locs hP hD hS => ?_)
  have hP : va_P (gD g) zCl (wModel g q0 q1 q2 q3 q4 q5 q6 q7 q8 q9 q10 q11 q12 mm masd msav misS mpst mchg merr mfai 0 minp minM mUp mcar mcam mahd magn mltr mbeg mcmd mcmM mpl msz mwr mlin mliM) H := hP
  have hD : va_D A (wModel g q0 q1 q2 q3 q4 q5 q6 q7 q8 q9 q10 q11 q12 mm masd msav misS mpst mchg merr mfai 0 minp minM mUp mcar mcam mahd magn mltr mbeg mcmd mcmM mpl msz mwr mlin mliM) := hD
  refine lv_iconst (v := 0) hx hb dX11_save_5 (by decide) ?_
  refine lv_istore_n (lv' := [(1, .int 0), (0, .ref q0)]) hx hb dX11_save_6 rfl hl (by decide) rfl (fun ls hl => ?_)
  exact K7 fu msav misS 0 0 hF _ _ _ (lv_sub hl [1, 0] rfl) hP hD hS
abbrev w_X11_restore : List Cond := .code yX11_restore cX11_restore 2 none :: wU
abbrev r_X11_restore : Room := { frames := 1, cells := 0, slots := 0, locals := 21 }
abbrev q_X11_restore (g : GG) (q0 q1 q2 q3 q4 q5 q6 q7 q8 q9 q10 q11 q12 : Nat) (mm : Nat → Int64) (masd : Nat → Int64) (msav : Nat → Int64) (misS : Int32) (mpst : Nat → Int64) (mchg : Int32) (merr : Int32) (mfai : Int32) (mthr : Int32) (minp : Nat → Int32) (minM : Int32) (mUp : Nat → Int32) (mcar : Nat → Int32) (mcam : Nat → Int32) (mahd : Int32) (magn : Int32) (mltr : Nat → Int32) (mbeg : Nat → Int32) (mcmd : Nat → Int32) (mcmM : Int32) (mpl : Int32) (msz : Int32) (mwr : Int32) (mlin : Nat → Int32) (mliM : Int32) (o : (Nat → Int64) × Int32 × Int32) (A : Nat → Prop) := va_Qv (fun (u : (Nat → Int64) × Int32 × Int32) => o = u) (fun u t => va_P (gD g) zCl (wModel g q0 q1 q2 q3 q4 q5 q6 q7 q8 q9 q10 q11 q12 u.1 masd msav misS mpst u.2.1 merr mfai u.2.2 minp minM mUp mcar mcam mahd magn mltr mbeg mcmd mcmM mpl msz mwr mlin mliM) t.heap) A
set_option maxHeartbeats 4000000 in
set_option maxRecDepth 100000 in
theorem c_X11_restore (l : Launch) (g : GG) (q0 q1 q2 q3 q4 q5 q6 q7 q8 q9 q10 q11 q12 : Nat) (mm : Nat → Int64) (masd : Nat → Int64) (msav : Nat → Int64) (misS : Int32) (mpst : Nat → Int64) (mchg : Int32) (merr : Int32) (mfai : Int32) (mthr : Int32) (minp : Nat → Int32) (minM : Int32) (mUp : Nat → Int32) (mcar : Nat → Int32) (mcam : Nat → Int32) (mahd : Int32) (magn : Int32) (mltr : Nat → Int32) (mbeg : Nat → Int32) (mcmd : Nat → Int32) (mcmM : Int32) (mpl : Int32) (msz : Int32) (mwr : Int32) (mlin : Nat → Int32) (mliM : Int32) (sz : Nat) (fu : Nat) (o : (Nat → Int64) × Int32 × Int32) (hF : F_X11_restore fu mm msav misS mchg mthr = some o) : Met l yX11_restore w_X11_restore r_X11_restore (va_Pc [.ref q0] (zP g (wModel g q0 q1 q2 q3 q4 q5 q6 q7 q8 q9 q10 q11 q12 mm masd msav misS mpst mchg merr mfai mthr minp minM mUp mcar mcam mahd magn mltr mbeg mcmd mcmM mpl msz mwr mlin mliM) sz)) (q_X11_restore g q0 q1 q2 q3 q4 q5 q6 q7 q8 q9 q10 q11 q12 mm masd msav misS mpst mchg merr mfai mthr minp minM mUp mcar mcam mahd magn mltr mbeg mcmd mcmM mpl msz mwr mlin mliM o (va_A (wModel g q0 q1 q2 q3 q4 q5 q6 q7 q8 q9 q10 q11 q12 mm masd msav misS mpst mchg merr mfai mthr minp minM mUp mcar mcam mahd magn mltr mbeg mcmd mcmM mpl msz mwr mlin mliM) sz)) 0 0 (va_A (wModel g q0 q1 q2 q3 q4 q5 q6 q7 q8 q9 q10 q11 q12 mm masd msav misS mpst mchg merr mfai mthr minp minM mUp mcar mcam mahd magn mltr mbeg mcmd mcmM mpl msz mwr mlin mliM) sz) := by
  refine Met.ofW (cc := cX11_restore) (maxL := 2) (ret := none) (by decide) rfl ?_
  intro p e s m args below meth c s₁ B hml hv
  obtain ⟨rfl, rfl, hP, hK, hD0, hB⟩ := hv
  have hx := B.exec
  have hb := B.bytes
  have hr := B.returns
  have hts : ∀ w ∈ wU, w.before _ s = true := fun w h => atoms_spec (ws := w_X11_restore) B.pre w (List.mem_cons_of_mem _ h)
  have hown : s.vm.findClass RX11 = some m.cls := findClass_of_methodNamed B.named
  have hlocks := B.notSynchronized
  have hD := hD0.self (sz := s.heap.size)
  generalize hAe : va_A (wModel g q0 q1 q2 q3 q4 q5 q6 q7 q8 q9 q10 q11 q12 mm masd msav misS mpst mchg merr mfai mthr minp minM mUp mcar mcam mahd magn mltr mbeg mcmd mcmM mpl msz mwr mlin mliM) s.heap.size = A at hD hB ⊢
  have hA : ∀ q : Nat, s.heap.size ≤ q → A q := fun q h => by rw [← hAe]; exact Or.inr h
  have hS : va_S A s.heap s.heap [] := va_S.rf
  have hl := lv_entry ([.ref q0]) (n := 2) (Nat.le_of_ble_eq_true rfl)
  rw [lg_entry_eq]
  generalize (lg_sl ([.ref q0]) ++ List.replicate (2 - (lg_sl ([.ref q0])).length) Slot.unset).toArray = ls at hl ⊢
  have hl : lv_has ls 2 [(0, .ref q0)] := hl
  unfold F_X11_restore at hF
  have K21 : ∀ (n21 : Nat) (mm : Nat → Int64) (mchg : Int32) (mthr : Int32) (x1 : Int32), F_X11_restore_21 fu n21 mm msav misS mchg mthr x1 = some o → ∀ (H : Heap) (locs : List Loc) (ls : Array Slot), lv_has ls 2 [(0, .ref q0), (1, .int x1)] → va_P (gD g) zCl (wModel g q0 q1 q2 q3 q4 q5 q6 q7 q8 q9 q10 q11 q12 mm masd msav misS mpst mchg merr mfai mthr minp minM mUp mcar mcam mahd magn mltr mbeg mcmd mcmM mpl msz mwr mlin mliM) H → va_D A (wModel g q0 q1 q2 q3 q4 q5 q6 q7 q8 q9 q10 q11 q12 mm masd msav misS mpst mchg merr mfai mthr minp minM mUp mcar mcam mahd magn mltr mbeg mcmd mcmM mpl msz mwr mlin mliM) → va_S A s.heap H locs → W p l e (headSpec w_X11_restore r_X11_restore).room s m ([.ref q0] : List Value).toArray below meth c H locs 0 0 (MQ below (q_X11_restore g q0 q1 q2 q3 q4 q5 q6 q7 q8 q9 q10 q11 q12 mm masd msav misS mpst mchg merr mfai mthr minp minM mUp mcar mcam mahd magn mltr mbeg mcmd mcmM mpl msz mwr mlin mliM o A) ([.ref q0] : List Value).toArray s 0 0 A) (F0 m 21 ls []) := by
    intro n21
    induction n21 with
    | zero =>
      intro mm mchg mthr x1 hF
      exact absurd hF (by simp [F_X11_restore_21])
    | succ n21 ih21 =>
      intro mm mchg mthr x1 hF H locs ls hl hP hD hS
      unfold F_X11_restore_21 at hF
      refine lv_iload_n hx hb dX11_restore_21 rfl (lv_at hl 1 rfl) ?_
      refine lv_bipush (v := 28) hx hb dX11_restore_22 (by decide) ?_
      refine lv_icmp_ge (tgt := 45) hx hb dX11_restore_24 (by decide) (fun zc1 => ?_) (fun zc1 => ?_)
      · have hF := z_pos hF zc1
        refine lv_aload_n hx hb dX11_restore_45 rfl (lv_at hl 0 rfl) ?_
        refine lv_iconst (v := 0) hx hb dX11_restore_46 (by decide) ?_
        refine va_put (D := gD g) (ci := 7) (v := .int 0) (ty := .int) (C := RX11) (T := TX11) (N := 25) hx hb hts inX11 tyX11 tyX11_ok nmX11 hown hK hP hD hS 0 rfl rfl 5 (by decide) (hts _ mU_1249) (fun _ h9 => h9) rfl (by decide +kernel) rfl rfl (Nat.le_of_ble_eq_true rfl) dX11_restore_47 (fun H locs hP hD hS => ?_)
        have hP : va_P (gD g) zCl (wModel g q0 q1 q2 q3 q4 q5 q6 q7 q8 q9 q10 q11 q12 mm masd msav misS mpst 0 merr mfai mthr minp minM mUp mcar mcam mahd magn mltr mbeg mcmd mcmM mpl msz mwr mlin mliM) H := hP
        have hD : va_D A (wModel g q0 q1 q2 q3 q4 q5 q6 q7 q8 q9 q10 q11 q12 mm masd msav misS mpst 0 merr mfai mthr minp minM mUp mcar mcam mahd magn mltr mbeg mcmd mcmM mpl msz mwr mlin mliM) := hD
        have ho := (Option.some.inj hF).symm
        exact W.vret hx hb hr (fun t ht hW => ⟨⟨(mm, 0, mthr), rfl, ho, z_end ht hP⟩, hS.F ht⟩) hS.2.2 dX11_restore_50
      · have hF := z_neg hF zc1
        refine lv_aload_n hx hb dX11_restore_27 rfl (lv_at hl 0 rfl) ?_
        refine va_get (D := gD g) (ci := 7) (v := .ref q1) (C := RX11) (T := TX11) (N := 25) hx hb hts inX11 hown hK hP 0 rfl rfl 0 (by decide) (hts _ mU_1244) (fun _ h9 => h9) rfl dX11_restore_28 ?_
        refine lv_iload_n hx hb dX11_restore_31 rfl (lv_at hl 1 rfl) ?_
        refine lv_aload_n hx hb dX11_restore_32 rfl (lv_at hl 0 rfl) ?_
        refine va_get (D := gD g) (ci := 7) (v := .ref q3) (C := RX11) (T := TX11) (N := 25) hx hb hts inX11 hown hK hP 0 rfl rfl 2 (by decide) (hts _ mU_1246) (fun _ h9 => h9) rfl dX11_restore_33 ?_
        refine lv_iload_n hx hb dX11_restore_36 rfl (lv_at hl 1 rfl) ?_
        obtain ⟨zg2, hF⟩ := z_grd hF
        refine va_lald hx hb hK hP 3 2 rfl rfl zg2 dX11_restore_37 ?_
        obtain ⟨zg3, hF⟩ := z_grd hF
        refine va_last hx hb hK hP hD hS 1 2 rfl rfl zg3 dX11_restore_38 (fun H locs hP hD hS => ?_)
        have hP : va_P (gD g) zCl (wModel g q0 q1 q2 q3 q4 q5 q6 q7 q8 q9 q10 q11 q12 (vp_updL mm (Int32.toNatClampNeg x1) (msav (Int32.toNatClampNeg x1))) masd msav misS mpst mchg merr mfai mthr minp minM mUp mcar mcam mahd magn mltr mbeg mcmd mcmM mpl msz mwr mlin mliM) H := hP
        have hD : va_D A (wModel g q0 q1 q2 q3 q4 q5 q6 q7 q8 q9 q10 q11 q12 (vp_updL mm (Int32.toNatClampNeg x1) (msav (Int32.toNatClampNeg x1))) masd msav misS mpst mchg merr mfai mthr minp minM mUp mcar mcam mahd magn mltr mbeg mcmd mcmM mpl msz mwr mlin mliM) := hD
        obtain ⟨zv4, ezv4, hF⟩ := z_let hF
        refine lv_iinc (v := zv4) (lv' := [(1, .int zv4), (0, .ref q0)]) hx hb dX11_restore_39 hl (k := 1) rfl (by rw [ezv4]; rfl) (by decide) rfl (fun ls hl => ?_)
        refine lv_goto (tgt := 21) hx hb dX11_restore_42 (by decide) ?_
        exact ih21 (vp_updL mm (Int32.toNatClampNeg x1) (msav (Int32.toNatClampNeg x1))) mchg mthr zv4 hF _ _ _ (lv_sub hl [1, 0] rfl) hP hD hS
  refine lv_aload_n hx hb dX11_restore_0 rfl (lv_at hl 0 rfl) ?_
  refine lv_iconst (v := 0) hx hb dX11_restore_1 (by decide) ?_
  refine va_put (D := gD g) (ci := 7) (v := .int 0) (ty := .int) (C := RX11) (T := TX11) (N := 25) hx hb hts inX11 tyX11 tyX11_ok nmX11 hown hK hP hD hS 0 rfl rfl 8 (by decide) (hts _ mU_1252) (fun _ h9 => h9) rfl (by decide +kernel) rfl rfl (Nat.le_of_ble_eq_true rfl) dX11_restore_2 (fun H locs hP hD hS => ?_)
  have hP : va_P (gD g) zCl (wModel g q0 q1 q2 q3 q4 q5 q6 q7 q8 q9 q10 q11 q12 mm masd msav misS mpst mchg merr mfai 0 minp minM mUp mcar mcam mahd magn mltr mbeg mcmd mcmM mpl msz mwr mlin mliM) H := hP
  have hD : va_D A (wModel g q0 q1 q2 q3 q4 q5 q6 q7 q8 q9 q10 q11 q12 mm masd msav misS mpst mchg merr mfai 0 minp minM mUp mcar mcam mahd magn mltr mbeg mcmd mcmM mpl msz mwr mlin mliM) := hD
  refine lv_aload_n hx hb dX11_restore_5 rfl (lv_at hl 0 rfl) ?_
  refine va_get (D := gD g) (ci := 7) (v := .int misS) (C := RX11) (T := TX11) (N := 25) hx hb hts inX11 hown hK hP 0 rfl rfl 3 (by decide) (hts _ mU_1247) (fun _ h9 => h9) rfl dX11_restore_6 ?_
  refine lv_if_ne (tgt := 19) hx hb dX11_restore_9 (by decide) (fun zc5 => ?_) (fun zc5 => ?_)
  · have hF := z_neg hF zc5
    refine lv_iconst (v := 0) hx hb dX11_restore_19 (by decide) ?_
    refine lv_istore_n (lv' := [(1, .int 0), (0, .ref q0)]) hx hb dX11_restore_20 rfl hl (by decide) rfl (fun ls hl => ?_)
    exact K21 fu mm mchg 0 0 hF _ _ _ (lv_sub hl [1, 0] rfl) hP hD hS
  · have hF := z_pos hF zc5
    refine lv_aload_n hx hb dX11_restore_12 rfl (lv_at hl 0 rfl) ?_
    refine lv_iconst (v := 1) hx hb dX11_restore_13 (by decide) ?_
    obtain ⟨zo6, hzo6, hF⟩ := z_bind hF
    refine z_calliE (fun (u : Int32) => (wModel g q0 q1 q2 q3 q4 q5 q6 q7 q8 q9 q10 q11 q12 mm masd msav misS mpst mchg merr mfai u minp minM mUp mcar mcam mahd magn mltr mbeg mcmd mcmM mpl msz mwr mlin mliM)) (va_runV (As := [.int 1]) (rest := []) ⟨hx, hb, hml, hown, hts⟩ (c_X11_throwing l g q0 q1 q2 q3 q4 q5 q6 q7 q8 q9 q10 q11 q12 mm masd msav misS mpst mchg merr mfai 0 minp minM mUp mcar mcam mahd magn mltr mbeg mcmd mcmM mpl msz mwr mlin mliM _ 1 _ hzo6) (cwV 1 hts (gdV mU_1352 mU_1354 mU_31 mU_75 mU_1355) rfl rfl rfl (by decide +kernel) ⟨Nat.le_of_ble_eq_true rfl, Nat.le_of_ble_eq_true rfl⟩) ⟨z_blind _ _ _ _, va_recv hK hP (ci := 7) (q0 := 0) rfl rfl, fun U hU hW => z_preE hP hD hK hB hS hA hU hW⟩ rfl rfl hl.1 rfl (lv_room (Nat.le_of_ble_eq_true rfl)) dX11_restore_14 ⟨Nat.le_of_ble_eq_true rfl, Nat.le_of_ble_eq_true rfl⟩) hD hS hA (fun _ => rfl) (fun r u H locs hw hP hD hS => ?_)
    obtain ⟨rfl, rfl⟩ := hw
    have hP : va_P (gD g) zCl (wModel g q0 q1 q2 q3 q4 q5 q6 q7 q8 q9 q10 q11 q12 mm masd msav misS mpst mchg merr mfai zo6.2 minp minM mUp mcar mcam mahd magn mltr mbeg mcmd mcmM mpl msz mwr mlin mliM) H := hP
    have hD : va_D A (wModel g q0 q1 q2 q3 q4 q5 q6 q7 q8 q9 q10 q11 q12 mm masd msav misS mpst mchg merr mfai zo6.2 minp minM mUp mcar mcam mahd magn mltr mbeg mcmd mcmM mpl msz mwr mlin mliM) := hD
    refine lv_pop hx hb dX11_restore_17 rfl ?_
    have ho := (Option.some.inj hF).symm
    exact W.vret hx hb hr (fun t ht hW => ⟨⟨(mm, mchg, zo6.2), rfl, ho, z_end ht hP⟩, hS.F ht⟩) hS.2.2 dX11_restore_18
