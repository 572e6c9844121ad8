abbrev w_X10_enterNumber : List Cond := .code yX10_enterNumber cX10_enterNumber 7 (some .int) :: wU
abbrev r_X10_enterNumber : Room := { frames := 7, cells := 5, slots := 30, locals := 126 }
abbrev q_X10_enterNumber (g : GG) (ad : Nat → Nat) (st : SS) (sv : SS) (isS : Int32) (hst : Nat → SS) (spare : Int32) (undo : Int32) (seen : Nat → Int32) (dbef : Int32) (drec : Int32) (ptx : Nat → Int32) (plen : Int32) (ppos : Int32) (pcnt : Int32) (cmds : Nat → CC) (stE : Int32) (stF : Int32) (lch : Nat → Int32) (llen : Int32) (o : Except (Nat × (SS)) (Int32 × SS)) (A : Nat → Prop) := va_Qi (fun (r : Int32) (u : SS) => ∃ a : Int32 × SS, o = .ok a ∧ a.1 = r ∧ a.2 = u) (fun u t => va_P (gD g) zCl (wRoot g ad u sv isS hst spare undo seen dbef drec ptx plen ppos pcnt cmds stE stF lch llen) t.heap) A
abbrev x_X10_enterNumber (g : GG) (ad : Nat → Nat) (st : SS) (sv : SS) (isS : Int32) (hst : Nat → SS) (spare : Int32) (undo : Int32) (seen : Nat → Int32) (dbef : Int32) (drec : Int32) (ptx : Nat → Int32) (plen : Int32) (ppos : Int32) (pcnt : Int32) (cmds : Nat → CC) (stE : Int32) (stF : Int32) (lch : Nat → Int32) (llen : Int32) (o : Except (Nat × (SS)) (Int32 × SS)) (A : Nat → Prop) := vx_X (fun (x : Nat × (SS)) => o = .error x) (fun E x t => E = xN x.1 ∧ va_P (gD g) zCl (wRoot g ad x.2 sv isS hst spare undo seen dbef drec ptx plen ppos pcnt cmds stE stF lch llen) t.heap) A
set_option maxHeartbeats 4000000 in
set_option maxRecDepth 100000 in
theorem c_X10_enterNumber (l : Launch) (hl0 : l.stackTraces = false) (g : GG) (ad : Nat → Nat) (st : SS) (sv : SS) (isS : Int32) (hst : Nat → SS) (spare : Int32) (undo : Int32) (seen : Nat → Int32) (dbef : Int32) (drec : Int32) (ptx : Nat → Int32) (plen : Int32) (ppos : Int32) (pcnt : Int32) (cmds : Nat → CC) (stE : Int32) (stF : Int32) (lch : Nat → Int32) (llen : Int32) (sz : Nat) (p1 : Int32) (p2 : Int32) (p3 : Int32) (p4 : Int32) (fu : Nat) (o : Except (Nat × (SS)) (Int32 × SS)) (hF : F_X10_enterNumber fu st p1 p2 p3 p4 = some o) : vx_Met l yX10_enterNumber w_X10_enterNumber r_X10_enterNumber (va_Pc [.ref (ad 0), .int p1, .int p2, .int p3, .int p4] (zP g (wRoot g ad st sv isS hst spare undo seen dbef drec ptx plen ppos pcnt cmds stE stF lch llen) sz)) (q_X10_enterNumber g ad st sv isS hst spare undo seen dbef drec ptx plen ppos pcnt cmds stE stF lch llen o (va_A (wRoot g ad st sv isS hst spare undo seen dbef drec ptx plen ppos pcnt cmds stE stF lch llen) sz)) (x_X10_enterNumber g ad st sv isS hst spare undo seen dbef drec ptx plen ppos pcnt cmds stE stF lch llen o (va_A (wRoot g ad st sv isS hst spare undo seen dbef drec ptx plen ppos pcnt cmds stE stF lch llen) sz)) 5 30 (va_A (wRoot g ad st sv isS hst spare undo seen dbef drec ptx plen ppos pcnt cmds stE stF lch llen) sz) := by
  refine vx_ofW (cc := cX10_enterNumber) (maxL := 7) (ret := (some .int)) (by decide) rfl ?_
  intro p e s m args below meth c s₁ B hml hnx hv
  obtain ⟨rfl, rfl, hP, hK, hD0, hB⟩ := hv
  have hx := B.exec
  have hb := B.bytes
  have hr := B.returns
  have hts : ∀ w ∈ wU, w.before _ s = true := fun w h => atoms_spec (ws := w_X10_enterNumber) B.pre w (List.mem_cons_of_mem _ h)
  have hown : s.vm.findClass RX10 = some m.cls := findClass_of_methodNamed B.named
  have hlocks := B.notSynchronized
  have hD := hD0.self (sz := s.heap.size)
  generalize hAe : va_A (wRoot g ad st sv isS hst spare undo seen dbef drec ptx plen ppos pcnt cmds stE stF lch llen) s.heap.size = A at hD hB ⊢
  have hA : ∀ q : Nat, s.heap.size ≤ q → A q := fun q h => by rw [← hAe]; exact Or.inr h
  have hS : va_S A s.heap s.heap [] := va_S.rf
  have hl := lv_entry ([.ref (ad 0), .int p1, .int p2, .int p3, .int p4]) (n := 7) (Nat.le_of_ble_eq_true rfl)
  rw [lg_entry_eq]
  generalize (lg_sl ([.ref (ad 0), .int p1, .int p2, .int p3, .int p4]) ++ List.replicate (7 - (lg_sl ([.ref (ad 0), .int p1, .int p2, .int p3, .int p4])).length) Slot.unset).toArray = ls at hl ⊢
  have hl : lv_has ls 7 [(0, .ref (ad 0)), (1, .int p1), (2, .int p2), (3, .int p3), (4, .int p4)] := hl
  unfold F_X10_enterNumber at hF
  refine lv_iload_n hx hb dX10_enterNumber_0 rfl (lv_at hl 1 rfl) ?_
  refine lv_iload_n hx hb dX10_enterNumber_1 rfl (lv_at hl 2 rfl) ?_
  obtain ⟨zo1, hzo1, hF⟩ := z_bind hF
  refine z_callvX (fun (_ : Unit) => []) (fun (x : Nat × (Unit)) => []) (fun (x : Nat × (Unit)) => xN x.1) [] (vx_runS (As := [.int p1, .int p2]) (rest := []) ⟨hx, hb, hml, hown, hts⟩ (c_X10_requireAmount l hl0 g _ p1 p2 _ hzo1) (va_cwS 2 hts (gdS mU_452 mU_453 mU_66 mU_454) rfl rfl rfl (by decide +kernel) ⟨Nat.le_of_ble_eq_true rfl, Nat.le_of_ble_eq_true rfl⟩) ⟨z_blind _ _ _ _, fun U hU hW => z_pre [] hP hD hK hB hS hA rfl rfl hU hW⟩ rfl rfl hl.1 rfl (lv_room (Nat.le_of_ble_eq_true rfl)) dX10_enterNumber_2 ⟨Nat.le_of_ble_eq_true rfl, Nat.le_of_ble_eq_true rfl⟩) hP hD hS hA rfl (fun _ => rfl) (fun _ => rfl) (fun zw1 ce q9 H locs hw hP hD hS hq1 hq2 hq3 => ?_) (fun u H locs hw hP hD hS => ?_)
  · subst hw
    have hF : _ = some o := hF
    have hP : va_P (gD g) zCl (wRoot g ad st sv isS hst spare undo seen dbef drec ptx plen ppos pcnt cmds stE stF lch llen) H := hP
    have hD : va_D A (wRoot g ad st sv isS hst spare undo seen dbef drec ptx plen ppos pcnt cmds stE stF lch llen) := hD
    have hF := z_err hF
    have ho := (Option.some.inj hF).symm
    exact vx_out (fun x hx => (hnx x hx).elim) hlocks hq1 hq2 hq3 (fun t ht hvm => ⟨(zw1.1, st), ho, ⟨rfl, z_end ht hP⟩, hS.F ht⟩) hS.2.2 (Nat.le_of_ble_eq_true rfl) (Nat.le_of_ble_eq_true rfl)
  · obtain ⟨za1, rfl, rfl⟩ := hw
    have hF := z_okk hF
    have hP : va_P (gD g) zCl (wRoot g ad st sv isS hst spare undo seen dbef drec ptx plen ppos pcnt cmds stE stF lch llen) H := hP
    have hD : va_D A (wRoot g ad st sv isS hst spare undo seen dbef drec ptx plen ppos pcnt cmds stE stF lch llen) := hD
    refine lv_iload_n hx hb dX10_enterNumber_5 rfl (lv_at hl 3 rfl) ?_
    obtain ⟨zo2, hzo2, hF⟩ := z_bind hF
    refine z_callvX (fun (_ : Unit) => []) (fun (x : Nat × (Unit)) => []) (fun (x : Nat × (Unit)) => xN x.1) [] (vx_runS (As := [.int p3]) (rest := []) ⟨hx, hb, hml, hown, hts⟩ (c_X10_requireScale l hl0 g _ p3 _ hzo2) (va_cwS 1 hts (gdS mU_528 mU_529 mU_66 mU_530) rfl rfl rfl (by decide +kernel) ⟨Nat.le_of_ble_eq_true rfl, Nat.le_of_ble_eq_true rfl⟩) ⟨z_blind _ _ _ _, fun U hU hW => z_pre [] hP hD hK hB hS hA rfl rfl hU hW⟩ rfl rfl hl.1 rfl (lv_room (Nat.le_of_ble_eq_true rfl)) dX10_enterNumber_6 ⟨Nat.le_of_ble_eq_true rfl, Nat.le_of_ble_eq_true rfl⟩) hP hD hS hA rfl (fun _ => rfl) (fun _ => rfl) (fun zw2 ce q9 H locs hw hP hD hS hq1 hq2 hq3 => ?_) (fun u H locs hw hP hD hS => ?_)
    · subst hw
      have hF : _ = some o := hF
      have hP : va_P (gD g) zCl (wRoot g ad st sv isS hst spare undo seen dbef drec ptx plen ppos pcnt cmds stE stF lch llen) H := hP
      have hD : va_D A (wRoot g ad st sv isS hst spare undo seen dbef drec ptx plen ppos pcnt cmds stE stF lch llen) := hD
      have hF := z_err hF
      have ho := (Option.some.inj hF).symm
      exact vx_out (fun x hx => (hnx x hx).elim) hlocks hq1 hq2 hq3 (fun t ht hvm => ⟨(zw2.1, st), ho, ⟨rfl, z_end ht hP⟩, hS.F ht⟩) hS.2.2 (Nat.le_of_ble_eq_true rfl) (Nat.le_of_ble_eq_true rfl)
    · obtain ⟨za2, rfl, rfl⟩ := hw
      have hF := z_okk hF
      have hP : va_P (gD g) zCl (wRoot g ad st sv isS hst spare undo seen dbef drec ptx plen ppos pcnt cmds stE stF lch llen) H := hP
      have hD : va_D A (wRoot g ad st sv isS hst spare undo seen dbef drec ptx plen ppos pcnt cmds stE stF lch llen) := hD
      refine lv_iload hx hb dX10_enterNumber_9 (lv_at hl 4 rfl) ?_
      obtain ⟨zo3, hzo3, hF⟩ := z_bind hF
      refine z_callvX (fun (_ : Unit) => []) (fun (x : Nat × (Unit)) => []) (fun (x : Nat × (Unit)) => xN x.1) [] (vx_runS (As := [.int p4]) (rest := []) ⟨hx, hb, hml, hown, hts⟩ (c_X10_requireMode l hl0 g _ p4 fu _ hzo3) (va_cwS 1 hts (gdS mU_532 mU_533 mU_66 mU_534) rfl rfl rfl (by decide +kernel) ⟨Nat.le_of_ble_eq_true rfl, Nat.le_of_ble_eq_true rfl⟩) ⟨z_blind _ _ _ _, fun U hU hW => z_pre [] hP hD hK hB hS hA rfl rfl hU hW⟩ rfl rfl hl.1 rfl (lv_room (Nat.le_of_ble_eq_true rfl)) dX10_enterNumber_11 ⟨Nat.le_of_ble_eq_true rfl, Nat.le_of_ble_eq_true rfl⟩) hP hD hS hA rfl (fun _ => rfl) (fun _ => rfl) (fun zw3 ce q9 H locs hw hP hD hS hq1 hq2 hq3 => ?_) (fun u H locs hw hP hD hS => ?_)
      · subst hw
        have hF : _ = some o := hF
        have hP : va_P (gD g) zCl (wRoot g ad st sv isS hst spare undo seen dbef drec ptx plen ppos pcnt cmds stE stF lch llen) H := hP
        have hD : va_D A (wRoot g ad st sv isS hst spare undo seen dbef drec ptx plen ppos pcnt cmds stE stF lch llen) := hD
        have hF := z_err hF
        have ho := (Option.some.inj hF).symm
        exact vx_out (fun x hx => (hnx x hx).elim) hlocks hq1 hq2 hq3 (fun t ht hvm => ⟨(zw3.1, st), ho, ⟨rfl, z_end ht hP⟩, hS.F ht⟩) hS.2.2 (Nat.le_of_ble_eq_true rfl) (Nat.le_of_ble_eq_true rfl)
      · obtain ⟨za3, rfl, rfl⟩ := hw
        have hF := z_okk hF
        have hP : va_P (gD g) zCl (wRoot g ad st sv isS hst spare undo seen dbef drec ptx plen ppos pcnt cmds stE stF lch llen) H := hP
        have hD : va_D A (wRoot g ad st sv isS hst spare undo seen dbef drec ptx plen ppos pcnt cmds stE stF lch llen) := hD
        refine lv_aload_n hx hb dX10_enterNumber_14 rfl (lv_at hl 0 rfl) ?_
        obtain ⟨zo4, hzo4, hF⟩ := z_bind hF
        refine z_callvXE (fun (_ : Unit) => (wRoot g ad st sv isS hst spare undo seen dbef drec ptx plen ppos pcnt cmds stE stF lch llen)) (fun (x : Nat × (Unit)) => (wRoot g ad st sv isS hst spare undo seen dbef drec ptx plen ppos pcnt cmds stE stF lch llen)) (fun (x : Nat × (Unit)) => xN x.1) (vx_runV (As := []) (rest := []) ⟨hx, hb, hml, hown, hts⟩ (c_X10_requireRoom l hl0 g ad st sv isS hst spare undo seen dbef drec ptx plen ppos pcnt cmds stE stF lch llen _ _ hzo4) (cwV 0 hts (gdV mU_623 mU_625 mU_4 mU_66 mU_626) rfl rfl rfl (by decide +kernel) ⟨Nat.le_of_ble_eq_true rfl, Nat.le_of_ble_eq_true rfl⟩) ⟨z_blind _ _ _ _, va_recv hK hP (ci := 6) (q0 := 0) rfl rfl, fun U hU hW => z_preE hP hD hK hB hS hA hU hW⟩ rfl rfl hl.1 rfl (lv_room (Nat.le_of_ble_eq_true rfl)) dX10_enterNumber_15 ⟨Nat.le_of_ble_eq_true rfl, Nat.le_of_ble_eq_true rfl⟩) hD hS hA (fun _ => rfl) (fun _ => rfl) (fun zw4 ce q9 H locs hw hP hD hS hq1 hq2 hq3 => ?_) (fun u H locs hw hP hD hS => ?_)
        · subst hw
          have hF : _ = some o := hF
          have hP : va_P (gD g) zCl (wRoot g ad st sv isS hst spare undo seen dbef drec ptx plen ppos pcnt cmds stE stF lch llen) H := hP
          have hD : va_D A (wRoot g ad st sv isS hst spare undo seen dbef drec ptx plen ppos pcnt cmds stE stF lch llen) := hD
          have hF := z_err hF
          have ho := (Option.some.inj hF).symm
          exact vx_out (fun x hx => (hnx x hx).elim) hlocks hq1 hq2 hq3 (fun t ht hvm => ⟨(zw4.1, st), ho, ⟨rfl, z_end ht hP⟩, hS.F ht⟩) hS.2.2 (Nat.le_of_ble_eq_true rfl) (Nat.le_of_ble_eq_true rfl)
        · obtain ⟨za4, rfl, rfl⟩ := hw
          have hF := z_okk hF
          have hP : va_P (gD g) zCl (wRoot g ad st sv isS hst spare undo seen dbef drec ptx plen ppos pcnt cmds stE stF lch llen) H := hP
          have hD : va_D A (wRoot g ad st sv isS hst spare undo seen dbef drec ptx plen ppos pcnt cmds stE stF lch llen) := hD
          refine lv_iload_n hx hb dX10_enterNumber_18 rfl (lv_at hl 1 rfl) ?_
          refine lv_iload_n hx hb dX10_enterNumber_19 rfl (lv_at hl 2 rfl) ?_
          obtain ⟨zo5, hzo5, hF⟩ := z_bind hF
          refine z_calll (fun (_ : Unit) => []) [] (va_runS (As := [.int p1, .int p2]) (rest := []) ⟨hx, hb, hml, hown, hts⟩ (c_X10_unitsOf l g _ p1 p2 _ hzo5) (va_cwS 2 hts (gdS mU_399 mU_400 mU_66 mU_401) rfl rfl rfl (by decide +kernel) ⟨Nat.le_of_ble_eq_true rfl, Nat.le_of_ble_eq_true rfl⟩) ⟨z_blind _ _ _ _, fun U hU hW => z_pre [] hP hD hK hB hS hA rfl rfl hU hW⟩ rfl rfl hl.1 rfl (lv_room (Nat.le_of_ble_eq_true rfl)) dX10_enterNumber_20 ⟨Nat.le_of_ble_eq_true rfl, Nat.le_of_ble_eq_true rfl⟩) hP hD hS hA rfl (fun _ => rfl) (fun r u H locs hw hP hD hS => ?_)
          subst hw
          have hP : va_P (gD g) zCl (wRoot g ad st sv isS hst spare undo seen dbef drec ptx plen ppos pcnt cmds stE stF lch llen) H := hP
          have hD : va_D A (wRoot g ad st sv isS hst spare undo seen dbef drec ptx plen ppos pcnt cmds stE stF lch llen) := hD
          refine lv_lstore (lv' := [(5, .long zo5), (0, .ref (ad 0)), (1, .int p1), (2, .int p2), (3, .int p3), (4, .int p4)]) hx hb dX10_enterNumber_23 hl (by decide) rfl (fun ls hl => ?_)
          refine lv_lload hx hb dX10_enterNumber_25 (lv_at hl 0 rfl) ?_
          refine lv_iload_n hx hb dX10_enterNumber_27 rfl (lv_at hl 4 rfl) ?_
          obtain ⟨zo6, hzo6, hF⟩ := z_bind hF
          refine z_calll (fun (_ : Unit) => []) [] (va_runS (As := [.int p3]) (rest := [.long zo5]) ⟨hx, hb, hml, hown, hts⟩ (c_X7_stepOf l g _ p3 _ hzo6) (va_cwS 1 hts (gdS mU_643 mU_343 mU_88 mU_344) rfl rfl rfl (by decide +kernel) ⟨Nat.le_of_ble_eq_true rfl, Nat.le_of_ble_eq_true rfl⟩) ⟨z_blind _ _ _ _, fun U hU hW => z_pre [] hP hD hK hB hS hA rfl rfl hU hW⟩ rfl rfl hl.1 rfl (lv_room (Nat.le_of_ble_eq_true rfl)) dX10_enterNumber_28 ⟨Nat.le_of_ble_eq_true rfl, Nat.le_of_ble_eq_true rfl⟩) hP hD hS hA rfl (fun _ => rfl) (fun r u H locs hw hP hD hS => ?_)
          subst hw
          have hP : va_P (gD g) zCl (wRoot g ad st sv isS hst spare undo seen dbef drec ptx plen ppos pcnt cmds stE stF lch llen) H := hP
          have hD : va_D A (wRoot g ad st sv isS hst spare undo seen dbef drec ptx plen ppos pcnt cmds stE stF lch llen) := hD
          obtain ⟨zg7, hF⟩ := z_grd hF
          refine lv_lrem hx hb dX10_enterNumber_31 zg7 ?_
          refine lv_lconst (v := 0) hx hb dX10_enterNumber_32 (by decide) ?_
          refine z_lcmp_eq (tgt := 47) hx hb dX10_enterNumber_33 dX10_enterNumber_34 (by decide) (fun zc8 => ?_) (fun zc8 => ?_)
          · have hF := z_pos hF zc8
            refine lv_aload_n hx hb dX10_enterNumber_47 rfl (lv_at hl 1 rfl) ?_
            refine va_get (D := gD g) (ci := 6) (v := .ref (ad 1)) (C := RX10) (T := TX10) (N := 9) hx hb hts inX10 hown hK hP 0 rfl rfl 0 (by decide) (hts _ mU_277) (fun _ h9 => h9) rfl dX10_enterNumber_48 ?_
            refine lv_lload hx hb dX10_enterNumber_51 (lv_at hl 0 rfl) ?_
            refine lv_iload_n hx hb dX10_enterNumber_53 rfl (lv_at hl 4 rfl) ?_
            refine lv_iload hx hb dX10_enterNumber_54 (lv_at hl 5 rfl) ?_
            obtain ⟨zo9, hzo9, hF⟩ := z_bind hF
            refine z_calli (fun (u : SS) => (wState g (ad 1) (ad 2) (ad 3) (ad 4) (ad 5) u)) [1, 2, 3, 4, 5] (va_runV (As := [.long zo5, .int p3, .int p4]) (rest := []) ⟨hx, hb, hml, hown, hts⟩ (c_X8_enter l g (ad 1) (ad 2) (ad 3) (ad 4) (ad 5) st _ zo5 p3 p4 _ hzo9) (cwV 3 hts (gdV mU_660 mU_661 mU_662 mU_67 mU_663) rfl rfl rfl (by decide +kernel) ⟨Nat.le_of_ble_eq_true rfl, Nat.le_of_ble_eq_true rfl⟩) ⟨z_blind _ _ _ _, va_recv hK hP (ci := 5) (q0 := 1) rfl rfl, fun U hU hW => z_pre [1, 2, 3, 4, 5] hP hD hK hB hS hA rfl rfl hU hW⟩ rfl rfl hl.1 rfl (lv_room (Nat.le_of_ble_eq_true rfl)) dX10_enterNumber_56 ⟨Nat.le_of_ble_eq_true rfl, Nat.le_of_ble_eq_true rfl⟩) hP hD hS hA rfl (fun _ => rfl) (fun r u H locs hw hP hD hS => ?_)
            obtain ⟨rfl, rfl⟩ := hw
            have hP : va_P (gD g) zCl (wRoot g ad zo9.2 sv isS hst spare undo seen dbef drec ptx plen ppos pcnt cmds stE stF lch llen) H := hP
            have hD : va_D A (wRoot g ad zo9.2 sv isS hst spare undo seen dbef drec ptx plen ppos pcnt cmds stE stF lch llen) := hD
            have ho := (Option.some.inj hF).symm
            refine vx_ret ?_
            refine W.widen (k := 5) (n := 30) (Nat.le_of_ble_eq_true rfl) (Nat.le_of_ble_eq_true rfl) ?_
            exact W.iret (v := zo9.1) hx hb hr (fun t ht hW => ⟨⟨zo9.1, zo9.2, rfl, ⟨_, ho, rfl, rfl⟩, z_end ht hP⟩, hS.F ht⟩) hS.2.2 dX10_enterNumber_59
          · have hF := z_neg hF zc8
            have ho := (Option.some.inj hF).symm
            obtain ⟨sa, hsa⟩ := hB.2.1.2.2.1 (118, "the value is not a multiple of the step") (by decide +kernel)
            exact vx_throwS hx hb hl0 (own := RX10) (cls := "java/lang/UnsupportedOperationException") (text := "the value is not a multiple of the step") (names := ["java/lang/RuntimeException", "java/lang/Exception"]) hown (by decide +kernel) (by decide +kernel) (hts _ mU_644) (hts _ mU_89) hsa (zat_120 hts hB) zgo_120 hB.1.1 hB.1.2 hS (hl.1.trans hml.symm) dX10_enterNumber_37 dX10_enterNumber_40 dX10_enterNumber_41 dX10_enterNumber_43 dX10_enterNumber_46 (fun x hx => (hnx x hx).elim) (Nat.le_of_ble_eq_true rfl) (Nat.le_of_ble_eq_true rfl) (Nat.le_of_ble_eq_true rfl) (Nat.le_of_ble_eq_true rfl) hlocks (fun t ha hz hk => ⟨(2, st), ho, ⟨rfl, (z_thr hP hS hz hk).1⟩, (z_thr hP hS hz hk).2⟩) hS.2.2 (Nat.le_of_ble_eq_true rfl) (Nat.le_of_ble_eq_true rfl)
abbrev w_X10_enterQuotient : List Cond := .code yX10_enterQuotient cX10_enterQuotient 5 (some .int) :: wU
abbrev r_X10_enterQuotient : Room := { frames := 7, cells := 4, slots := 24, locals := 126 }
abbrev q_X10_enterQuotient (g : GG) (ad : Nat → Nat) (st : SS) (sv : SS) (isS : Int32) (hst : Nat → SS) (spare : Int32) (undo : Int32) (seen : Nat → Int32) (dbef : Int32) (drec : Int32) (ptx : Nat → Int32) (plen : Int32) (ppos : Int32) (pcnt : Int32) (cmds : Nat → CC) (stE : Int32) (stF : Int32) (lch : Nat → Int32) (llen : Int32) (o : Except (Nat × (SS)) (Int32 × SS)) (A : Nat → Prop) := va_Qi (fun (r : Int32) (u : SS) => ∃ a : Int32 × SS, o = .ok a ∧ a.1 = r ∧ a.2 = u) (fun u t => va_P (gD g) zCl (wRoot g ad u sv isS hst spare undo seen dbef drec ptx plen ppos pcnt cmds stE stF lch llen) t.heap) A
abbrev x_X10_enterQuotient (g : GG) (ad : Nat → Nat) (st : SS) (sv : SS) (isS : Int32) (hst : Nat → SS) (spare : Int32) (undo : Int32) (seen : Nat → Int32) (dbef : Int32) (drec : Int32) (ptx : Nat → Int32) (plen : Int32) (ppos : Int32) (pcnt : Int32) (cmds : Nat → CC) (stE : Int32) (stF : Int32) (lch : Nat → Int32) (llen : Int32) (o : Except (Nat × (SS)) (Int32 × SS)) (A : Nat → Prop) := vx_X (fun (x : Nat × (SS)) => o = .error x) (fun E x t => E = xN x.1 ∧ va_P (gD g) zCl (wRoot g ad x.2 sv isS hst spare undo seen dbef drec ptx plen ppos pcnt cmds stE stF lch llen) t.heap) A
set_option maxHeartbeats 4000000 in
set_option maxRecDepth 100000 in
theorem c_X10_enterQuotient (l : Launch) (hl0 : l.stackTraces = false) (g : GG) (ad : Nat → Nat) (st : SS) (sv : SS) (isS : Int32) (hst : Nat → SS) (spare : Int32) (undo : Int32) (seen : Nat → Int32) (dbef : Int32) (drec : Int32) (ptx : Nat → Int32) (plen : Int32) (ppos : Int32) (pcnt : Int32) (cmds : Nat → CC) (stE : Int32) (stF : Int32) (lch : Nat → Int32) (llen : Int32) (sz : Nat) (p1 : Int32) (p2 : Int32) (p3 : Int32) (p4 : Int32) (fu : Nat) (o : Except (Nat × (SS)) (Int32 × SS)) (hF : F_X10_enterQuotient fu st p1 p2 p3 p4 = some o) : vx_Met l yX10_enterQuotient w_X10_enterQuotient r_X10_enterQuotient (va_Pc [.ref (ad 0), .int p1, .int p2, .int p3, .int p4] (zP g (wRoot g ad st sv isS hst spare undo seen dbef drec ptx plen ppos pcnt cmds stE stF lch llen) sz)) (q_X10_enterQuotient g ad st sv isS hst spare undo seen dbef drec ptx plen ppos pcnt cmds stE stF lch llen o (va_A (wRoot g ad st sv isS hst spare undo seen dbef drec ptx plen ppos pcnt cmds stE stF lch llen) sz)) (x_X10_enterQuotient g ad st sv isS hst spare undo seen dbef drec ptx plen ppos pcnt cmds stE stF lch llen o (va_A (wRoot g ad st sv isS hst spare undo seen dbef drec ptx plen ppos pcnt cmds stE stF lch llen) sz)) 4 24 (va_A (wRoot g ad st sv isS hst spare undo seen dbef drec ptx plen ppos pcnt cmds stE stF lch llen) sz) := by
  refine vx_ofW (cc := cX10_enterQuotient) (maxL := 5) (ret := (some .int)) (by decide) rfl ?_
  intro p e s m args below meth c s₁ B hml hnx hv
  obtain ⟨rfl, rfl, hP, hK, hD0, hB⟩ := hv
  have hx := B.exec
  have hb := B.bytes
  have hr := B.returns
  have hts : ∀ w ∈ wU, w.before _ s = true := fun w h => atoms_spec (ws := w_X10_enterQuotient) B.pre w (List.mem_cons_of_mem _ h)
  have hown : s.vm.findClass RX10 = some m.cls := findClass_of_methodNamed B.named
  have hlocks := B.notSynchronized
  have hD := hD0.self (sz := s.heap.size)
  generalize hAe : va_A (wRoot g ad st sv isS hst spare undo seen dbef drec ptx plen ppos pcnt cmds stE stF lch llen) s.heap.size = A at hD hB ⊢
  have hA : ∀ q : Nat, s.heap.size ≤ q → A q := fun q h => by rw [← hAe]; exact Or.inr h
  have hS : va_S A s.heap s.heap [] := va_S.rf
  have hl := lv_entry ([.ref (ad 0), .int p1, .int p2, .int p3, .int p4]) (n := 5) (Nat.le_of_ble_eq_true rfl)
  rw [lg_entry_eq]
  generalize (lg_sl ([.ref (ad 0), .int p1, .int p2, .int p3, .int p4]) ++ List.replicate (5 - (lg_sl ([.ref (ad 0), .int p1, .int p2, .int p3, .int p4])).length) Slot.unset).toArray = ls at hl ⊢
  have hl : lv_has ls 5 [(0, .ref (ad 0)), (1, .int p1), (2, .int p2), (3, .int p3), (4, .int p4)] := hl
  unfold F_X10_enterQuotient at hF
  refine lv_iload_n hx hb dX10_enterQuotient_0 rfl (lv_at hl 1 rfl) ?_
  refine lv_iload_n hx hb dX10_enterQuotient_1 rfl (lv_at hl 2 rfl) ?_
  obtain ⟨zo1, hzo1, hF⟩ := z_bind hF
  refine z_callvX (fun (_ : Unit) => []) (fun (x : Nat × (Unit)) => []) (fun (x : Nat × (Unit)) => xN x.1) [] (vx_runS (As := [.int p1, .int p2]) (rest := []) ⟨hx, hb, hml, hown, hts⟩ (c_X10_requireQuotient l hl0 g _ p1 p2 _ hzo1) (va_cwS 2 hts (gdS mU_680 mU_681 mU_66 mU_682) rfl rfl rfl (by decide +kernel) ⟨Nat.le_of_ble_eq_true rfl, Nat.le_of_ble_eq_true rfl⟩) ⟨z_blind _ _ _ _, fun U hU hW => z_pre [] hP hD hK hB hS hA rfl rfl hU hW⟩ rfl rfl hl.1 rfl (lv_room (Nat.le_of_ble_eq_true rfl)) dX10_enterQuotient_2 ⟨Nat.le_of_ble_eq_true rfl, Nat.le_of_ble_eq_true rfl⟩) hP hD hS hA rfl (fun _ => rfl) (fun _ => rfl) (fun zw1 ce q9 H locs hw hP hD hS hq1 hq2 hq3 => ?_) (fun u H locs hw hP hD hS => ?_)
  · subst hw
    have hF : _ = some o := hF
    have hP : va_P (gD g) zCl (wRoot g ad st sv isS hst spare undo seen dbef drec ptx plen ppos pcnt cmds stE stF lch llen) H := hP
    have hD : va_D A (wRoot g ad st sv isS hst spare undo seen dbef drec ptx plen ppos pcnt cmds stE stF lch llen) := hD
    have hF := z_err hF
    have ho := (Option.some.inj hF).symm
    exact vx_out (fun x hx => (hnx x hx).elim) hlocks hq1 hq2 hq3 (fun t ht hvm => ⟨(zw1.1, st), ho, ⟨rfl, z_end ht hP⟩, hS.F ht⟩) hS.2.2 (Nat.le_of_ble_eq_true rfl) (Nat.le_of_ble_eq_true rfl)
  · obtain ⟨za1, rfl, rfl⟩ := hw
    have hF := z_okk hF
    have hP : va_P (gD g) zCl (wRoot g ad st sv isS hst spare undo seen dbef drec ptx plen ppos pcnt cmds stE stF lch llen) H := hP
    have hD : va_D A (wRoot g ad st sv isS hst spare undo seen dbef drec ptx plen ppos pcnt cmds stE stF lch llen) := hD
    refine lv_iload_n hx hb dX10_enterQuotient_5 rfl (lv_at hl 3 rfl) ?_
    obtain ⟨zo2, hzo2, hF⟩ := z_bind hF
    refine z_callvX (fun (_ : Unit) => []) (fun (x : Nat × (Unit)) => []) (fun (x : Nat × (Unit)) => xN x.1) [] (vx_runS (As := [.int p3]) (rest := []) ⟨hx, hb, hml, hown, hts⟩ (c_X10_requireScale l hl0 g _ p3 _ hzo2) (va_cwS 1 hts (gdS mU_528 mU_529 mU_66 mU_530) rfl rfl rfl (by decide +kernel) ⟨Nat.le_of_ble_eq_true rfl, Nat.le_of_ble_eq_true rfl⟩) ⟨z_blind _ _ _ _, fun U hU hW => z_pre [] hP hD hK hB hS hA rfl rfl hU hW⟩ rfl rfl hl.1 rfl (lv_room (Nat.le_of_ble_eq_true rfl)) dX10_enterQuotient_6 ⟨Nat.le_of_ble_eq_true rfl, Nat.le_of_ble_eq_true rfl⟩) hP hD hS hA rfl (fun _ => rfl) (fun _ => rfl) (fun zw2 ce q9 H locs hw hP hD hS hq1 hq2 hq3 => ?_) (fun u H locs hw hP hD hS => ?_)
    · subst hw
      have hF : _ = some o := hF
      have hP : va_P (gD g) zCl (wRoot g ad st sv isS hst spare undo seen dbef drec ptx plen ppos pcnt cmds stE stF lch llen) H := hP
      have hD : va_D A (wRoot g ad st sv isS hst spare undo seen dbef drec ptx plen ppos pcnt cmds stE stF lch llen) := hD
      have hF := z_err hF
      have ho := (Option.some.inj hF).symm
      exact vx_out (fun x hx => (hnx x hx).elim) hlocks hq1 hq2 hq3 (fun t ht hvm => ⟨(zw2.1, st), ho, ⟨rfl, z_end ht hP⟩, hS.F ht⟩) hS.2.2 (Nat.le_of_ble_eq_true rfl) (Nat.le_of_ble_eq_true rfl)
    · obtain ⟨za2, rfl, rfl⟩ := hw
      have hF := z_okk hF
      have hP : va_P (gD g) zCl (wRoot g ad st sv isS hst spare undo seen dbef drec ptx plen ppos pcnt cmds stE stF lch llen) H := hP
      have hD : va_D A (wRoot g ad st sv isS hst spare undo seen dbef drec ptx plen ppos pcnt cmds stE stF lch llen) := hD
      refine lv_iload hx hb dX10_enterQuotient_9 (lv_at hl 4 rfl) ?_
      obtain ⟨zo3, hzo3, hF⟩ := z_bind hF
      refine z_callvX (fun (_ : Unit) => []) (fun (x : Nat × (Unit)) => []) (fun (x : Nat × (Unit)) => xN x.1) [] (vx_runS (As := [.int p4]) (rest := []) ⟨hx, hb, hml, hown, hts⟩ (c_X10_requireMode l hl0 g _ p4 fu _ hzo3) (va_cwS 1 hts (gdS mU_532 mU_533 mU_66 mU_534) rfl rfl rfl (by decide +kernel) ⟨Nat.le_of_ble_eq_true rfl, Nat.le_of_ble_eq_true rfl⟩) ⟨z_blind _ _ _ _, fun U hU hW => z_pre [] hP hD hK hB hS hA rfl rfl hU hW⟩ rfl rfl hl.1 rfl (lv_room (Nat.le_of_ble_eq_true rfl)) dX10_enterQuotient_11 ⟨Nat.le_of_ble_eq_true rfl, Nat.le_of_ble_eq_true rfl⟩) hP hD hS hA rfl (fun _ => rfl) (fun _ => rfl) (fun zw3 ce q9 H locs hw hP hD hS hq1 hq2 hq3 => ?_) (fun u H locs hw hP hD hS => ?_)
      · subst hw
        have hF : _ = some o := hF
        have hP : va_P (gD g) zCl (wRoot g ad st sv isS hst spare undo seen dbef drec ptx plen ppos pcnt cmds stE stF lch llen) H := hP
        have hD : va_D A (wRoot g ad st sv isS hst spare undo seen dbef drec ptx plen ppos pcnt cmds stE stF lch llen) := hD
        have hF := z_err hF
        have ho := (Option.some.inj hF).symm
        exact vx_out (fun x hx => (hnx x hx).elim) hlocks hq1 hq2 hq3 (fun t ht hvm => ⟨(zw3.1, st), ho, ⟨rfl, z_end ht hP⟩, hS.F ht⟩) hS.2.2 (Nat.le_of_ble_eq_true rfl) (Nat.le_of_ble_eq_true rfl)
      · obtain ⟨za3, rfl, rfl⟩ := hw
        have hF := z_okk hF
        have hP : va_P (gD g) zCl (wRoot g ad st sv isS hst spare undo seen dbef drec ptx plen ppos pcnt cmds stE stF lch llen) H := hP
        have hD : va_D A (wRoot g ad st sv isS hst spare undo seen dbef drec ptx plen ppos pcnt cmds stE stF lch llen) := hD
        refine lv_aload_n hx hb dX10_enterQuotient_14 rfl (lv_at hl 0 rfl) ?_
        obtain ⟨zo4, hzo4, hF⟩ := z_bind hF
        refine z_callvXE (fun (_ : Unit) => (wRoot g ad st sv isS hst spare undo seen dbef drec ptx plen ppos pcnt cmds stE stF lch llen)) (fun (x : Nat × (Unit)) => (wRoot g ad st sv isS hst spare undo seen dbef drec ptx plen ppos pcnt cmds stE stF lch llen)) (fun (x : Nat × (Unit)) => xN x.1) (vx_runV (As := []) (rest := []) ⟨hx, hb, hml, hown, hts⟩ (c_X10_requireRoom l hl0 g ad st sv isS hst spare undo seen dbef drec ptx plen ppos pcnt cmds stE stF lch llen _ _ hzo4) (cwV 0 hts (gdV mU_623 mU_625 mU_4 mU_66 mU_626) rfl rfl rfl (by decide +kernel) ⟨Nat.le_of_ble_eq_true rfl, Nat.le_of_ble_eq_true rfl⟩) ⟨z_blind _ _ _ _, va_recv hK hP (ci := 6) (q0 := 0) rfl rfl, fun U hU hW => z_preE hP hD hK hB hS hA hU hW⟩ rfl rfl hl.1 rfl (lv_room (Nat.le_of_ble_eq_true rfl)) dX10_enterQuotient_15 ⟨Nat.le_of_ble_eq_true rfl, Nat.le_of_ble_eq_true rfl⟩) hD hS hA (fun _ => rfl) (fun _ => rfl) (fun zw4 ce q9 H locs hw hP hD hS hq1 hq2 hq3 => ?_) (fun u H locs hw hP hD hS => ?_)
        · subst hw
          have hF : _ = some o := hF
          have hP : va_P (gD g) zCl (wRoot g ad st sv isS hst spare undo seen dbef drec ptx plen ppos pcnt cmds stE stF lch llen) H := hP
          have hD : va_D A (wRoot g ad st sv isS hst spare undo seen dbef drec ptx plen ppos pcnt cmds stE stF lch llen) := hD
          have hF := z_err hF
          have ho := (Option.some.inj hF).symm
          exact vx_out (fun x hx => (hnx x hx).elim) hlocks hq1 hq2 hq3 (fun t ht hvm => ⟨(zw4.1, st), ho, ⟨rfl, z_end ht hP⟩, hS.F ht⟩) hS.2.2 (Nat.le_of_ble_eq_true rfl) (Nat.le_of_ble_eq_true rfl)
        · obtain ⟨za4, rfl, rfl⟩ := hw
          have hF := z_okk hF
          have hP : va_P (gD g) zCl (wRoot g ad st sv isS hst spare undo seen dbef drec ptx plen ppos pcnt cmds stE stF lch llen) H := hP
          have hD : va_D A (wRoot g ad st sv isS hst spare undo seen dbef drec ptx plen ppos pcnt cmds stE stF lch llen) := hD
          refine lv_aload_n hx hb dX10_enterQuotient_18 rfl (lv_at hl 0 rfl) ?_
          refine va_get (D := gD g) (ci := 6) (v := .ref (ad 1)) (C := RX10) (T := TX10) (N := 9) hx hb hts inX10 hown hK hP 0 rfl rfl 0 (by decide) (hts _ mU_277) (fun _ h9 => h9) rfl dX10_enterQuotient_19 ?_
          refine lv_iload_n hx hb dX10_enterQuotient_22 rfl (lv_at hl 1 rfl) ?_
          refine lv_iload_n hx hb dX10_enterQuotient_23 rfl (lv_at hl 2 rfl) ?_
          refine lv_iload_n hx hb dX10_enterQuotient_24 rfl (lv_at hl 3 rfl) ?_
          refine lv_iload hx hb dX10_enterQuotient_25 (lv_at hl 4 rfl) ?_
          obtain ⟨zo5, hzo5, hF⟩ := z_bind hF
          refine z_calll (fun (_ : Unit) => []) [] (va_runS (As := [.int p1, .int p2, .int p3, .int p4]) (rest := [.ref (ad 1)]) ⟨hx, hb, hml, hown, hts⟩ (c_X7_ofQuotient l g _ p1 p2 p3 p4 _ hzo5) (va_cwS 4 hts (gdS mU_684 mU_685 mU_88 mU_686) rfl rfl rfl (by decide +kernel) ⟨Nat.le_of_ble_eq_true rfl, Nat.le_of_ble_eq_true rfl⟩) ⟨z_blind _ _ _ _, fun U hU hW => z_pre [] hP hD hK hB hS hA rfl rfl hU hW⟩ rfl rfl hl.1 rfl (lv_room (Nat.le_of_ble_eq_true rfl)) dX10_enterQuotient_27 ⟨Nat.le_of_ble_eq_true rfl, Nat.le_of_ble_eq_true rfl⟩) hP hD hS hA rfl (fun _ => rfl) (fun r u H locs hw hP hD hS => ?_)
          subst hw
          have hP : va_P (gD g) zCl (wRoot g ad st sv isS hst spare undo seen dbef drec ptx plen ppos pcnt cmds stE stF lch llen) H := hP
          have hD : va_D A (wRoot g ad st sv isS hst spare undo seen dbef drec ptx plen ppos pcnt cmds stE stF lch llen) := hD
          refine lv_iload_n hx hb dX10_enterQuotient_30 rfl (lv_at hl 3 rfl) ?_
          refine lv_iload hx hb dX10_enterQuotient_31 (lv_at hl 4 rfl) ?_
          obtain ⟨zo6, hzo6, hF⟩ := z_bind hF
          refine z_calli (fun (u : SS) => (wState g (ad 1) (ad 2) (ad 3) (ad 4) (ad 5) u)) [1, 2, 3, 4, 5] (va_runV (As := [.long zo5, .int p3, .int p4]) (rest := []) ⟨hx, hb, hml, hown, hts⟩ (c_X8_enter l g (ad 1) (ad 2) (ad 3) (ad 4) (ad 5) st _ zo5 p3 p4 _ hzo6) (cwV 3 hts (gdV mU_660 mU_661 mU_662 mU_67 mU_663) rfl rfl rfl (by decide +kernel) ⟨Nat.le_of_ble_eq_true rfl, Nat.le_of_ble_eq_true rfl⟩) ⟨z_blind _ _ _ _, va_recv hK hP (ci := 5) (q0 := 1) rfl rfl, fun U hU hW => z_pre [1, 2, 3, 4, 5] hP hD hK hB hS hA rfl rfl hU hW⟩ rfl rfl hl.1 rfl (lv_room (Nat.le_of_ble_eq_true rfl)) dX10_enterQuotient_33 ⟨Nat.le_of_ble_eq_true rfl, Nat.le_of_ble_eq_true rfl⟩) hP hD hS hA rfl (fun _ => rfl) (fun r u H locs hw hP hD hS => ?_)
          obtain ⟨rfl, rfl⟩ := hw
          have hP : va_P (gD g) zCl (wRoot g ad zo6.2 sv isS hst spare undo seen dbef drec ptx plen ppos pcnt cmds stE stF lch llen) H := hP
          have hD : va_D A (wRoot g ad zo6.2 sv isS hst spare undo seen dbef drec ptx plen ppos pcnt cmds stE stF lch llen) := hD
          have ho := (Option.some.inj hF).symm
          refine vx_ret ?_
          exact W.iret (v := zo6.1) hx hb hr (fun t ht hW => ⟨⟨zo6.1, zo6.2, rfl, ⟨_, ho, rfl, rfl⟩, z_end ht hP⟩, hS.F ht⟩) hS.2.2 dX10_enterQuotient_36
abbrev w_X10_releaseNumber : List Cond := .code yX10_releaseNumber cX10_releaseNumber 2 (some .long) :: wU
abbrev r_X10_releaseNumber : Room := { frames := 7, cells := 1, slots := 6, locals := 104 }
abbrev q_X10_releaseNumber (g : GG) (ad : Nat → Nat) (st : SS) (sv : SS) (isS : Int32) (hst : Nat → SS) (spare : Int32) (undo : Int32) (seen : Nat → Int32) (dbef : Int32) (drec : Int32) (ptx : Nat → Int32) (plen : Int32) (ppos : Int32) (pcnt : Int32) (cmds : Nat → CC) (stE : Int32) (stF : Int32) (lch : Nat → Int32) (llen : Int32) (o : Except (Nat × (SS)) (Int64 × SS)) (A : Nat → Prop) := va_Ql (fun (r : Int64) (u : SS) => ∃ a : Int64 × SS, o = .ok a ∧ a.1 = r ∧ a.2 = u) (fun u t => va_P (gD g) zCl (wRoot g ad u sv isS hst spare undo seen dbef drec ptx plen ppos pcnt cmds stE stF lch llen) t.heap) A
abbrev x_X10_releaseNumber (g : GG) (ad : Nat → Nat) (st : SS) (sv : SS) (isS : Int32) (hst : Nat → SS) (spare : Int32) (undo : Int32) (seen : Nat → Int32) (dbef : Int32) (drec : Int32) (ptx : Nat → Int32) (plen : Int32) (ppos : Int32) (pcnt : Int32) (cmds : Nat → CC) (stE : Int32) (stF : Int32) (lch : Nat → Int32) (llen : Int32) (o : Except (Nat × (SS)) (Int64 × SS)) (A : Nat → Prop) := vx_X (fun (x : Nat × (SS)) => o = .error x) (fun E x t => E = xN x.1 ∧ va_P (gD g) zCl (wRoot g ad x.2 sv isS hst spare undo seen dbef drec ptx plen ppos pcnt cmds stE stF lch llen) t.heap) A
set_option maxHeartbeats 4000000 in
set_option maxRecDepth 100000 in
theorem c_X10_releaseNumber (l : Launch) (hl0 : l.stackTraces = false) (g : GG) (ad : Nat → Nat) (st : SS) (sv : SS) (isS : Int32) (hst : Nat → SS) (spare : Int32) (undo : Int32) (seen : Nat → Int32) (dbef : Int32) (drec : Int32) (ptx : Nat → Int32) (plen : Int32) (ppos : Int32) (pcnt : Int32) (cmds : Nat → CC) (stE : Int32) (stF : Int32) (lch : Nat → Int32) (llen : Int32) (sz : Nat) (p1 : Int32) (fu : Nat) (o : Except (Nat × (SS)) (Int64 × SS)) (hF : F_X10_releaseNumber fu st p1 = some o) : vx_Met l yX10_releaseNumber w_X10_releaseNumber r_X10_releaseNumber (va_Pc [.ref (ad 0), .int p1] (zP g (wRoot g ad st sv isS hst spare undo seen dbef drec ptx plen ppos pcnt cmds stE stF lch llen) sz)) (q_X10_releaseNumber g ad st sv isS hst spare undo seen dbef drec ptx plen ppos pcnt cmds stE stF lch llen o (va_A (wRoot g ad st sv isS hst spare undo seen dbef drec ptx plen ppos pcnt cmds stE stF lch llen) sz)) (x_X10_releaseNumber g ad st sv isS hst spare undo seen dbef drec ptx plen ppos pcnt cmds stE stF lch llen o (va_A (wRoot g ad st sv isS hst spare undo seen dbef drec ptx plen ppos pcnt cmds stE stF lch llen) sz)) 1 6 (va_A (wRoot g ad st sv isS hst spare undo seen dbef drec ptx plen ppos pcnt cmds stE stF lch llen) sz) := by
  refine vx_ofW (cc := cX10_releaseNumber) (maxL := 2) (ret := (some .long)) (by decide) rfl ?_
  intro p e s m args below meth c s₁ B hml hnx hv
  obtain ⟨rfl, rfl, hP, hK, hD0, hB⟩ := hv
  have hx := B.exec
  have hb := B.bytes
  have hr := B.returns
  have hts : ∀ w ∈ wU, w.before _ s = true := fun w h => atoms_spec (ws := w_X10_releaseNumber) B.pre w (List.mem_cons_of_mem _ h)
  have hown : s.vm.findClass RX10 = some m.cls := findClass_of_methodNamed B.named
  have hlocks := B.notSynchronized
  have hD := hD0.self (sz := s.heap.size)
  generalize hAe : va_A (wRoot g ad st sv isS hst spare undo seen dbef drec ptx plen ppos pcnt cmds stE stF lch llen) s.heap.size = A at hD hB ⊢
  have hA : ∀ q : Nat, s.heap.size ≤ q → A q := fun q h => by rw [← hAe]; exact Or.inr h
  have hS : va_S A s.heap s.heap [] := va_S.rf
  have hl := lv_entry ([.ref (ad 0), .int p1]) (n := 2) (Nat.le_of_ble_eq_true rfl)
  rw [lg_entry_eq]
  generalize (lg_sl ([.ref (ad 0), .int p1]) ++ List.replicate (2 - (lg_sl ([.ref (ad 0), .int p1])).length) Slot.unset).toArray = ls at hl ⊢
  have hl : lv_has ls 2 [(0, .ref (ad 0)), (1, .int p1)] := hl
  unfold F_X10_releaseNumber at hF
  refine lv_aload_n hx hb dX10_releaseNumber_0 rfl (lv_at hl 0 rfl) ?_
  refine va_get (D := gD g) (ci := 6) (v := .ref (ad 1)) (C := RX10) (T := TX10) (N := 9) hx hb hts inX10 hown hK hP 0 rfl rfl 0 (by decide) (hts _ mU_277) (fun _ h9 => h9) rfl dX10_releaseNumber_1 ?_
  refine lv_aload_n hx hb dX10_releaseNumber_4 rfl (lv_at hl 0 rfl) ?_
  refine lv_iload_n hx hb dX10_releaseNumber_5 rfl (lv_at hl 1 rfl) ?_
  obtain ⟨zo1, hzo1, hF⟩ := z_bind hF
  refine z_calliXE (fun (_ : Unit) => (wRoot g ad st sv isS hst spare undo seen dbef drec ptx plen ppos pcnt cmds stE stF lch llen)) (fun (x : Nat × (Unit)) => (wRoot g ad st sv isS hst spare undo seen dbef drec ptx plen ppos pcnt cmds stE stF lch llen)) (fun (x : Nat × (Unit)) => xN x.1) (vx_runV (As := [.int p1]) (rest := [.ref (ad 1)]) ⟨hx, hb, hml, hown, hts⟩ (c_X10_requirePosition l hl0 g ad st sv isS hst spare undo seen dbef drec ptx plen ppos pcnt cmds stE stF lch llen _ p1 fu _ hzo1) (cwV 1 hts (gdV mU_699 mU_701 mU_7 mU_66 mU_702) rfl rfl rfl (by decide +kernel) ⟨Nat.le_of_ble_eq_true rfl, Nat.le_of_ble_eq_true rfl⟩) ⟨z_blind _ _ _ _, va_recv hK hP (ci := 6) (q0 := 0) rfl rfl, fun U hU hW => z_preE hP hD hK hB hS hA hU hW⟩ rfl rfl hl.1 rfl (lv_room (Nat.le_of_ble_eq_true rfl)) dX10_releaseNumber_6 ⟨Nat.le_of_ble_eq_true rfl, Nat.le_of_ble_eq_true rfl⟩) hD hS hA (fun _ => rfl) (fun _ => rfl) (fun zw1 ce q9 H locs hw hP hD hS hq1 hq2 hq3 => ?_) (fun r u H locs hw hP hD hS => ?_)
  · subst hw
    have hF : _ = some o := hF
    have hP : va_P (gD g) zCl (wRoot g ad st sv isS hst spare undo seen dbef drec ptx plen ppos pcnt cmds stE stF lch llen) H := hP
    have hD : va_D A (wRoot g ad st sv isS hst spare undo seen dbef drec ptx plen ppos pcnt cmds stE stF lch llen) := hD
    have hF := z_err hF
    have ho := (Option.some.inj hF).symm
    exact vx_out (fun x hx => (hnx x hx).elim) hlocks hq1 hq2 hq3 (fun t ht hvm => ⟨(zw1.1, st), ho, ⟨rfl, z_end ht hP⟩, hS.F ht⟩) hS.2.2 (Nat.le_of_ble_eq_true rfl) (Nat.le_of_ble_eq_true rfl)
  · obtain ⟨za1, rfl, rfl⟩ := hw
    have hF := z_okk hF
    have hP : va_P (gD g) zCl (wRoot g ad st sv isS hst spare undo seen dbef drec ptx plen ppos pcnt cmds stE stF lch llen) H := hP
    have hD : va_D A (wRoot g ad st sv isS hst spare undo seen dbef drec ptx plen ppos pcnt cmds stE stF lch llen) := hD
    obtain ⟨zo2, hzo2, hF⟩ := z_bind hF
    refine z_calll (fun (u : SS) => (wState g (ad 1) (ad 2) (ad 3) (ad 4) (ad 5) u)) [1, 2, 3, 4, 5] (va_runV (As := [.int za1]) (rest := []) ⟨hx, hb, hml, hown, hts⟩ (c_X8_takeOut l g (ad 1) (ad 2) (ad 3) (ad 4) (ad 5) st _ za1 fu _ hzo2) (cwV 1 hts (gdV mU_719 mU_720 mU_721 mU_67 mU_722) rfl rfl rfl (by decide +kernel) ⟨Nat.le_of_ble_eq_true rfl, Nat.le_of_ble_eq_true rfl⟩) ⟨z_blind _ _ _ _, va_recv hK hP (ci := 5) (q0 := 1) rfl rfl, fun U hU hW => z_pre [1, 2, 3, 4, 5] hP hD hK hB hS hA rfl rfl hU hW⟩ rfl rfl hl.1 rfl (lv_room (Nat.le_of_ble_eq_true rfl)) dX10_releaseNumber_9 ⟨Nat.le_of_ble_eq_true rfl, Nat.le_of_ble_eq_true rfl⟩) hP hD hS hA rfl (fun _ => rfl) (fun r u H locs hw hP hD hS => ?_)
    obtain ⟨rfl, rfl⟩ := hw
    have hP : va_P (gD g) zCl (wRoot g ad zo2.2 sv isS hst spare undo seen dbef drec ptx plen ppos pcnt cmds stE stF lch llen) H := hP
    have hD : va_D A (wRoot g ad zo2.2 sv isS hst spare undo seen dbef drec ptx plen ppos pcnt cmds stE stF lch llen) := hD
    have ho := (Option.some.inj hF).symm
    refine vx_ret ?_
    exact W.lret (v := zo2.1) hx hb hr (fun t ht hW => ⟨⟨zo2.1, zo2.2, rfl, ⟨_, ho, rfl, rfl⟩, z_end ht hP⟩, hS.F ht⟩) hS.2.2 dX10_releaseNumber_12
abbrev w_X10_feedNumber : List Cond := .code yX10_feedNumber cX10_feedNumber 7 (some .long) :: wU
abbrev r_X10_feedNumber : Room := { frames := 7, cells := 2, slots := 12, locals := 104 }
abbrev q_X10_feedNumber (g : GG) (ad : Nat → Nat) (st : SS) (sv : SS) (isS : Int32) (hst : Nat → SS) (spare : Int32) (undo : Int32) (seen : Nat → Int32) (dbef : Int32) (drec : Int32) (ptx : Nat → Int32) (plen : Int32) (ppos : Int32) (pcnt : Int32) (cmds : Nat → CC) (stE : Int32) (stF : Int32) (lch : Nat → Int32) (llen : Int32) (o : Except (Nat × (SS)) (Int64 × SS)) (A : Nat → Prop) := va_Ql (fun (r : Int64) (u : SS) => ∃ a : Int64 × SS, o = .ok a ∧ a.1 = r ∧ a.2 = u) (fun u t => va_P (gD g) zCl (wRoot g ad u sv isS hst spare undo seen dbef drec ptx plen ppos pcnt cmds stE stF lch llen) t.heap) A
abbrev x_X10_feedNumber (g : GG) (ad : Nat → Nat) (st : SS) (sv : SS) (isS : Int32) (hst : Nat → SS) (spare : Int32) (undo : Int32) (seen : Nat → Int32) (dbef : Int32) (drec : Int32) (ptx : Nat → Int32) (plen : Int32) (ppos : Int32) (pcnt : Int32) (cmds : Nat → CC) (stE : Int32) (stF : Int32) (lch : Nat → Int32) (llen : Int32) (o : Except (Nat × (SS)) (Int64 × SS)) (A : Nat → Prop) := vx_X (fun (x : Nat × (SS)) => o = .error x) (fun E x t => E = xN x.1 ∧ va_P (gD g) zCl (wRoot g ad x.2 sv isS hst spare undo seen dbef drec ptx plen ppos pcnt cmds stE stF lch llen) t.heap) A
set_option maxHeartbeats 4000000 in
set_option maxRecDepth 100000 in
theorem c_X10_feedNumber (l : Launch) (hl0 : l.stackTraces = false) (g : GG) (ad : Nat → Nat) (st : SS) (sv : SS) (isS : Int32) (hst : Nat → SS) (spare : Int32) (undo : Int32) (seen : Nat → Int32) (dbef : Int32) (drec : Int32) (ptx : Nat → Int32) (plen : Int32) (ppos : Int32) (pcnt : Int32) (cmds : Nat → CC) (stE : Int32) (stF : Int32) (lch : Nat → Int32) (llen : Int32) (sz : Nat) (p1 : Int32) (p2 : Int32) (p3 : Int32) (fu : Nat) (o : Except (Nat × (SS)) (Int64 × SS)) (hF : F_X10_feedNumber fu st p1 p2 p3 = some o) : vx_Met l yX10_feedNumber w_X10_feedNumber r_X10_feedNumber (va_Pc [.ref (ad 0), .int p1, .int p2, .int p3] (zP g (wRoot g ad st sv isS hst spare undo seen dbef drec ptx plen ppos pcnt cmds stE stF lch llen) sz)) (q_X10_feedNumber g ad st sv isS hst spare undo seen dbef drec ptx plen ppos pcnt cmds stE stF lch llen o (va_A (wRoot g ad st sv isS hst spare undo seen dbef drec ptx plen ppos pcnt cmds stE stF lch llen) sz)) (x_X10_feedNumber g ad st sv isS hst spare undo seen dbef drec ptx plen ppos pcnt cmds stE stF lch llen o (va_A (wRoot g ad st sv isS hst spare undo seen dbef drec ptx plen ppos pcnt cmds stE stF lch llen) sz)) 2 12 (va_A (wRoot g ad st sv isS hst spare undo seen dbef drec ptx plen ppos pcnt cmds stE stF lch llen) sz) := by
  refine vx_ofW (cc := cX10_feedNumber) (maxL := 7) (ret := (some .long)) (by decide) rfl ?_
  intro p e s m args below meth c s₁ B hml hnx hv
  obtain ⟨rfl, rfl, hP, hK, hD0, hB⟩ := hv
  have hx := B.exec
  have hb := B.bytes
  have hr := B.returns
  have hts : ∀ w ∈ wU, w.before _ s = true := fun w h => atoms_spec (ws := w_X10_feedNumber) B.pre w (List.mem_cons_of_mem _ h)
  have hown : s.vm.findClass RX10 = some m.cls := findClass_of_methodNamed B.named
  have hlocks := B.notSynchronized
  have hD := hD0.self (sz := s.heap.size)
  generalize hAe : va_A (wRoot g ad st sv isS hst spare undo seen dbef drec ptx plen ppos pcnt cmds stE stF lch llen) s.heap.size = A at hD hB ⊢
  have hA : ∀ q : Nat, s.heap.size ≤ q → A q := fun q h => by rw [← hAe]; exact Or.inr h
  have hS : va_S A s.heap s.heap [] := va_S.rf
  have hl := lv_entry ([.ref (ad 0), .int p1, .int p2, .int p3]) (n := 7) (Nat.le_of_ble_eq_true rfl)
  rw [lg_entry_eq]
  generalize (lg_sl ([.ref (ad 0), .int p1, .int p2, .int p3]) ++ List.replicate (7 - (lg_sl ([.ref (ad 0), .int p1, .int p2, .int p3])).length) Slot.unset).toArray = ls at hl ⊢
  have hl : lv_has ls 7 [(0, .ref (ad 0)), (1, .int p1), (2, .int p2), (3, .int p3)] := hl
  unfold F_X10_feedNumber at hF
  refine lv_aload_n hx hb dX10_feedNumber_0 rfl (lv_at hl 0 rfl) ?_
  refine lv_iload_n hx hb dX10_feedNumber_1 rfl (lv_at hl 1 rfl) ?_
  obtain ⟨zo1, hzo1, hF⟩ := z_bind hF
  refine z_calliXE (fun (_ : Unit) => (wRoot g ad st sv isS hst spare undo seen dbef drec ptx plen ppos pcnt cmds stE stF lch llen)) (fun (x : Nat × (Unit)) => (wRoot g ad st sv isS hst spare undo seen dbef drec ptx plen ppos pcnt cmds stE stF lch llen)) (fun (x : Nat × (Unit)) => xN x.1) (vx_runV (As := [.int p1]) (rest := []) ⟨hx, hb, hml, hown, hts⟩ (c_X10_requirePosition l hl0 g ad st sv isS hst spare undo seen dbef drec ptx plen ppos pcnt cmds stE stF lch llen _ p1 fu _ hzo1) (cwV 1 hts (gdV mU_699 mU_701 mU_7 mU_66 mU_702) rfl rfl rfl (by decide +kernel) ⟨Nat.le_of_ble_eq_true rfl, Nat.le_of_ble_eq_true rfl⟩) ⟨z_blind _ _ _ _, va_recv hK hP (ci := 6) (q0 := 0) rfl rfl, fun U hU hW => z_preE hP hD hK hB hS hA hU hW⟩ rfl rfl hl.1 rfl (lv_room (Nat.le_of_ble_eq_true rfl)) dX10_feedNumber_2 ⟨Nat.le_of_ble_eq_true rfl, Nat.le_of_ble_eq_true rfl⟩) hD hS hA (fun _ => rfl) (fun _ => rfl) (fun zw1 ce q9 H locs hw hP hD hS hq1 hq2 hq3 => ?_) (fun r u H locs hw hP hD hS => ?_)
  · subst hw
    have hF : _ = some o := hF
    have hP : va_P (gD g) zCl (wRoot g ad st sv isS hst spare undo seen dbef drec ptx plen ppos pcnt cmds stE stF lch llen) H := hP
    have hD : va_D A (wRoot g ad st sv isS hst spare undo seen dbef drec ptx plen ppos pcnt cmds stE stF lch llen) := hD
    have hF := z_err hF
    have ho := (Option.some.inj hF).symm
    exact vx_out (fun x hx => (hnx x hx).elim) hlocks hq1 hq2 hq3 (fun t ht hvm => ⟨(zw1.1, st), ho, ⟨rfl, z_end ht hP⟩, hS.F ht⟩) hS.2.2 (Nat.le_of_ble_eq_true rfl) (Nat.le_of_ble_eq_true rfl)
  · obtain ⟨za1, rfl, rfl⟩ := hw
    have hF := z_okk hF
    have hP : va_P (gD g) zCl (wRoot g ad st sv isS hst spare undo seen dbef drec ptx plen ppos pcnt cmds stE stF lch llen) H := hP
    have hD : va_D A (wRoot g ad st sv isS hst spare undo seen dbef drec ptx plen ppos pcnt cmds stE stF lch llen) := hD
    refine lv_istore (lv' := [(4, .int za1), (0, .ref (ad 0)), (1, .int p1), (2, .int p2), (3, .int p3)]) hx hb dX10_feedNumber_5 hl (by decide) rfl (fun ls hl => ?_)
    refine lv_iload_n hx hb dX10_feedNumber_7 rfl (lv_at hl 3 rfl) ?_
    refine lv_iload_n hx hb dX10_feedNumber_8 rfl (lv_at hl 4 rfl) ?_
    obtain ⟨zo2, hzo2, hF⟩ := z_bind hF
    refine z_callvX (fun (_ : Unit) => []) (fun (x : Nat × (Unit)) => []) (fun (x : Nat × (Unit)) => xN x.1) [] (vx_runS (As := [.int p2, .int p3]) (rest := []) ⟨hx, hb, hml, hown, hts⟩ (c_X10_requireAmount l hl0 g _ p2 p3 _ hzo2) (va_cwS 2 hts (gdS mU_452 mU_453 mU_66 mU_454) rfl rfl rfl (by decide +kernel) ⟨Nat.le_of_ble_eq_true rfl, Nat.le_of_ble_eq_true rfl⟩) ⟨z_blind _ _ _ _, fun U hU hW => z_pre [] hP hD hK hB hS hA rfl rfl hU hW⟩ rfl rfl hl.1 rfl (lv_room (Nat.le_of_ble_eq_true rfl)) dX10_feedNumber_9 ⟨Nat.le_of_ble_eq_true rfl, Nat.le_of_ble_eq_true rfl⟩) hP hD hS hA rfl (fun _ => rfl) (fun _ => rfl) (fun zw2 ce q9 H locs hw hP hD hS hq1 hq2 hq3 => ?_) (fun u H locs hw hP hD hS => ?_)
    · subst hw
      have hF : _ = some o := hF
      have hP : va_P (gD g) zCl (wRoot g ad st sv isS hst spare undo seen dbef drec ptx plen ppos pcnt cmds stE stF lch llen) H := hP
      have hD : va_D A (wRoot g ad st sv isS hst spare undo seen dbef drec ptx plen ppos pcnt cmds stE stF lch llen) := hD
      have hF := z_err hF
      have ho := (Option.some.inj hF).symm
      exact vx_out (fun x hx => (hnx x hx).elim) hlocks hq1 hq2 hq3 (fun t ht hvm => ⟨(zw2.1, st), ho, ⟨rfl, z_end ht hP⟩, hS.F ht⟩) hS.2.2 (Nat.le_of_ble_eq_true rfl) (Nat.le_of_ble_eq_true rfl)
    · obtain ⟨za2, rfl, rfl⟩ := hw
      have hF := z_okk hF
      have hP : va_P (gD g) zCl (wRoot g ad st sv isS hst spare undo seen dbef drec ptx plen ppos pcnt cmds stE stF lch llen) H := hP
      have hD : va_D A (wRoot g ad st sv isS hst spare undo seen dbef drec ptx plen ppos pcnt cmds stE stF lch llen) := hD
      refine lv_iload_n hx hb dX10_feedNumber_12 rfl (lv_at hl 3 rfl) ?_
      refine lv_iload_n hx hb dX10_feedNumber_13 rfl (lv_at hl 4 rfl) ?_
      obtain ⟨zo3, hzo3, hF⟩ := z_bind hF
      refine z_calll (fun (_ : Unit) => []) [] (va_runS (As := [.int p2, .int p3]) (rest := []) ⟨hx, hb, hml, hown, hts⟩ (c_X10_unitsOf l g _ p2 p3 _ hzo3) (va_cwS 2 hts (gdS mU_399 mU_400 mU_66 mU_401) rfl rfl rfl (by decide +kernel) ⟨Nat.le_of_ble_eq_true rfl, Nat.le_of_ble_eq_true rfl⟩) ⟨z_blind _ _ _ _, fun U hU hW => z_pre [] hP hD hK hB hS hA rfl rfl hU hW⟩ rfl rfl hl.1 rfl (lv_room (Nat.le_of_ble_eq_true rfl)) dX10_feedNumber_14 ⟨Nat.le_of_ble_eq_true rfl, Nat.le_of_ble_eq_true rfl⟩) hP hD hS hA rfl (fun _ => rfl) (fun r u H locs hw hP hD hS => ?_)
      subst hw
      have hP : va_P (gD g) zCl (wRoot g ad st sv isS hst spare undo seen dbef drec ptx plen ppos pcnt cmds stE stF lch llen) H := hP
      have hD : va_D A (wRoot g ad st sv isS hst spare undo seen dbef drec ptx plen ppos pcnt cmds stE stF lch llen) := hD
      refine lv_lstore (lv' := [(5, .long zo3), (4, .int za1), (0, .ref (ad 0)), (1, .int p1), (2, .int p2), (3, .int p3)]) hx hb dX10_feedNumber_17 hl (by decide) rfl (fun ls hl => ?_)
      refine lv_aload_n hx hb dX10_feedNumber_19 rfl (lv_at hl 2 rfl) ?_
      refine va_get (D := gD g) (ci := 6) (v := .ref (ad 1)) (C := RX10) (T := TX10) (N := 9) hx hb hts inX10 hown hK hP 0 rfl rfl 0 (by decide) (hts _ mU_277) (fun _ h9 => h9) rfl dX10_feedNumber_20 ?_
      refine lv_dup hx hb dX10_feedNumber_23 rfl ?_
      refine va_getN (D := gD g) (ci := 5) (v := .long (s_fed st)) (C := RX8) (T := TX8) (N := 11) hx hb hts inX8 hown hK hP 1 rfl rfl 9 (by decide) (va_Nw.use rfl (hB.2.1.1 _ zn_131)) (fun _ h9 => h9) rfl dX10_feedNumber_24 ?_
      refine lv_lload hx hb dX10_feedNumber_27 (lv_at hl 0 rfl) ?_
      refine lv_ladd hx hb dX10_feedNumber_29 ?_
      refine va_putN (D := gD g) (ci := 5) (v := .long ((s_fed st) + zo3)) (ty := .long) (C := RX8) (T := TX8) (N := 11) hx hb hts inX8 tyX8 tyX8_ok nmX8 hown hK hP hD hS 1 rfl rfl 9 (by decide) (va_Nw.use rfl (hB.2.1.1 _ zn_131)) (fun _ h9 => h9) rfl (by decide +kernel) rfl rfl (Nat.le_of_ble_eq_true rfl) dX10_feedNumber_30 (fun H locs hP hD hS => ?_)
      have hP : va_P (gD g) zCl (wRoot g ad ((s_ids st), (s_vals st), (s_scs st), (s_mds st), (s_cnt st), (s_nxt st), (s_esc st), (s_fal st), (s_add st), ((s_fed st) + zo3), (s_rem st)) sv isS hst spare undo seen dbef drec ptx plen ppos pcnt cmds stE stF lch llen) H := hP
      have hD : va_D A (wRoot g ad ((s_ids st), (s_vals st), (s_scs st), (s_mds st), (s_cnt st), (s_nxt st), (s_esc st), (s_fal st), (s_add st), ((s_fed st) + zo3), (s_rem st)) sv isS hst spare undo seen dbef drec ptx plen ppos pcnt cmds stE stF lch llen) := hD
      refine lv_aload_n hx hb dX10_feedNumber_33 rfl (lv_at hl 2 rfl) ?_
      refine va_get (D := gD g) (ci := 6) (v := .ref (ad 1)) (C := RX10) (T := TX10) (N := 9) hx hb hts inX10 hown hK hP 0 rfl rfl 0 (by decide) (hts _ mU_277) (fun _ h9 => h9) rfl dX10_feedNumber_34 ?_
      refine lv_iload hx hb dX10_feedNumber_37 (lv_at hl 1 rfl) ?_
      refine lv_aload_n hx hb dX10_feedNumber_39 rfl (lv_at hl 2 rfl) ?_
      refine va_get (D := gD g) (ci := 6) (v := .ref (ad 1)) (C := RX10) (T := TX10) (N := 9) hx hb hts inX10 hown hK hP 0 rfl rfl 0 (by decide) (hts _ mU_277) (fun _ h9 => h9) rfl dX10_feedNumber_40 ?_
      refine va_getN (D := gD g) (ci := 5) (v := .ref (ad 3)) (C := RX8) (T := TX8) (N := 11) hx hb hts inX8 hown hK hP 1 rfl rfl 1 (by decide) (va_Nw.use rfl (hB.2.1.1 _ zn_116)) (fun _ h9 => h9) rfl dX10_feedNumber_43 ?_
      refine lv_iload hx hb dX10_feedNumber_46 (lv_at hl 1 rfl) ?_
      obtain ⟨zg4, hF⟩ := z_grd hF
      refine va_lald hx hb hK hP 3 2 rfl rfl zg4 dX10_feedNumber_48 ?_
      refine lv_lload hx hb dX10_feedNumber_49 (lv_at hl 0 rfl) ?_
      refine lv_ladd hx hb dX10_feedNumber_51 ?_
      obtain ⟨zo5, hzo5, hF⟩ := z_bind hF
      refine z_calll (fun (u : SS) => (wState g (ad 1) (ad 2) (ad 3) (ad 4) (ad 5) u)) [1, 2, 3, 4, 5] (va_runV (As := [.int za1, .long (((s_vals st) (Int32.toNatClampNeg za1)) + zo3)]) (rest := []) ⟨hx, hb, hml, hown, hts⟩ (c_X8_becomeRounded l g (ad 1) (ad 2) (ad 3) (ad 4) (ad 5) ((s_ids st), (s_vals st), (s_scs st), (s_mds st), (s_cnt st), (s_nxt st), (s_esc st), (s_fal st), (s_add st), ((s_fed st) + zo3), (s_rem st)) _ za1 (((s_vals st) (Int32.toNatClampNeg za1)) + zo3) _ hzo5) (cwV 2 hts (gdV mU_734 mU_735 mU_736 mU_67 mU_737) rfl rfl rfl (by decide +kernel) ⟨Nat.le_of_ble_eq_true rfl, Nat.le_of_ble_eq_true rfl⟩) ⟨z_blind _ _ _ _, va_recv hK hP (ci := 5) (q0 := 1) rfl rfl, fun U hU hW => z_pre [1, 2, 3, 4, 5] hP hD hK hB hS hA rfl rfl hU hW⟩ rfl rfl hl.1 rfl (lv_room (Nat.le_of_ble_eq_true rfl)) dX10_feedNumber_52 ⟨Nat.le_of_ble_eq_true rfl, Nat.le_of_ble_eq_true rfl⟩) hP hD hS hA rfl (fun _ => rfl) (fun r u H locs hw hP hD hS => ?_)
      obtain ⟨rfl, rfl⟩ := hw
      have hP : va_P (gD g) zCl (wRoot g ad zo5.2 sv isS hst spare undo seen dbef drec ptx plen ppos pcnt cmds stE stF lch llen) H := hP
      have hD : va_D A (wRoot g ad zo5.2 sv isS hst spare undo seen dbef drec ptx plen ppos pcnt cmds stE stF lch llen) := hD
      have ho := (Option.some.inj hF).symm
      refine vx_ret ?_
      exact W.lret (v := zo5.1) hx hb hr (fun t ht hW => ⟨⟨zo5.1, zo5.2, rfl, ⟨_, ho, rfl, rfl⟩, z_end ht hP⟩, hS.F ht⟩) hS.2.2 dX10_feedNumber_55
abbrev w_X10_tradeAmount : List Cond := .code yX10_tradeAmount cX10_tradeAmount 9 (some .long) :: wU
abbrev r_X10_tradeAmount : Room := { frames := 7, cells := 4, slots := 24, locals := 104 }
abbrev q_X10_tradeAmount (g : GG) (ad : Nat → Nat) (st : SS) (sv : SS) (isS : Int32) (hst : Nat → SS) (spare : Int32) (undo : Int32) (seen : Nat → Int32) (dbef : Int32) (drec : Int32) (ptx : Nat → Int32) (plen : Int32) (ppos : Int32) (pcnt : Int32) (cmds : Nat → CC) (stE : Int32) (stF : Int32) (lch : Nat → Int32) (llen : Int32) (o : Except (Nat × (SS)) (Int64 × SS)) (A : Nat → Prop) := va_Ql (fun (r : Int64) (u : SS) => ∃ a : Int64 × SS, o = .ok a ∧ a.1 = r ∧ a.2 = u) (fun u t => va_P (gD g) zCl (wRoot g ad u sv isS hst spare undo seen dbef drec ptx plen ppos pcnt cmds stE stF lch llen) t.heap) A
abbrev x_X10_tradeAmount (g : GG) (ad : Nat → Nat) (st : SS) (sv : SS) (isS : Int32) (hst : Nat → SS) (spare : Int32) (undo : Int32) (seen : Nat → Int32) (dbef : Int32) (drec : Int32) (ptx : Nat → Int32) (plen : Int32) (ppos : Int32) (pcnt : Int32) (cmds : Nat → CC) (stE : Int32) (stF : Int32) (lch : Nat → Int32) (llen : Int32) (o : Except (Nat × (SS)) (Int64 × SS)) (A : Nat → Prop) := vx_X (fun (x : Nat × (SS)) => o = .error x) (fun E x t => E = xN x.1 ∧ va_P (gD g) zCl (wRoot g ad x.2 sv isS hst spare undo seen dbef drec ptx plen ppos pcnt cmds stE stF lch llen) t.heap) A
set_option maxHeartbeats 4000000 in
set_option maxRecDepth 100000 in
theorem c_X10_tradeAmount (l : Launch) (hl0 : l.stackTraces = false) (g : GG) (ad : Nat → Nat) (st : SS) (sv : SS) (isS : Int32) (hst : Nat → SS) (spare : Int32) (undo : Int32) (seen : Nat → Int32) (dbef : Int32) (drec : Int32) (ptx : Nat → Int32) (plen : Int32) (ppos : Int32) (pcnt : Int32) (cmds : Nat → CC) (stE : Int32) (stF : Int32) (lch : Nat → Int32) (llen : Int32) (sz : Nat) (p1 : Int32) (p2 : Int32) (p3 : Int32) (p4 : Int32) (fu : Nat) (o : Except (Nat × (SS)) (Int64 × SS)) (hF : F_X10_tradeAmount fu st p1 p2 p3 p4 = some o) : vx_Met l yX10_tradeAmount w_X10_tradeAmount r_X10_tradeAmount (va_Pc [.ref (ad 0), .int p1, .int p2, .int p3, .int p4] (zP g (wRoot g ad st sv isS hst spare undo seen dbef drec ptx plen ppos pcnt cmds stE stF lch llen) sz)) (q_X10_tradeAmount g ad st sv isS hst spare undo seen dbef drec ptx plen ppos pcnt cmds stE stF lch llen o (va_A (wRoot g ad st sv isS hst spare undo seen dbef drec ptx plen ppos pcnt cmds stE stF lch llen) sz)) (x_X10_tradeAmount g ad st sv isS hst spare undo seen dbef drec ptx plen ppos pcnt cmds stE stF lch llen o (va_A (wRoot g ad st sv isS hst spare undo seen dbef drec ptx plen ppos pcnt cmds stE stF lch llen) sz)) 4 24 (va_A (wRoot g ad st sv isS hst spare undo seen dbef drec ptx plen ppos pcnt cmds stE stF lch llen) sz) := by
  refine vx_ofW (cc := cX10_tradeAmount) (maxL := 9) (ret := (some .long)) (by decide) rfl ?_
  intro p e s m args below meth c s₁ B hml hnx hv
  obtain ⟨rfl, rfl, hP, hK, hD0, hB⟩ := hv
  have hx := B.exec
  have hb := B.bytes
  have hr := B.returns
  have hts : ∀ w ∈ wU, w.before _ s = true := fun w h => atoms_spec (ws := w_X10_tradeAmount) B.pre w (List.mem_cons_of_mem _ h)
  have hown : s.vm.findClass RX10 = some m.cls := findClass_of_methodNamed B.named
  have hlocks := B.notSynchronized
  have hD := hD0.self (sz := s.heap.size)
  generalize hAe : va_A (wRoot g ad st sv isS hst spare undo seen dbef drec ptx plen ppos pcnt cmds stE stF lch llen) s.heap.size = A at hD hB ⊢
  have hA : ∀ q : Nat, s.heap.size ≤ q → A q := fun q h => by rw [← hAe]; exact Or.inr h
  have hS : va_S A s.heap s.heap [] := va_S.rf
  have hl := lv_entry ([.ref (ad 0), .int p1, .int p2, .int p3, .int p4]) (n := 9) (Nat.le_of_ble_eq_true rfl)
  rw [lg_entry_eq]
  generalize (lg_sl ([.ref (ad 0), .int p1, .int p2, .int p3, .int p4]) ++ List.replicate (9 - (lg_sl ([.ref (ad 0), .int p1, .int p2, .int p3, .int p4])).length) Slot.unset).toArray = ls at hl ⊢
  have hl : lv_has ls 9 [(0, .ref (ad 0)), (1, .int p1), (2, .int p2), (3, .int p3), (4, .int p4)] := hl
  unfold F_X10_tradeAmount at hF
  refine lv_aload_n hx hb dX10_tradeAmount_0 rfl (lv_at hl 0 rfl) ?_
  refine lv_iload_n hx hb dX10_tradeAmount_1 rfl (lv_at hl 1 rfl) ?_
  obtain ⟨zo1, hzo1, hF⟩ := z_bind hF
  refine z_calliXE (fun (_ : Unit) => (wRoot g ad st sv isS hst spare undo seen dbef drec ptx plen ppos pcnt cmds stE stF lch llen)) (fun (x : Nat × (Unit)) => (wRoot g ad st sv isS hst spare undo seen dbef drec ptx plen ppos pcnt cmds stE stF lch llen)) (fun (x : Nat × (Unit)) => xN x.1) (vx_runV (As := [.int p1]) (rest := []) ⟨hx, hb, hml, hown, hts⟩ (c_X10_requirePosition l hl0 g ad st sv isS hst spare undo seen dbef drec ptx plen ppos pcnt cmds stE stF lch llen _ p1 fu _ hzo1) (cwV 1 hts (gdV mU_699 mU_701 mU_7 mU_66 mU_702) rfl rfl rfl (by decide +kernel) ⟨Nat.le_of_ble_eq_true rfl, Nat.le_of_ble_eq_true rfl⟩) ⟨z_blind _ _ _ _, va_recv hK hP (ci := 6) (q0 := 0) rfl rfl, fun U hU hW => z_preE hP hD hK hB hS hA hU hW⟩ rfl rfl hl.1 rfl (lv_room (Nat.le_of_ble_eq_true rfl)) dX10_tradeAmount_2 ⟨Nat.le_of_ble_eq_true rfl, Nat.le_of_ble_eq_true rfl⟩) hD hS hA (fun _ => rfl) (fun _ => rfl) (fun zw1 ce q9 H locs hw hP hD hS hq1 hq2 hq3 => ?_) (fun r u H locs hw hP hD hS => ?_)
  · subst hw
    have hF : _ = some o := hF
    have hP : va_P (gD g) zCl (wRoot g ad st sv isS hst spare undo seen dbef drec ptx plen ppos pcnt cmds stE stF lch llen) H := hP
    have hD : va_D A (wRoot g ad st sv isS hst spare undo seen dbef drec ptx plen ppos pcnt cmds stE stF lch llen) := hD
    have hF := z_err hF
    have ho := (Option.some.inj hF).symm
    exact vx_out (fun x hx => (hnx x hx).elim) hlocks hq1 hq2 hq3 (fun t ht hvm => ⟨(zw1.1, st), ho, ⟨rfl, z_end ht hP⟩, hS.F ht⟩) hS.2.2 (Nat.le_of_ble_eq_true rfl) (Nat.le_of_ble_eq_true rfl)
  · obtain ⟨za1, rfl, rfl⟩ := hw
    have hF := z_okk hF
    have hP : va_P (gD g) zCl (wRoot g ad st sv isS hst spare undo seen dbef drec ptx plen ppos pcnt cmds stE stF lch llen) H := hP
    have hD : va_D A (wRoot g ad st sv isS hst spare undo seen dbef drec ptx plen ppos pcnt cmds stE stF lch llen) := hD
    refine lv_istore (lv' := [(5, .int za1), (0, .ref (ad 0)), (1, .int p1), (2, .int p2), (3, .int p3), (4, .int p4)]) hx hb dX10_tradeAmount_5 hl (by decide) rfl (fun ls hl => ?_)
    refine lv_aload_n hx hb dX10_tradeAmount_7 rfl (lv_at hl 1 rfl) ?_
    refine lv_iload_n hx hb dX10_tradeAmount_8 rfl (lv_at hl 3 rfl) ?_
    obtain ⟨zo2, hzo2, hF⟩ := z_bind hF
    refine z_calliXE (fun (_ : Unit) => (wRoot g ad st sv isS hst spare undo seen dbef drec ptx plen ppos pcnt cmds stE stF lch llen)) (fun (x : Nat × (Unit)) => (wRoot g ad st sv isS hst spare undo seen dbef drec ptx plen ppos pcnt cmds stE stF lch llen)) (fun (x : Nat × (Unit)) => xN x.1) (vx_runV (As := [.int p2]) (rest := []) ⟨hx, hb, hml, hown, hts⟩ (c_X10_requirePosition l hl0 g ad st sv isS hst spare undo seen dbef drec ptx plen ppos pcnt cmds stE stF lch llen _ p2 fu _ hzo2) (cwV 1 hts (gdV mU_699 mU_701 mU_7 mU_66 mU_702) rfl rfl rfl (by decide +kernel) ⟨Nat.le_of_ble_eq_true rfl, Nat.le_of_ble_eq_true rfl⟩) ⟨z_blind _ _ _ _, va_recv hK hP (ci := 6) (q0 := 0) rfl rfl, fun U hU hW => z_preE hP hD hK hB hS hA hU hW⟩ rfl rfl hl.1 rfl (lv_room (Nat.le_of_ble_eq_true rfl)) dX10_tradeAmount_9 ⟨Nat.le_of_ble_eq_true rfl, Nat.le_of_ble_eq_true rfl⟩) hD hS hA (fun _ => rfl) (fun _ => rfl) (fun zw2 ce q9 H locs hw hP hD hS hq1 hq2 hq3 => ?_) (fun r u H locs hw hP hD hS => ?_)
    · subst hw
      have hF : _ = some o := hF
      have hP : va_P (gD g) zCl (wRoot g ad st sv isS hst spare undo seen dbef drec ptx plen ppos pcnt cmds stE stF lch llen) H := hP
      have hD : va_D A (wRoot g ad st sv isS hst spare undo seen dbef drec ptx plen ppos pcnt cmds stE stF lch llen) := hD
      have hF := z_err hF
      have ho := (Option.some.inj hF).symm
      exact vx_out (fun x hx => (hnx x hx).elim) hlocks hq1 hq2 hq3 (fun t ht hvm => ⟨(zw2.1, st), ho, ⟨rfl, z_end ht hP⟩, hS.F ht⟩) hS.2.2 (Nat.le_of_ble_eq_true rfl) (Nat.le_of_ble_eq_true rfl)
    · obtain ⟨za2, rfl, rfl⟩ := hw
      have hF := z_okk hF
      have hP : va_P (gD g) zCl (wRoot g ad st sv isS hst spare undo seen dbef drec ptx plen ppos pcnt cmds stE stF lch llen) H := hP
      have hD : va_D A (wRoot g ad st sv isS hst spare undo seen dbef drec ptx plen ppos pcnt cmds stE stF lch llen) := hD
      refine lv_istore (lv' := [(6, .int za2), (5, .int za1), (0, .ref (ad 0)), (1, .int p1), (2, .int p2), (3, .int p3), (4, .int p4)]) hx hb dX10_tradeAmount_12 hl (by decide) rfl (fun ls hl => ?_)
      refine lv_iload hx hb dX10_tradeAmount_14 (lv_at hl 1 rfl) ?_
      refine lv_iload hx hb dX10_tradeAmount_16 (lv_at hl 0 rfl) ?_
      refine lv_icmp_ne (tgt := 31) hx hb dX10_tradeAmount_18 (by decide) (fun zc3 => ?_) (fun zc3 => ?_)
      · have hF := z_neg hF zc3
        refine lv_iload_n hx hb dX10_tradeAmount_31 rfl (lv_at hl 5 rfl) ?_
        refine lv_iload hx hb dX10_tradeAmount_32 (lv_at hl 6 rfl) ?_
        obtain ⟨zo4, hzo4, hF⟩ := z_bind hF
        refine z_callvX (fun (_ : Unit) => []) (fun (x : Nat × (Unit)) => []) (fun (x : Nat × (Unit)) => xN x.1) [] (vx_runS (As := [.int p3, .int p4]) (rest := []) ⟨hx, hb, hml, hown, hts⟩ (c_X10_requireAmount l hl0 g _ p3 p4 _ hzo4) (va_cwS 2 hts (gdS mU_452 mU_453 mU_66 mU_454) rfl rfl rfl (by decide +kernel) ⟨Nat.le_of_ble_eq_true rfl, Nat.le_of_ble_eq_true rfl⟩) ⟨z_blind _ _ _ _, fun U hU hW => z_pre [] hP hD hK hB hS hA rfl rfl hU hW⟩ rfl rfl hl.1 rfl (lv_room (Nat.le_of_ble_eq_true rfl)) dX10_tradeAmount_34 ⟨Nat.le_of_ble_eq_true rfl, Nat.le_of_ble_eq_true rfl⟩) hP hD hS hA rfl (fun _ => rfl) (fun _ => rfl) (fun zw4 ce q9 H locs hw hP hD hS hq1 hq2 hq3 => ?_) (fun u H locs hw hP hD hS => ?_)
        · subst hw
          have hF : _ = some o := hF
          have hP : va_P (gD g) zCl (wRoot g ad st sv isS hst spare undo seen dbef drec ptx plen ppos pcnt cmds stE stF lch llen) H := hP
          have hD : va_D A (wRoot g ad st sv isS hst spare undo seen dbef drec ptx plen ppos pcnt cmds stE stF lch llen) := hD
          have hF := z_err hF
          have ho := (Option.some.inj hF).symm
          exact vx_out (fun x hx => (hnx x hx).elim) hlocks hq1 hq2 hq3 (fun t ht hvm => ⟨(zw4.1, st), ho, ⟨rfl, z_end ht hP⟩, hS.F ht⟩) hS.2.2 (Nat.le_of_ble_eq_true rfl) (Nat.le_of_ble_eq_true rfl)
        · obtain ⟨za4, rfl, rfl⟩ := hw
          have hF := z_okk hF
          have hP : va_P (gD g) zCl (wRoot g ad st sv isS hst spare undo seen dbef drec ptx plen ppos pcnt cmds stE stF lch llen) H := hP
          have hD : va_D A (wRoot g ad st sv isS hst spare undo seen dbef drec ptx plen ppos pcnt cmds stE stF lch llen) := hD
          refine lv_iload_n hx hb dX10_tradeAmount_37 rfl (lv_at hl 5 rfl) ?_
          refine lv_iload hx hb dX10_tradeAmount_38 (lv_at hl 6 rfl) ?_
          obtain ⟨zo5, hzo5, hF⟩ := z_bind hF
          refine z_calll (fun (_ : Unit) => []) [] (va_runS (As := [.int p3, .int p4]) (rest := []) ⟨hx, hb, hml, hown, hts⟩ (c_X10_unitsOf l g _ p3 p4 _ hzo5) (va_cwS 2 hts (gdS mU_399 mU_400 mU_66 mU_401) rfl rfl rfl (by decide +kernel) ⟨Nat.le_of_ble_eq_true rfl, Nat.le_of_ble_eq_true rfl⟩) ⟨z_blind _ _ _ _, fun U hU hW => z_pre [] hP hD hK hB hS hA rfl rfl hU hW⟩ rfl rfl hl.1 rfl (lv_room (Nat.le_of_ble_eq_true rfl)) dX10_tradeAmount_40 ⟨Nat.le_of_ble_eq_true rfl, Nat.le_of_ble_eq_true rfl⟩) hP hD hS hA rfl (fun _ => rfl) (fun r u H locs hw hP hD hS => ?_)
          subst hw
          have hP : va_P (gD g) zCl (wRoot g ad st sv isS hst spare undo seen dbef drec ptx plen ppos pcnt cmds stE stF lch llen) H := hP
          have hD : va_D A (wRoot g ad st sv isS hst spare undo seen dbef drec ptx plen ppos pcnt cmds stE stF lch llen) := hD
          refine lv_lstore (lv' := [(7, .long zo5), (6, .int za2), (5, .int za1), (0, .ref (ad 0)), (1, .int p1), (2, .int p2), (3, .int p3), (4, .int p4)]) hx hb dX10_tradeAmount_43 hl (by decide) rfl (fun ls hl => ?_)
          refine lv_aload_n hx hb dX10_tradeAmount_45 rfl (lv_at hl 3 rfl) ?_
          refine va_get (D := gD g) (ci := 6) (v := .ref (ad 1)) (C := RX10) (T := TX10) (N := 9) hx hb hts inX10 hown hK hP 0 rfl rfl 0 (by decide) (hts _ mU_277) (fun _ h9 => h9) rfl dX10_tradeAmount_46 ?_
          refine va_getN (D := gD g) (ci := 5) (v := .ref (ad 3)) (C := RX8) (T := TX8) (N := 11) hx hb hts inX8 hown hK hP 1 rfl rfl 1 (by decide) (va_Nw.use rfl (hB.2.1.1 _ zn_116)) (fun _ h9 => h9) rfl dX10_tradeAmount_49 ?_
          refine lv_iload hx hb dX10_tradeAmount_52 (lv_at hl 2 rfl) ?_
          obtain ⟨zg6, hF⟩ := z_grd hF
          refine va_lald hx hb hK hP 3 2 rfl rfl zg6 dX10_tradeAmount_54 ?_
          refine lv_lload hx hb dX10_tradeAmount_55 (lv_at hl 0 rfl) ?_
          refine z_lcmp_ge (tgt := 71) hx hb dX10_tradeAmount_57 dX10_tradeAmount_58 (by decide) (fun zc7 => ?_) (fun zc7 => ?_)
          · have hF := z_neg hF zc7
            refine lv_lload hx hb dX10_tradeAmount_71 (lv_at hl 0 rfl) ?_
            refine lv_aload_n hx hb dX10_tradeAmount_73 rfl (lv_at hl 3 rfl) ?_
            refine va_get (D := gD g) (ci := 6) (v := .ref (ad 1)) (C := RX10) (T := TX10) (N := 9) hx hb hts inX10 hown hK hP 0 rfl rfl 0 (by decide) (hts _ mU_277) (fun _ h9 => h9) rfl dX10_tradeAmount_74 ?_
            refine va_getN (D := gD g) (ci := 5) (v := .ref (ad 4)) (C := RX8) (T := TX8) (N := 11) hx hb hts inX8 hown hK hP 1 rfl rfl 2 (by decide) (va_Nw.use rfl (hB.2.1.1 _ zn_118)) (fun _ h9 => h9) rfl dX10_tradeAmount_77 ?_
            refine lv_iload hx hb dX10_tradeAmount_80 (lv_at hl 2 rfl) ?_
            obtain ⟨zg8, hF⟩ := z_grd hF
            refine va_iald hx hb hK hP 4 1 rfl rfl zg8 dX10_tradeAmount_82 ?_
            obtain ⟨zo9, hzo9, hF⟩ := z_bind hF
            refine z_calll (fun (_ : Unit) => []) [] (va_runS (As := [.int ((s_scs st) (Int32.toNatClampNeg za1))]) (rest := [.long zo5]) ⟨hx, hb, hml, hown, hts⟩ (c_X7_stepOf l g _ ((s_scs st) (Int32.toNatClampNeg za1)) _ hzo9) (va_cwS 1 hts (gdS mU_643 mU_343 mU_88 mU_344) rfl rfl rfl (by decide +kernel) ⟨Nat.le_of_ble_eq_true rfl, Nat.le_of_ble_eq_true rfl⟩) ⟨z_blind _ _ _ _, fun U hU hW => z_pre [] hP hD hK hB hS hA rfl rfl hU hW⟩ rfl rfl hl.1 rfl (lv_room (Nat.le_of_ble_eq_true rfl)) dX10_tradeAmount_83 ⟨Nat.le_of_ble_eq_true rfl, Nat.le_of_ble_eq_true rfl⟩) hP hD hS hA rfl (fun _ => rfl) (fun r u H locs hw hP hD hS => ?_)
            subst hw
            have hP : va_P (gD g) zCl (wRoot g ad st sv isS hst spare undo seen dbef drec ptx plen ppos pcnt cmds stE stF lch llen) H := hP
            have hD : va_D A (wRoot g ad st sv isS hst spare undo seen dbef drec ptx plen ppos pcnt cmds stE stF lch llen) := hD
            obtain ⟨zg10, hF⟩ := z_grd hF
            refine lv_lrem hx hb dX10_tradeAmount_86 zg10 ?_
            refine lv_lconst (v := 0) hx hb dX10_tradeAmount_87 (by decide) ?_
            refine z_lcmp_eq (tgt := 102) hx hb dX10_tradeAmount_88 dX10_tradeAmount_89 (by decide) (fun zc11 => ?_) (fun zc11 => ?_)
            · have hF := z_pos hF zc11
              refine lv_aload_n hx hb dX10_tradeAmount_102 rfl (lv_at hl 3 rfl) ?_
              refine va_get (D := gD g) (ci := 6) (v := .ref (ad 1)) (C := RX10) (T := TX10) (N := 9) hx hb hts inX10 hown hK hP 0 rfl rfl 0 (by decide) (hts _ mU_277) (fun _ h9 => h9) rfl dX10_tradeAmount_103 ?_
              refine va_getN (D := gD g) (ci := 5) (v := .ref (ad 3)) (C := RX8) (T := TX8) (N := 11) hx hb hts inX8 hown hK hP 1 rfl rfl 1 (by decide) (va_Nw.use rfl (hB.2.1.1 _ zn_116)) (fun _ h9 => h9) rfl dX10_tradeAmount_106 ?_
              refine lv_iload hx hb dX10_tradeAmount_109 (lv_at hl 2 rfl) ?_
              refine lv_dup2_11 hx hb dX10_tradeAmount_111 rfl rfl ?_
              obtain ⟨zg12, hF⟩ := z_grd hF
              refine va_lald hx hb hK hP 3 2 rfl rfl zg12 dX10_tradeAmount_112 ?_
              refine lv_lload hx hb dX10_tradeAmount_113 (lv_at hl 0 rfl) ?_
              refine lv_lsub hx hb dX10_tradeAmount_115 ?_
              obtain ⟨zg13, hF⟩ := z_grd hF
              refine va_last hx hb hK hP hD hS 3 2 rfl rfl zg13 dX10_tradeAmount_116 (fun H locs hP hD hS => ?_)
              have hP : va_P (gD g) zCl (wRoot g ad ((s_ids st), (vp_updL (s_vals st) (Int32.toNatClampNeg za1) (((s_vals st) (Int32.toNatClampNeg za1)) - zo5)), (s_scs st), (s_mds st), (s_cnt st), (s_nxt st), (s_esc st), (s_fal st), (s_add st), (s_fed st), (s_rem st)) sv isS hst spare undo seen dbef drec ptx plen ppos pcnt cmds stE stF lch llen) H := hP
              have hD : va_D A (wRoot g ad ((s_ids st), (vp_updL (s_vals st) (Int32.toNatClampNeg za1) (((s_vals st) (Int32.toNatClampNeg za1)) - zo5)), (s_scs st), (s_mds st), (s_cnt st), (s_nxt st), (s_esc st), (s_fal st), (s_add st), (s_fed st), (s_rem st)) sv isS hst spare undo seen dbef drec ptx plen ppos pcnt cmds stE stF lch llen) := hD
              refine lv_aload_n hx hb dX10_tradeAmount_117 rfl (lv_at hl 3 rfl) ?_
              refine va_get (D := gD g) (ci := 6) (v := .ref (ad 1)) (C := RX10) (T := TX10) (N := 9) hx hb hts inX10 hown hK hP 0 rfl rfl 0 (by decide) (hts _ mU_277) (fun _ h9 => h9) rfl dX10_tradeAmount_118 ?_
              refine lv_iload hx hb dX10_tradeAmount_121 (lv_at hl 1 rfl) ?_
              refine lv_aload_n hx hb dX10_tradeAmount_123 rfl (lv_at hl 3 rfl) ?_
              refine va_get (D := gD g) (ci := 6) (v := .ref (ad 1)) (C := RX10) (T := TX10) (N := 9) hx hb hts inX10 hown hK hP 0 rfl rfl 0 (by decide) (hts _ mU_277) (fun _ h9 => h9) rfl dX10_tradeAmount_124 ?_
              refine va_getN (D := gD g) (ci := 5) (v := .ref (ad 3)) (C := RX8) (T := TX8) (N := 11) hx hb hts inX8 hown hK hP 1 rfl rfl 1 (by decide) (va_Nw.use rfl (hB.2.1.1 _ zn_116)) (fun _ h9 => h9) rfl dX10_tradeAmount_127 ?_
              refine lv_iload hx hb dX10_tradeAmount_130 (lv_at hl 1 rfl) ?_
              obtain ⟨zg14, hF⟩ := z_grd hF
              refine va_lald hx hb hK hP 3 2 rfl rfl zg14 dX10_tradeAmount_132 ?_
              refine lv_lload hx hb dX10_tradeAmount_133 (lv_at hl 0 rfl) ?_
              refine lv_ladd hx hb dX10_tradeAmount_135 ?_
              obtain ⟨zo15, hzo15, hF⟩ := z_bind hF
              refine z_calll (fun (u : SS) => (wState g (ad 1) (ad 2) (ad 3) (ad 4) (ad 5) u)) [1, 2, 3, 4, 5] (va_runV (As := [.int za2, .long (((vp_updL (s_vals st) (Int32.toNatClampNeg za1) (((s_vals st) (Int32.toNatClampNeg za1)) - zo5)) (Int32.toNatClampNeg za2)) + zo5)]) (rest := []) ⟨hx, hb, hml, hown, hts⟩ (c_X8_becomeRounded l g (ad 1) (ad 2) (ad 3) (ad 4) (ad 5) ((s_ids st), (vp_updL (s_vals st) (Int32.toNatClampNeg za1) (((s_vals st) (Int32.toNatClampNeg za1)) - zo5)), (s_scs st), (s_mds st), (s_cnt st), (s_nxt st), (s_esc st), (s_fal st), (s_add st), (s_fed st), (s_rem st)) _ za2 (((vp_updL (s_vals st) (Int32.toNatClampNeg za1) (((s_vals st) (Int32.toNatClampNeg za1)) - zo5)) (Int32.toNatClampNeg za2)) + zo5) _ hzo15) (cwV 2 hts (gdV mU_734 mU_735 mU_736 mU_67 mU_737) rfl rfl rfl (by decide +kernel) ⟨Nat.le_of_ble_eq_true rfl, Nat.le_of_ble_eq_true rfl⟩) ⟨z_blind _ _ _ _, va_recv hK hP (ci := 5) (q0 := 1) rfl rfl, fun U hU hW => z_pre [1, 2, 3, 4, 5] hP hD hK hB hS hA rfl rfl hU hW⟩ rfl rfl hl.1 rfl (lv_room (Nat.le_of_ble_eq_true rfl)) dX10_tradeAmount_136 ⟨Nat.le_of_ble_eq_true rfl, Nat.le_of_ble_eq_true rfl⟩) hP hD hS hA rfl (fun _ => rfl) (fun r u H locs hw hP hD hS => ?_)
              obtain ⟨rfl, rfl⟩ := hw
              have hP : va_P (gD g) zCl (wRoot g ad zo15.2 sv isS hst spare undo seen dbef drec ptx plen ppos pcnt cmds stE stF lch llen) H := hP
              have hD : va_D A (wRoot g ad zo15.2 sv isS hst spare undo seen dbef drec ptx plen ppos pcnt cmds stE stF lch llen) := hD
              have ho := (Option.some.inj hF).symm
              refine vx_ret ?_
              refine W.widen (k := 4) (n := 24) (Nat.le_of_ble_eq_true rfl) (Nat.le_of_ble_eq_true rfl) ?_
              exact W.lret (v := zo15.1) hx hb hr (fun t ht hW => ⟨⟨zo15.1, zo15.2, rfl, ⟨_, ho, rfl, rfl⟩, z_end ht hP⟩, hS.F ht⟩) hS.2.2 dX10_tradeAmount_139
            · have hF := z_neg hF zc11
              have ho := (Option.some.inj hF).symm
              obtain ⟨sa, hsa⟩ := hB.2.1.2.2.1 (166, "the amount is not a multiple of the step") (by decide +kernel)
              exact vx_throwS hx hb hl0 (own := RX10) (cls := "java/lang/UnsupportedOperationException") (text := "the amount is not a multiple of the step") (names := ["java/lang/RuntimeException", "java/lang/Exception"]) hown (by decide +kernel) (by decide +kernel) (hts _ mU_644) (hts _ mU_89) hsa (zat_120 hts hB) zgo_120 hB.1.1 hB.1.2 hS (hl.1.trans hml.symm) dX10_tradeAmount_92 dX10_tradeAmount_95 dX10_tradeAmount_96 dX10_tradeAmount_98 dX10_tradeAmount_101 (fun x hx => (hnx x hx).elim) (Nat.le_of_ble_eq_true rfl) (Nat.le_of_ble_eq_true rfl) (Nat.le_of_ble_eq_true rfl) (Nat.le_of_ble_eq_true rfl) hlocks (fun t ha hz hk => ⟨(2, st), ho, ⟨rfl, (z_thr hP hS hz hk).1⟩, (z_thr hP hS hz hk).2⟩) hS.2.2 (Nat.le_of_ble_eq_true rfl) (Nat.le_of_ble_eq_true rfl)
          · have hF := z_pos hF zc7
            have ho := (Option.some.inj hF).symm
            obtain ⟨sa, hsa⟩ := hB.2.1.2.2.1 (159, "the value is less than the amount") (by decide +kernel)
            exact vx_throwS hx hb hl0 (own := RX10) (cls := "java/lang/IllegalStateException") (text := "the value is less than the amount") (names := ["java/lang/RuntimeException", "java/lang/Exception"]) hown (by decide +kernel) (by decide +kernel) (hts _ mU_627) (hts _ mU_87) hsa (zat_161 hts hB) zgo_161 hB.1.1 hB.1.2 hS (hl.1.trans hml.symm) dX10_tradeAmount_61 dX10_tradeAmount_64 dX10_tradeAmount_65 dX10_tradeAmount_67 dX10_tradeAmount_70 (fun x hx => (hnx x hx).elim) (Nat.le_of_ble_eq_true rfl) (Nat.le_of_ble_eq_true rfl) (Nat.le_of_ble_eq_true rfl) (Nat.le_of_ble_eq_true rfl) hlocks (fun t ha hz hk => ⟨(1, st), ho, ⟨rfl, (z_thr hP hS hz hk).1⟩, (z_thr hP hS hz hk).2⟩) hS.2.2 (Nat.le_of_ble_eq_true rfl) (Nat.le_of_ble_eq_true rfl)
      · have hF := z_pos hF zc3
        have ho := (Option.some.inj hF).symm
        obtain ⟨sa, hsa⟩ := hB.2.1.2.2.1 (154, "a number cannot trade with itself") (by decide +kernel)
        exact vx_throwS hx hb hl0 (own := RX10) (cls := "java/lang/IllegalArgumentException") (text := "a number cannot trade with itself") (names := ["java/lang/RuntimeException", "java/lang/Exception"]) hown (by decide +kernel) (by decide +kernel) (hts _ mU_456) (hts _ mU_80) hsa (zat_156 hts hB) zgo_156 hB.1.1 hB.1.2 hS (hl.1.trans hml.symm) dX10_tradeAmount_21 dX10_tradeAmount_24 dX10_tradeAmount_25 dX10_tradeAmount_27 dX10_tradeAmount_30 (fun x hx => (hnx x hx).elim) (Nat.le_of_ble_eq_true rfl) (Nat.le_of_ble_eq_true rfl) (Nat.le_of_ble_eq_true rfl) (Nat.le_of_ble_eq_true rfl) hlocks (fun t ha hz hk => ⟨(0, st), ho, ⟨rfl, (z_thr hP hS hz hk).1⟩, (z_thr hP hS hz hk).2⟩) hS.2.2 (Nat.le_of_ble_eq_true rfl) (Nat.le_of_ble_eq_true rfl)
abbrev w_X10_changeScale : List Cond := .code yX10_changeScale cX10_changeScale 5 (some .int) :: wU
abbrev r_X10_changeScale : Room := { frames := 7, cells := 2, slots := 12, locals := 104 }
abbrev q_X10_changeScale (g : GG) (ad : Nat → Nat) (st : SS) (sv : SS) (isS : Int32) (hst : Nat → SS) (spare : Int32) (undo : Int32) (seen : Nat → Int32) (dbef : Int32) (drec : Int32) (ptx : Nat → Int32) (plen : Int32) (ppos : Int32) (pcnt : Int32) (cmds : Nat → CC) (stE : Int32) (stF : Int32) (lch : Nat → Int32) (llen : Int32) (o : Except (Nat × (SS)) (Int32 × SS)) (A : Nat → Prop) := va_Qi (fun (r : Int32) (u : SS) => ∃ a : Int32 × SS, o = .ok a ∧ a.1 = r ∧ a.2 = u) (fun u t => va_P (gD g) zCl (wRoot g ad u sv isS hst spare undo seen dbef drec ptx plen ppos pcnt cmds stE stF lch llen) t.heap) A
abbrev x_X10_changeScale (g : GG) (ad : Nat → Nat) (st : SS) (sv : SS) (isS : Int32) (hst : Nat → SS) (spare : Int32) (undo : Int32) (seen : Nat → Int32) (dbef : Int32) (drec : Int32) (ptx : Nat → Int32) (plen : Int32) (ppos : Int32) (pcnt : Int32) (cmds : Nat → CC) (stE : Int32) (stF : Int32) (lch : Nat → Int32) (llen : Int32) (o : Except (Nat × (SS)) (Int32 × SS)) (A : Nat → Prop) := vx_X (fun (x : Nat × (SS)) => o = .error x) (fun E x t => E = xN x.1 ∧ va_P (gD g) zCl (wRoot g ad x.2 sv isS hst spare undo seen dbef drec ptx plen ppos pcnt cmds stE stF lch llen) t.heap) A
set_option maxHeartbeats 4000000 in
set_option maxRecDepth 100000 in
theorem c_X10_changeScale (l : Launch) (hl0 : l.stackTraces = false) (g : GG) (ad : Nat → Nat) (st : SS) (sv : SS) (isS : Int32) (hst : Nat → SS) (spare : Int32) (undo : Int32) (seen : Nat → Int32) (dbef : Int32) (drec : Int32) (ptx : Nat → Int32) (plen : Int32) (ppos : Int32) (pcnt : Int32) (cmds : Nat → CC) (stE : Int32) (stF : Int32) (lch : Nat → Int32) (llen : Int32) (sz : Nat) (p1 : Int32) (p2 : Int32) (fu : Nat) (o : Except (Nat × (SS)) (Int32 × SS)) (hF : F_X10_changeScale fu st p1 p2 = some o) : vx_Met l yX10_changeScale w_X10_changeScale r_X10_changeScale (va_Pc [.ref (ad 0), .int p1, .int p2] (zP g (wRoot g ad st sv isS hst spare undo seen dbef drec ptx plen ppos pcnt cmds stE stF lch llen) sz)) (q_X10_changeScale g ad st sv isS hst spare undo seen dbef drec ptx plen ppos pcnt cmds stE stF lch llen o (va_A (wRoot g ad st sv isS hst spare undo seen dbef drec ptx plen ppos pcnt cmds stE stF lch llen) sz)) (x_X10_changeScale g ad st sv isS hst spare undo seen dbef drec ptx plen ppos pcnt cmds stE stF lch llen o (va_A (wRoot g ad st sv isS hst spare undo seen dbef drec ptx plen ppos pcnt cmds stE stF lch llen) sz)) 2 12 (va_A (wRoot g ad st sv isS hst spare undo seen dbef drec ptx plen ppos pcnt cmds stE stF lch llen) sz) := by
  refine vx_ofW (cc := cX10_changeScale) (maxL := 5) (ret := (some .int)) (by decide) rfl ?_
  intro p e s m args below meth c s₁ B hml hnx hv
  obtain ⟨rfl, rfl, hP, hK, hD0, hB⟩ := hv
  have hx := B.exec
  have hb := B.bytes
  have hr := B.returns
  have hts : ∀ w ∈ wU, w.before _ s = true := fun w h => atoms_spec (ws := w_X10_changeScale) B.pre w (List.mem_cons_of_mem _ h)
  have hown : s.vm.findClass RX10 = some m.cls := findClass_of_methodNamed B.named
  have hlocks := B.notSynchronized
  have hD := hD0.self (sz := s.heap.size)
  generalize hAe : va_A (wRoot g ad st sv isS hst spare undo seen dbef drec ptx plen ppos pcnt cmds stE stF lch llen) s.heap.size = A at hD hB ⊢
  have hA : ∀ q : Nat, s.heap.size ≤ q → A q := fun q h => by rw [← hAe]; exact Or.inr h
  have hS : va_S A s.heap s.heap [] := va_S.rf
  have hl := lv_entry ([.ref (ad 0), .int p1, .int p2]) (n := 5) (Nat.le_of_ble_eq_true rfl)
  rw [lg_entry_eq]
  generalize (lg_sl ([.ref (ad 0), .int p1, .int p2]) ++ List.replicate (5 - (lg_sl ([.ref (ad 0), .int p1, .int p2])).length) Slot.unset).toArray = ls at hl ⊢
  have hl : lv_has ls 5 [(0, .ref (ad 0)), (1, .int p1), (2, .int p2)] := hl
  unfold F_X10_changeScale at hF
  refine lv_aload_n hx hb dX10_changeScale_0 rfl (lv_at hl 0 rfl) ?_
  refine lv_iload_n hx hb dX10_changeScale_1 rfl (lv_at hl 1 rfl) ?_
  obtain ⟨zo1, hzo1, hF⟩ := z_bind hF
  refine z_calliXE (fun (_ : Unit) => (wRoot g ad st sv isS hst spare undo seen dbef drec ptx plen ppos pcnt cmds stE stF lch llen)) (fun (x : Nat × (Unit)) => (wRoot g ad st sv isS hst spare undo seen dbef drec ptx plen ppos pcnt cmds stE stF lch llen)) (fun (x : Nat × (Unit)) => xN x.1) (vx_runV (As := [.int p1]) (rest := []) ⟨hx, hb, hml, hown, hts⟩ (c_X10_requirePosition l hl0 g ad st sv isS hst spare undo seen dbef drec ptx plen ppos pcnt cmds stE stF lch llen _ p1 fu _ hzo1) (cwV 1 hts (gdV mU_699 mU_701 mU_7 mU_66 mU_702) rfl rfl rfl (by decide +kernel) ⟨Nat.le_of_ble_eq_true rfl, Nat.le_of_ble_eq_true rfl⟩) ⟨z_blind _ _ _ _, va_recv hK hP (ci := 6) (q0 := 0) rfl rfl, fun U hU hW => z_preE hP hD hK hB hS hA hU hW⟩ rfl rfl hl.1 rfl (lv_room (Nat.le_of_ble_eq_true rfl)) dX10_changeScale_2 ⟨Nat.le_of_ble_eq_true rfl, Nat.le_of_ble_eq_true rfl⟩) hD hS hA (fun _ => rfl) (fun _ => rfl) (fun zw1 ce q9 H locs hw hP hD hS hq1 hq2 hq3 => ?_) (fun r u H locs hw hP hD hS => ?_)
  · subst hw
    have hF : _ = some o := hF
    have hP : va_P (gD g) zCl (wRoot g ad st sv isS hst spare undo seen dbef drec ptx plen ppos pcnt cmds stE stF lch llen) H := hP
    have hD : va_D A (wRoot g ad st sv isS hst spare undo seen dbef drec ptx plen ppos pcnt cmds stE stF lch llen) := hD
    have hF := z_err hF
    have ho := (Option.some.inj hF).symm
    exact vx_out (fun x hx => (hnx x hx).elim) hlocks hq1 hq2 hq3 (fun t ht hvm => ⟨(zw1.1, st), ho, ⟨rfl, z_end ht hP⟩, hS.F ht⟩) hS.2.2 (Nat.le_of_ble_eq_true rfl) (Nat.le_of_ble_eq_true rfl)
  · obtain ⟨za1, rfl, rfl⟩ := hw
    have hF := z_okk hF
    have hP : va_P (gD g) zCl (wRoot g ad st sv isS hst spare undo seen dbef drec ptx plen ppos pcnt cmds stE stF lch llen) H := hP
    have hD : va_D A (wRoot g ad st sv isS hst spare undo seen dbef drec ptx plen ppos pcnt cmds stE stF lch llen) := hD
    refine lv_istore_n (lv' := [(3, .int za1), (0, .ref (ad 0)), (1, .int p1), (2, .int p2)]) hx hb dX10_changeScale_5 rfl hl (by decide) rfl (fun ls hl => ?_)
    refine lv_iload_n hx hb dX10_changeScale_6 rfl (lv_at hl 3 rfl) ?_
    obtain ⟨zo2, hzo2, hF⟩ := z_bind hF
    refine z_callvX (fun (_ : Unit) => []) (fun (x : Nat × (Unit)) => []) (fun (x : Nat × (Unit)) => xN x.1) [] (vx_runS (As := [.int p2]) (rest := []) ⟨hx, hb, hml, hown, hts⟩ (c_X10_requireScale l hl0 g _ p2 _ hzo2) (va_cwS 1 hts (gdS mU_528 mU_529 mU_66 mU_530) rfl rfl rfl (by decide +kernel) ⟨Nat.le_of_ble_eq_true rfl, Nat.le_of_ble_eq_true rfl⟩) ⟨z_blind _ _ _ _, fun U hU hW => z_pre [] hP hD hK hB hS hA rfl rfl hU hW⟩ rfl rfl hl.1 rfl (lv_room (Nat.le_of_ble_eq_true rfl)) dX10_changeScale_7 ⟨Nat.le_of_ble_eq_true rfl, Nat.le_of_ble_eq_true rfl⟩) hP hD hS hA rfl (fun _ => rfl) (fun _ => rfl) (fun zw2 ce q9 H locs hw hP hD hS hq1 hq2 hq3 => ?_) (fun u H locs hw hP hD hS => ?_)
    · subst hw
      have hF : _ = some o := hF
      have hP : va_P (gD g) zCl (wRoot g ad st sv isS hst spare undo seen dbef drec ptx plen ppos pcnt cmds stE stF lch llen) H := hP
      have hD : va_D A (wRoot g ad st sv isS hst spare undo seen dbef drec ptx plen ppos pcnt cmds stE stF lch llen) := hD
      have hF := z_err hF
      have ho := (Option.some.inj hF).symm
      exact vx_out (fun x hx => (hnx x hx).elim) hlocks hq1 hq2 hq3 (fun t ht hvm => ⟨(zw2.1, st), ho, ⟨rfl, z_end ht hP⟩, hS.F ht⟩) hS.2.2 (Nat.le_of_ble_eq_true rfl) (Nat.le_of_ble_eq_true rfl)
    · obtain ⟨za2, rfl, rfl⟩ := hw
      have hF := z_okk hF
      have hP : va_P (gD g) zCl (wRoot g ad st sv isS hst spare undo seen dbef drec ptx plen ppos pcnt cmds stE stF lch llen) H := hP
      have hD : va_D A (wRoot g ad st sv isS hst spare undo seen dbef drec ptx plen ppos pcnt cmds stE stF lch llen) := hD
      refine lv_aload_n hx hb dX10_changeScale_10 rfl (lv_at hl 1 rfl) ?_
      refine va_get (D := gD g) (ci := 6) (v := .ref (ad 1)) (C := RX10) (T := TX10) (N := 9) hx hb hts inX10 hown hK hP 0 rfl rfl 0 (by decide) (hts _ mU_277) (fun _ h9 => h9) rfl dX10_changeScale_11 ?_
      refine va_getN (D := gD g) (ci := 5) (v := .ref (ad 4)) (C := RX8) (T := TX8) (N := 11) hx hb hts inX8 hown hK hP 1 rfl rfl 2 (by decide) (va_Nw.use rfl (hB.2.1.1 _ zn_118)) (fun _ h9 => h9) rfl dX10_changeScale_14 ?_
      refine lv_iload_n hx hb dX10_changeScale_17 rfl (lv_at hl 0 rfl) ?_
      obtain ⟨zg3, hF⟩ := z_grd hF
      refine va_iald hx hb hK hP 4 1 rfl rfl zg3 dX10_changeScale_18 ?_
      obtain ⟨zv4, ezv4, hF⟩ := z_let hF
      refine z_topi ezv4 ?_
      refine lv_istore (lv' := [(4, .int zv4), (3, .int za1), (0, .ref (ad 0)), (1, .int p1), (2, .int p2)]) hx hb dX10_changeScale_19 hl (by decide) rfl (fun ls hl => ?_)
      refine lv_aload_n hx hb dX10_changeScale_21 rfl (lv_at hl 2 rfl) ?_
      refine va_get (D := gD g) (ci := 6) (v := .ref (ad 1)) (C := RX10) (T := TX10) (N := 9) hx hb hts inX10 hown hK hP 0 rfl rfl 0 (by decide) (hts _ mU_277) (fun _ h9 => h9) rfl dX10_changeScale_22 ?_
      refine va_getN (D := gD g) (ci := 5) (v := .ref (ad 4)) (C := RX8) (T := TX8) (N := 11) hx hb hts inX8 hown hK hP 1 rfl rfl 2 (by decide) (va_Nw.use rfl (hB.2.1.1 _ zn_118)) (fun _ h9 => h9) rfl dX10_changeScale_25 ?_
      refine lv_iload_n hx hb dX10_changeScale_28 rfl (lv_at hl 1 rfl) ?_
      refine lv_iload_n hx hb dX10_changeScale_29 rfl (lv_at hl 4 rfl) ?_
      obtain ⟨zg5, hF⟩ := z_grd hF
      refine va_iast hx hb hK hP hD hS 4 1 rfl rfl zg5 dX10_changeScale_30 (fun H locs hP hD hS => ?_)
      have hP : va_P (gD g) zCl (wRoot g ad ((s_ids st), (s_vals st), (upd (s_scs st) (Int32.toNatClampNeg za1) p2), (s_mds st), (s_cnt st), (s_nxt st), (s_esc st), (s_fal st), (s_add st), (s_fed st), (s_rem st)) sv isS hst spare undo seen dbef drec ptx plen ppos pcnt cmds stE stF lch llen) H := hP
      have hD : va_D A (wRoot g ad ((s_ids st), (s_vals st), (upd (s_scs st) (Int32.toNatClampNeg za1) p2), (s_mds st), (s_cnt st), (s_nxt st), (s_esc st), (s_fal st), (s_add st), (s_fed st), (s_rem st)) sv isS hst spare undo seen dbef drec ptx plen ppos pcnt cmds stE stF lch llen) := hD
      refine lv_aload_n hx hb dX10_changeScale_31 rfl (lv_at hl 2 rfl) ?_
      refine va_get (D := gD g) (ci := 6) (v := .ref (ad 1)) (C := RX10) (T := TX10) (N := 9) hx hb hts inX10 hown hK hP 0 rfl rfl 0 (by decide) (hts _ mU_277) (fun _ h9 => h9) rfl dX10_changeScale_32 ?_
      refine lv_iload_n hx hb dX10_changeScale_35 rfl (lv_at hl 1 rfl) ?_
      refine lv_aload_n hx hb dX10_changeScale_36 rfl (lv_at hl 2 rfl) ?_
      refine va_get (D := gD g) (ci := 6) (v := .ref (ad 1)) (C := RX10) (T := TX10) (N := 9) hx hb hts inX10 hown hK hP 0 rfl rfl 0 (by decide) (hts _ mU_277) (fun _ h9 => h9) rfl dX10_changeScale_37 ?_
      refine va_getN (D := gD g) (ci := 5) (v := .ref (ad 3)) (C := RX8) (T := TX8) (N := 11) hx hb hts inX8 hown hK hP 1 rfl rfl 1 (by decide) (va_Nw.use rfl (hB.2.1.1 _ zn_116)) (fun _ h9 => h9) rfl dX10_changeScale_40 ?_
      refine lv_iload_n hx hb dX10_changeScale_43 rfl (lv_at hl 1 rfl) ?_
      obtain ⟨zg6, hF⟩ := z_grd hF
      refine va_lald hx hb hK hP 3 2 rfl rfl zg6 dX10_changeScale_44 ?_
      obtain ⟨zo7, hzo7, hF⟩ := z_bind hF
      refine z_calll (fun (u : SS) => (wState g (ad 1) (ad 2) (ad 3) (ad 4) (ad 5) u)) [1, 2, 3, 4, 5] (va_runV (As := [.int za1, .long ((s_vals st) (Int32.toNatClampNeg za1))]) (rest := []) ⟨hx, hb, hml, hown, hts⟩ (c_X8_becomeRounded l g (ad 1) (ad 2) (ad 3) (ad 4) (ad 5) ((s_ids st), (s_vals st), (upd (s_scs st) (Int32.toNatClampNeg za1) p2), (s_mds st), (s_cnt st), (s_nxt st), (s_esc st), (s_fal st), (s_add st), (s_fed st), (s_rem st)) _ za1 ((s_vals st) (Int32.toNatClampNeg za1)) _ hzo7) (cwV 2 hts (gdV mU_734 mU_735 mU_736 mU_67 mU_737) rfl rfl rfl (by decide +kernel) ⟨Nat.le_of_ble_eq_true rfl, Nat.le_of_ble_eq_true rfl⟩) ⟨z_blind _ _ _ _, va_recv hK hP (ci := 5) (q0 := 1) rfl rfl, fun U hU hW => z_pre [1, 2, 3, 4, 5] hP hD hK hB hS hA rfl rfl hU hW⟩ rfl rfl hl.1 rfl (lv_room (Nat.le_of_ble_eq_true rfl)) dX10_changeScale_45 ⟨Nat.le_of_ble_eq_true rfl, Nat.le_of_ble_eq_true rfl⟩) hP hD hS hA rfl (fun _ => rfl) (fun r u H locs hw hP hD hS => ?_)
      obtain ⟨rfl, rfl⟩ := hw
      have hP : va_P (gD g) zCl (wRoot g ad zo7.2 sv isS hst spare undo seen dbef drec ptx plen ppos pcnt cmds stE stF lch llen) H := hP
      have hD : va_D A (wRoot g ad zo7.2 sv isS hst spare undo seen dbef drec ptx plen ppos pcnt cmds stE stF lch llen) := hD
      refine lv_pop2_2 hx hb dX10_changeScale_48 rfl ?_
      refine lv_iload hx hb dX10_changeScale_49 (lv_at hl 0 rfl) ?_
      have ho := (Option.some.inj hF).symm
      refine vx_ret ?_
      exact W.iret (v := zv4) hx hb hr (fun t ht hW => ⟨⟨zv4, zo7.2, rfl, ⟨_, ho, rfl, rfl⟩, z_end ht hP⟩, hS.F ht⟩) hS.2.2 dX10_changeScale_51
abbrev w_X10_changeMode : List Cond := .code yX10_changeMode cX10_changeMode 5 (some .char) :: wU
abbrev r_X10_changeMode : Room := { frames := 7, cells := 2, slots := 12, locals := 126 }
abbrev q_X10_changeMode (g : GG) (ad : Nat → Nat) (st : SS) (sv : SS) (isS : Int32) (hst : Nat → SS) (spare : Int32) (undo : Int32) (seen : Nat → Int32) (dbef : Int32) (drec : Int32) (ptx : Nat → Int32) (plen : Int32) (ppos : Int32) (pcnt : Int32) (cmds : Nat → CC) (stE : Int32) (stF : Int32) (lch : Nat → Int32) (llen : Int32) (o : Except (Nat × (SS)) (Int32 × SS)) (A : Nat → Prop) := va_Qi (fun (r : Int32) (u : SS) => ∃ a : Int32 × SS, o = .ok a ∧ a.1 = r ∧ a.2 = u) (fun u t => va_P (gD g) zCl (wRoot g ad u sv isS hst spare undo seen dbef drec ptx plen ppos pcnt cmds stE stF lch llen) t.heap) A
abbrev x_X10_changeMode (g : GG) (ad : Nat → Nat) (st : SS) (sv : SS) (isS : Int32) (hst : Nat → SS) (spare : Int32) (undo : Int32) (seen : Nat → Int32) (dbef : Int32) (drec : Int32) (ptx : Nat → Int32) (plen : Int32) (ppos : Int32) (pcnt : Int32) (cmds : Nat → CC) (stE : Int32) (stF : Int32) (lch : Nat → Int32) (llen : Int32) (o : Except (Nat × (SS)) (Int32 × SS)) (A : Nat → Prop) := vx_X (fun (x : Nat × (SS)) => o = .error x) (fun E x t => E = xN x.1 ∧ va_P (gD g) zCl (wRoot g ad x.2 sv isS hst spare undo seen dbef drec ptx plen ppos pcnt cmds stE stF lch llen) t.heap) A
set_option maxHeartbeats 4000000 in
set_option maxRecDepth 100000 in
theorem c_X10_changeMode (l : Launch) (hl0 : l.stackTraces = false) (g : GG) (ad : Nat → Nat) (st : SS) (sv : SS) (isS : Int32) (hst : Nat → SS) (spare : Int32) (undo : Int32) (seen : Nat → Int32) (dbef : Int32) (drec : Int32) (ptx : Nat → Int32) (plen : Int32) (ppos : Int32) (pcnt : Int32) (cmds : Nat → CC) (stE : Int32) (stF : Int32) (lch : Nat → Int32) (llen : Int32) (sz : Nat) (p1 : Int32) (p2 : Int32) (fu : Nat) (o : Except (Nat × (SS)) (Int32 × SS)) (hF : F_X10_changeMode fu st p1 p2 = some o) : vx_Met l yX10_changeMode w_X10_changeMode r_X10_changeMode (va_Pc [.ref (ad 0), .int p1, .int p2] (zP g (wRoot g ad st sv isS hst spare undo seen dbef drec ptx plen ppos pcnt cmds stE stF lch llen) sz)) (q_X10_changeMode g ad st sv isS hst spare undo seen dbef drec ptx plen ppos pcnt cmds stE stF lch llen o (va_A (wRoot g ad st sv isS hst spare undo seen dbef drec ptx plen ppos pcnt cmds stE stF lch llen) sz)) (x_X10_changeMode g ad st sv isS hst spare undo seen dbef drec ptx plen ppos pcnt cmds stE stF lch llen o (va_A (wRoot g ad st sv isS hst spare undo seen dbef drec ptx plen ppos pcnt cmds stE stF lch llen) sz)) 2 12 (va_A (wRoot g ad st sv isS hst spare undo seen dbef drec ptx plen ppos pcnt cmds stE stF lch llen) sz) := by
  refine vx_ofW (cc := cX10_changeMode) (maxL := 5) (ret := (some .char)) (by decide) rfl ?_
  intro p e s m args below meth c s₁ B hml hnx hv
  obtain ⟨rfl, rfl, hP, hK, hD0, hB⟩ := hv
  have hx := B.exec
  have hb := B.bytes
  have hr := B.returns
  have hts : ∀ w ∈ wU, w.before _ s = true := fun w h => atoms_spec (ws := w_X10_changeMode) B.pre w (List.mem_cons_of_mem _ h)
  have hown : s.vm.findClass RX10 = some m.cls := findClass_of_methodNamed B.named
  have hlocks := B.notSynchronized
  have hD := hD0.self (sz := s.heap.size)
  generalize hAe : va_A (wRoot g ad st sv isS hst spare undo seen dbef drec ptx plen ppos pcnt cmds stE stF lch llen) s.heap.size = A at hD hB ⊢
  have hA : ∀ q : Nat, s.heap.size ≤ q → A q := fun q h => by rw [← hAe]; exact Or.inr h
  have hS : va_S A s.heap s.heap [] := va_S.rf
  have hl := lv_entry ([.ref (ad 0), .int p1, .int p2]) (n := 5) (Nat.le_of_ble_eq_true rfl)
  rw [lg_entry_eq]
  generalize (lg_sl ([.ref (ad 0), .int p1, .int p2]) ++ List.replicate (5 - (lg_sl ([.ref (ad 0), .int p1, .int p2])).length) Slot.unset).toArray = ls at hl ⊢
  have hl : lv_has ls 5 [(0, .ref (ad 0)), (1, .int p1), (2, .int p2)] := hl
  unfold F_X10_changeMode at hF
  refine lv_aload_n hx hb dX10_changeMode_0 rfl (lv_at hl 0 rfl) ?_
  refine lv_iload_n hx hb dX10_changeMode_1 rfl (lv_at hl 1 rfl) ?_
  obtain ⟨zo1, hzo1, hF⟩ := z_bind hF
  refine z_calliXE (fun (_ : Unit) => (wRoot g ad st sv isS hst spare undo seen dbef drec ptx plen ppos pcnt cmds stE stF lch llen)) (fun (x : Nat × (Unit)) => (wRoot g ad st sv isS hst spare undo seen dbef drec ptx plen ppos pcnt cmds stE stF lch llen)) (fun (x : Nat × (Unit)) => xN x.1) (vx_runV (As := [.int p1]) (rest := []) ⟨hx, hb, hml, hown, hts⟩ (c_X10_requirePosition l hl0 g ad st sv isS hst spare undo seen dbef drec ptx plen ppos pcnt cmds stE stF lch llen _ p1 fu _ hzo1) (cwV 1 hts (gdV mU_699 mU_701 mU_7 mU_66 mU_702) rfl rfl rfl (by decide +kernel) ⟨Nat.le_of_ble_eq_true rfl, Nat.le_of_ble_eq_true rfl⟩) ⟨z_blind _ _ _ _, va_recv hK hP (ci := 6) (q0 := 0) rfl rfl, fun U hU hW => z_preE hP hD hK hB hS hA hU hW⟩ rfl rfl hl.1 rfl (lv_room (Nat.le_of_ble_eq_true rfl)) dX10_changeMode_2 ⟨Nat.le_of_ble_eq_true rfl, Nat.le_of_ble_eq_true rfl⟩) hD hS hA (fun _ => rfl) (fun _ => rfl) (fun zw1 ce q9 H locs hw hP hD hS hq1 hq2 hq3 => ?_) (fun r u H locs hw hP hD hS => ?_)
  · subst hw
    have hF : _ = some o := hF
    have hP : va_P (gD g) zCl (wRoot g ad st sv isS hst spare undo seen dbef drec ptx plen ppos pcnt cmds stE stF lch llen) H := hP
    have hD : va_D A (wRoot g ad st sv isS hst spare undo seen dbef drec ptx plen ppos pcnt cmds stE stF lch llen) := hD
    have hF := z_err hF
    have ho := (Option.some.inj hF).symm
    exact vx_out (fun x hx => (hnx x hx).elim) hlocks hq1 hq2 hq3 (fun t ht hvm => ⟨(zw1.1, st), ho, ⟨rfl, z_end ht hP⟩, hS.F ht⟩) hS.2.2 (Nat.le_of_ble_eq_true rfl) (Nat.le_of_ble_eq_true rfl)
  · obtain ⟨za1, rfl, rfl⟩ := hw
    have hF := z_okk hF
    have hP : va_P (gD g) zCl (wRoot g ad st sv isS hst spare undo seen dbef drec ptx plen ppos pcnt cmds stE stF lch llen) H := hP
    have hD : va_D A (wRoot g ad st sv isS hst spare undo seen dbef drec ptx plen ppos pcnt cmds stE stF lch llen) := hD
    refine lv_istore_n (lv' := [(3, .int za1), (0, .ref (ad 0)), (1, .int p1), (2, .int p2)]) hx hb dX10_changeMode_5 rfl hl (by decide) rfl (fun ls hl => ?_)
    refine lv_iload_n hx hb dX10_changeMode_6 rfl (lv_at hl 3 rfl) ?_
    obtain ⟨zo2, hzo2, hF⟩ := z_bind hF
    refine z_callvX (fun (_ : Unit) => []) (fun (x : Nat × (Unit)) => []) (fun (x : Nat × (Unit)) => xN x.1) [] (vx_runS (As := [.int p2]) (rest := []) ⟨hx, hb, hml, hown, hts⟩ (c_X10_requireMode l hl0 g _ p2 fu _ hzo2) (va_cwS 1 hts (gdS mU_532 mU_533 mU_66 mU_534) rfl rfl rfl (by decide +kernel) ⟨Nat.le_of_ble_eq_true rfl, Nat.le_of_ble_eq_true rfl⟩) ⟨z_blind _ _ _ _, fun U hU hW => z_pre [] hP hD hK hB hS hA rfl rfl hU hW⟩ rfl rfl hl.1 rfl (lv_room (Nat.le_of_ble_eq_true rfl)) dX10_changeMode_7 ⟨Nat.le_of_ble_eq_true rfl, Nat.le_of_ble_eq_true rfl⟩) hP hD hS hA rfl (fun _ => rfl) (fun _ => rfl) (fun zw2 ce q9 H locs hw hP hD hS hq1 hq2 hq3 => ?_) (fun u H locs hw hP hD hS => ?_)
    · subst hw
      have hF : _ = some o := hF
      have hP : va_P (gD g) zCl (wRoot g ad st sv isS hst spare undo seen dbef drec ptx plen ppos pcnt cmds stE stF lch llen) H := hP
      have hD : va_D A (wRoot g ad st sv isS hst spare undo seen dbef drec ptx plen ppos pcnt cmds stE stF lch llen) := hD
      have hF := z_err hF
      have ho := (Option.some.inj hF).symm
      exact vx_out (fun x hx => (hnx x hx).elim) hlocks hq1 hq2 hq3 (fun t ht hvm => ⟨(zw2.1, st), ho, ⟨rfl, z_end ht hP⟩, hS.F ht⟩) hS.2.2 (Nat.le_of_ble_eq_true rfl) (Nat.le_of_ble_eq_true rfl)
    · obtain ⟨za2, rfl, rfl⟩ := hw
      have hF := z_okk hF
      have hP : va_P (gD g) zCl (wRoot g ad st sv isS hst spare undo seen dbef drec ptx plen ppos pcnt cmds stE stF lch llen) H := hP
      have hD : va_D A (wRoot g ad st sv isS hst spare undo seen dbef drec ptx plen ppos pcnt cmds stE stF lch llen) := hD
      refine lv_aload_n hx hb dX10_changeMode_10 rfl (lv_at hl 1 rfl) ?_
      refine va_get (D := gD g) (ci := 6) (v := .ref (ad 1)) (C := RX10) (T := TX10) (N := 9) hx hb hts inX10 hown hK hP 0 rfl rfl 0 (by decide) (hts _ mU_277) (fun _ h9 => h9) rfl dX10_changeMode_11 ?_
      refine va_getN (D := gD g) (ci := 5) (v := .ref (ad 5)) (C := RX8) (T := TX8) (N := 11) hx hb hts inX8 hown hK hP 1 rfl rfl 3 (by decide) (va_Nw.use rfl (hB.2.1.1 _ zn_120)) (fun _ h9 => h9) rfl dX10_changeMode_14 ?_
      refine lv_iload_n hx hb dX10_changeMode_17 rfl (lv_at hl 0 rfl) ?_
      obtain ⟨zg3, hF⟩ := z_grd hF
      refine va_cald hx hb hK hP 5 0 rfl rfl zg3 dX10_changeMode_18 ?_
      obtain ⟨zv4, ezv4, hF⟩ := z_let hF
      refine z_topi ezv4 ?_
      refine lv_istore (lv' := [(4, .int zv4), (3, .int za1), (0, .ref (ad 0)), (1, .int p1), (2, .int p2)]) hx hb dX10_changeMode_19 hl (by decide) rfl (fun ls hl => ?_)
      refine lv_aload_n hx hb dX10_changeMode_21 rfl (lv_at hl 2 rfl) ?_
      refine va_get (D := gD g) (ci := 6) (v := .ref (ad 1)) (C := RX10) (T := TX10) (N := 9) hx hb hts inX10 hown hK hP 0 rfl rfl 0 (by decide) (hts _ mU_277) (fun _ h9 => h9) rfl dX10_changeMode_22 ?_
      refine va_getN (D := gD g) (ci := 5) (v := .ref (ad 5)) (C := RX8) (T := TX8) (N := 11) hx hb hts inX8 hown hK hP 1 rfl rfl 3 (by decide) (va_Nw.use rfl (hB.2.1.1 _ zn_120)) (fun _ h9 => h9) rfl dX10_changeMode_25 ?_
      refine lv_iload_n hx hb dX10_changeMode_28 rfl (lv_at hl 1 rfl) ?_
      refine lv_iload_n hx hb dX10_changeMode_29 rfl (lv_at hl 4 rfl) ?_
      obtain ⟨zg5, hF⟩ := z_grd hF
      refine va_cast hx hb hK hP hD hS 5 0 rfl rfl zg5 dX10_changeMode_30 (fun H locs hP hD hS => ?_)
      have hP : va_P (gD g) zCl (wRoot g ad ((s_ids st), (s_vals st), (s_scs st), (upd (s_mds st) (Int32.toNatClampNeg za1) (vp_nar .char p2)), (s_cnt st), (s_nxt st), (s_esc st), (s_fal st), (s_add st), (s_fed st), (s_rem st)) sv isS hst spare undo seen dbef drec ptx plen ppos pcnt cmds stE stF lch llen) H := hP
      have hD : va_D A (wRoot g ad ((s_ids st), (s_vals st), (s_scs st), (upd (s_mds st) (Int32.toNatClampNeg za1) (vp_nar .char p2)), (s_cnt st), (s_nxt st), (s_esc st), (s_fal st), (s_add st), (s_fed st), (s_rem st)) sv isS hst spare undo seen dbef drec ptx plen ppos pcnt cmds stE stF lch llen) := hD
      refine lv_iload hx hb dX10_changeMode_31 (lv_at hl 0 rfl) ?_
      obtain ⟨zg6, hF⟩ := z_grd hF
      have ho := (Option.some.inj hF).symm
      refine vx_ret ?_
      exact W.zret (v := zv4) hx hb hr (z_narc (Classical.not_not.mp zg6)).1 (fun t ht hW => ⟨⟨zv4, ((s_ids st), (s_vals st), (s_scs st), (upd (s_mds st) (Int32.toNatClampNeg za1) (vp_nar .char p2)), (s_cnt st), (s_nxt st), (s_esc st), (s_fal st), (s_add st), (s_fed st), (s_rem st)), rfl, ⟨_, ho, rfl, rfl⟩, z_end ht hP⟩, hS.F ht⟩) hS.2.2 dX10_changeMode_33
abbrev w_X10_roundAll : List Cond := .code yX10_roundAll cX10_roundAll 6 (some .int) :: wU
abbrev r_X10_roundAll : Room := { frames := 7, cells := 1, slots := 6, locals := 102 }
abbrev q_X10_roundAll (g : GG) (ad : Nat → Nat) (st : SS) (sv : SS) (isS : Int32) (hst : Nat → SS) (spare : Int32) (undo : Int32) (seen : Nat → Int32) (dbef : Int32) (drec : Int32) (ptx : Nat → Int32) (plen : Int32) (ppos : Int32) (pcnt : Int32) (cmds : Nat → CC) (stE : Int32) (stF : Int32) (lch : Nat → Int32) (llen : Int32) (o : Except (Nat × (SS)) (Int32 × SS)) (A : Nat → Prop) := va_Qi (fun (r : Int32) (u : SS) => ∃ a : Int32 × SS, o = .ok a ∧ a.1 = r ∧ a.2 = u) (fun u t => va_P (gD g) zCl (wRoot g ad u sv isS hst spare undo seen dbef drec ptx plen ppos pcnt cmds stE stF lch llen) t.heap) A
abbrev x_X10_roundAll (g : GG) (ad : Nat → Nat) (st : SS) (sv : SS) (isS : Int32) (hst : Nat → SS) (spare : Int32) (undo : Int32) (seen : Nat → Int32) (dbef : Int32) (drec : Int32) (ptx : Nat → Int32) (plen : Int32) (ppos : Int32) (pcnt : Int32) (cmds : Nat → CC) (stE : Int32) (stF : Int32) (lch : Nat → Int32) (llen : Int32) (o : Except (Nat × (SS)) (Int32 × SS)) (A : Nat → Prop) := vx_X (fun (x : Nat × (SS)) => o = .error x) (fun E x t => E = xN x.1 ∧ va_P (gD g) zCl (wRoot g ad x.2 sv isS hst spare undo seen dbef drec ptx plen ppos pcnt cmds stE stF lch llen) t.heap) A
set_option maxHeartbeats 4000000 in
set_option maxRecDepth 100000 in
theorem c_X10_roundAll (l : Launch) (hl0 : l.stackTraces = false) (g : GG) (ad : Nat → Nat) (st : SS) (sv : SS) (isS : Int32) (hst : Nat → SS) (spare : Int32) (undo : Int32) (seen : Nat → Int32) (dbef : Int32) (drec : Int32) (ptx : Nat → Int32) (plen : Int32) (ppos : Int32) (pcnt : Int32) (cmds : Nat → CC) (stE : Int32) (stF : Int32) (lch : Nat → Int32) (llen : Int32) (sz : Nat) (p1 : Int32) (fu : Nat) (o : Except (Nat × (SS)) (Int32 × SS)) (hF : F_X10_roundAll fu st p1 = some o) : vx_Met l yX10_roundAll w_X10_roundAll r_X10_roundAll (va_Pc [.ref (ad 0), .int p1] (zP g (wRoot g ad st sv isS hst spare undo seen dbef drec ptx plen ppos pcnt cmds stE stF lch llen) sz)) (q_X10_roundAll g ad st sv isS hst spare undo seen dbef drec ptx plen ppos pcnt cmds stE stF lch llen o (va_A (wRoot g ad st sv isS hst spare undo seen dbef drec ptx plen ppos pcnt cmds stE stF lch llen) sz)) (x_X10_roundAll g ad st sv isS hst spare undo seen dbef drec ptx plen ppos pcnt cmds stE stF lch llen o (va_A (wRoot g ad st sv isS hst spare undo seen dbef drec ptx plen ppos pcnt cmds stE stF lch llen) sz)) 1 6 (va_A (wRoot g ad st sv isS hst spare undo seen dbef drec ptx plen ppos pcnt cmds stE stF lch llen) sz) := by
  refine vx_ofW (cc := cX10_roundAll) (maxL := 6) (ret := (some .int)) (by decide) rfl ?_
  intro p e s m args below meth c s₁ B hml hnx hv
  obtain ⟨rfl, rfl, hP, hK, hD0, hB⟩ := hv
  have hx := B.exec
  have hb := B.bytes
  have hr := B.returns
  have hts : ∀ w ∈ wU, w.before _ s = true := fun w h => atoms_spec (ws := w_X10_roundAll) B.pre w (List.mem_cons_of_mem _ h)
  have hown : s.vm.findClass RX10 = some m.cls := findClass_of_methodNamed B.named
  have hlocks := B.notSynchronized
  have hD := hD0.self (sz := s.heap.size)
  generalize hAe : va_A (wRoot g ad st sv isS hst spare undo seen dbef drec ptx plen ppos pcnt cmds stE stF lch llen) s.heap.size = A at hD hB ⊢
  have hA : ∀ q : Nat, s.heap.size ≤ q → A q := fun q h => by rw [← hAe]; exact Or.inr h
  have hS : va_S A s.heap s.heap [] := va_S.rf
  have hl := lv_entry ([.ref (ad 0), .int p1]) (n := 6) (Nat.le_of_ble_eq_true rfl)
  rw [lg_entry_eq]
  generalize (lg_sl ([.ref (ad 0), .int p1]) ++ List.replicate (6 - (lg_sl ([.ref (ad 0), .int p1])).length) Slot.unset).toArray = ls at hl ⊢
  have hl : lv_has ls 6 [(0, .ref (ad 0)), (1, .int p1)] := hl
  unfold F_X10_roundAll at hF
  have K15 : ∀ (n15 : Nat) (st : SS) (x2 : Int32) (x3 : Int32), F_X10_roundAll_15 fu n15 st p1 x2 x3 = some o → ∀ (H : Heap) (locs : List Loc) (ls : Array Slot), lv_has ls 6 [(0, .ref (ad 0)), (1, .int p1), (2, .int x2), (3, .int x3)] → va_P (gD g) zCl (wRoot g ad st sv isS hst spare undo seen dbef drec ptx plen ppos pcnt cmds stE stF lch llen) H → va_D A (wRoot g ad st sv isS hst spare undo seen dbef drec ptx plen ppos pcnt cmds stE stF lch llen) → va_S A s.heap H locs → W p l e (headSpec w_X10_roundAll r_X10_roundAll).room s m ([.ref (ad 0), .int p1] : List Value).toArray below meth c H locs 1 6 (vx_MQ below (q_X10_roundAll g ad st sv isS hst spare undo seen dbef drec ptx plen ppos pcnt cmds stE stF lch llen o A) (x_X10_roundAll g ad st sv isS hst spare undo seen dbef drec ptx plen ppos pcnt cmds stE stF lch llen o A) ([.ref (ad 0), .int p1] : List Value).toArray s 1 6 A) (F0 m 15 ls []) := by
    intro n15
    induction n15 with
    | zero =>
      intro st x2 x3 hF
      exact absurd hF (by simp [F_X10_roundAll_15])
    | succ n15 ih15 =>
      intro st x2 x3 hF H locs ls hl hP hD hS
      unfold F_X10_roundAll_15 at hF
      refine lv_iload_n hx hb dX10_roundAll_15 rfl (lv_at hl 3 rfl) ?_
      refine lv_aload_n hx hb dX10_roundAll_16 rfl (lv_at hl 0 rfl) ?_
      refine va_get (D := gD g) (ci := 6) (v := .ref (ad 1)) (C := RX10) (T := TX10) (N := 9) hx hb hts inX10 hown hK hP 0 rfl rfl 0 (by decide) (hts _ mU_277) (fun _ h9 => h9) rfl dX10_roundAll_17 ?_
      refine va_getN (D := gD g) (ci := 5) (v := .int (s_cnt st)) (C := RX8) (T := TX8) (N := 11) hx hb hts inX8 hown hK hP 1 rfl rfl 4 (by decide) (va_Nw.use rfl (hB.2.1.1 _ zn_123)) (fun _ h9 => h9) rfl dX10_roundAll_20 ?_
      refine lv_icmp_ge (tgt := 83) hx hb dX10_roundAll_23 (by decide) (fun zc1 => ?_) (fun zc1 => ?_)
      · have hF := z_pos hF zc1
        refine lv_iload_n hx hb dX10_roundAll_83 rfl (lv_at hl 2 rfl) ?_
        obtain ⟨zo2, hzo2, hF⟩ := z_bind hF
        refine z_calli (fun (_ : Unit) => []) [] (va_runS (As := [.int x2]) (rest := []) ⟨hx, hb, hml, hown, hts⟩ (c_J6_bitCount_0f7a4 l g _ x2 _ hzo2) (va_cwS 1 hts (gdS mU_410 mU_411 mU_92 mU_412) rfl rfl rfl (by decide +kernel) ⟨Nat.le_of_ble_eq_true rfl, Nat.le_of_ble_eq_true rfl⟩) ⟨z_blind _ _ _ _, fun U hU hW => z_pre [] hP hD hK hB hS hA rfl rfl hU hW⟩ rfl rfl hl.1 rfl (lv_room (Nat.le_of_ble_eq_true rfl)) dX10_roundAll_84 ⟨Nat.le_of_ble_eq_true rfl, Nat.le_of_ble_eq_true rfl⟩) hP hD hS hA rfl (fun _ => rfl) (fun r u H locs hw hP hD hS => ?_)
        subst hw
        have hP : va_P (gD g) zCl (wRoot g ad st sv isS hst spare undo seen dbef drec ptx plen ppos pcnt cmds stE stF lch llen) H := hP
        have hD : va_D A (wRoot g ad st sv isS hst spare undo seen dbef drec ptx plen ppos pcnt cmds stE stF lch llen) := hD
        have ho := (Option.some.inj hF).symm
        refine vx_ret ?_
        exact W.iret (v := zo2) hx hb hr (fun t ht hW => ⟨⟨zo2, st, rfl, ⟨_, ho, rfl, rfl⟩, z_end ht hP⟩, hS.F ht⟩) hS.2.2 dX10_roundAll_87
      · have hF := z_neg hF zc1
        refine lv_aload_n hx hb dX10_roundAll_26 rfl (lv_at hl 0 rfl) ?_
        refine va_get (D := gD g) (ci := 6) (v := .ref (ad 1)) (C := RX10) (T := TX10) (N := 9) hx hb hts inX10 hown hK hP 0 rfl rfl 0 (by decide) (hts _ mU_277) (fun _ h9 => h9) rfl dX10_roundAll_27 ?_
        refine va_getN (D := gD g) (ci := 5) (v := .ref (ad 3)) (C := RX8) (T := TX8) (N := 11) hx hb hts inX8 hown hK hP 1 rfl rfl 1 (by decide) (va_Nw.use rfl (hB.2.1.1 _ zn_116)) (fun _ h9 => h9) rfl dX10_roundAll_30 ?_
        refine lv_iload_n hx hb dX10_roundAll_33 rfl (lv_at hl 3 rfl) ?_
        obtain ⟨zg3, hF⟩ := z_grd hF
        refine va_lald hx hb hK hP 3 2 rfl rfl zg3 dX10_roundAll_34 ?_
        obtain ⟨zv4, ezv4, hF⟩ := z_let hF
        refine z_topl ezv4 ?_
        refine lv_lstore (lv' := [(4, .long zv4), (0, .ref (ad 0)), (1, .int p1), (2, .int x2), (3, .int x3)]) hx hb dX10_roundAll_35 hl (by decide) rfl (fun ls hl => ?_)
        refine lv_aload_n hx hb dX10_roundAll_37 rfl (lv_at hl 1 rfl) ?_
        refine va_get (D := gD g) (ci := 6) (v := .ref (ad 1)) (C := RX10) (T := TX10) (N := 9) hx hb hts inX10 hown hK hP 0 rfl rfl 0 (by decide) (hts _ mU_277) (fun _ h9 => h9) rfl dX10_roundAll_38 ?_
        refine lv_iload_n hx hb dX10_roundAll_41 rfl (lv_at hl 4 rfl) ?_
        refine lv_lload hx hb dX10_roundAll_42 (lv_at hl 0 rfl) ?_
        refine lv_iload_n hx hb dX10_roundAll_44 rfl (lv_at hl 3 rfl) ?_
        refine lv_iload_n hx hb dX10_roundAll_45 rfl (lv_at hl 4 rfl) ?_
        refine lv_lload hx hb dX10_roundAll_46 (lv_at hl 0 rfl) ?_
        refine lv_iload_n hx hb dX10_roundAll_48 rfl (lv_at hl 2 rfl) ?_
        obtain ⟨zo5, hzo5, hF⟩ := z_bind hF
        refine z_calll (fun (_ : Unit) => []) [] (va_runS (As := [.int x2, .int x3, .long zv4, .int p1]) (rest := [.long zv4, .int x3, .ref (ad 1)]) ⟨hx, hb, hml, hown, hts⟩ (c_X9_roundedBy l g _ x2 x3 zv4 p1 _ hzo5) (va_cwS 4 hts (gdS mU_790 mU_375 mU_91 mU_376) rfl rfl rfl (by decide +kernel) ⟨Nat.le_of_ble_eq_true rfl, Nat.le_of_ble_eq_true rfl⟩) ⟨z_blind _ _ _ _, fun U hU hW => z_pre [] hP hD hK hB hS hA rfl rfl hU hW⟩ rfl rfl hl.1 rfl (lv_room (Nat.le_of_ble_eq_true rfl)) dX10_roundAll_49 ⟨Nat.le_of_ble_eq_true rfl, Nat.le_of_ble_eq_true rfl⟩) hP hD hS hA rfl (fun _ => rfl) (fun r u H locs hw hP hD hS => ?_)
        subst hw
        have hP : va_P (gD g) zCl (wRoot g ad st sv isS hst spare undo seen dbef drec ptx plen ppos pcnt cmds stE stF lch llen) H := hP
        have hD : va_D A (wRoot g ad st sv isS hst spare undo seen dbef drec ptx plen ppos pcnt cmds stE stF lch llen) := hD
        obtain ⟨zo6, hzo6, hF⟩ := z_bind hF
        refine z_callv (fun (u : SS) => (wState g (ad 1) (ad 2) (ad 3) (ad 4) (ad 5) u)) [1, 2, 3, 4, 5] (va_runV (As := [.int x3, .long zv4, .long zo5]) (rest := []) ⟨hx, hb, hml, hown, hts⟩ (c_X8_become l g (ad 1) (ad 2) (ad 3) (ad 4) (ad 5) st _ x3 zv4 zo5 _ hzo6) (cwV 3 hts (gdV mU_791 mU_740 mU_741 mU_67 mU_742) rfl rfl rfl (by decide +kernel) ⟨Nat.le_of_ble_eq_true rfl, Nat.le_of_ble_eq_true rfl⟩) ⟨z_blind _ _ _ _, va_recv hK hP (ci := 5) (q0 := 1) rfl rfl, fun U hU hW => z_pre [1, 2, 3, 4, 5] hP hD hK hB hS hA rfl rfl hU hW⟩ rfl rfl hl.1 rfl (lv_room (Nat.le_of_ble_eq_true rfl)) dX10_roundAll_52 ⟨Nat.le_of_ble_eq_true rfl, Nat.le_of_ble_eq_true rfl⟩) hP hD hS hA rfl (fun _ => rfl) (fun u H locs hw hP hD hS => ?_)
        subst hw
        have hP : va_P (gD g) zCl (wRoot g ad zo6 sv isS hst spare undo seen dbef drec ptx plen ppos pcnt cmds stE stF lch llen) H := hP
        have hD : va_D A (wRoot g ad zo6 sv isS hst spare undo seen dbef drec ptx plen ppos pcnt cmds stE stF lch llen) := hD
        refine lv_aload_n hx hb dX10_roundAll_55 rfl (lv_at hl 1 rfl) ?_
        refine va_get (D := gD g) (ci := 6) (v := .ref (ad 1)) (C := RX10) (T := TX10) (N := 9) hx hb hts inX10 hown hK hP 0 rfl rfl 0 (by decide) (hts _ mU_277) (fun _ h9 => h9) rfl dX10_roundAll_56 ?_
        refine va_getN (D := gD g) (ci := 5) (v := .ref (ad 4)) (C := RX8) (T := TX8) (N := 11) hx hb hts inX8 hown hK hP 1 rfl rfl 2 (by decide) (va_Nw.use rfl (hB.2.1.1 _ zn_118)) (fun _ h9 => h9) rfl dX10_roundAll_59 ?_
        refine lv_iload_n hx hb dX10_roundAll_62 rfl (lv_at hl 4 rfl) ?_
        refine lv_aload_n hx hb dX10_roundAll_63 rfl (lv_at hl 1 rfl) ?_
        refine va_get (D := gD g) (ci := 6) (v := .ref (ad 1)) (C := RX10) (T := TX10) (N := 9) hx hb hts inX10 hown hK hP 0 rfl rfl 0 (by decide) (hts _ mU_277) (fun _ h9 => h9) rfl dX10_roundAll_64 ?_
        refine va_getN (D := gD g) (ci := 5) (v := .ref (ad 4)) (C := RX8) (T := TX8) (N := 11) hx hb hts inX8 hown hK hP 1 rfl rfl 2 (by decide) (va_Nw.use rfl (hB.2.1.1 _ zn_118)) (fun _ h9 => h9) rfl dX10_roundAll_67 ?_
        refine lv_iload_n hx hb dX10_roundAll_70 rfl (lv_at hl 4 rfl) ?_
        obtain ⟨zg7, hF⟩ := z_grd hF
        refine va_iald hx hb hK hP 4 1 rfl rfl zg7 dX10_roundAll_71 ?_
        refine lv_iload_n hx hb dX10_roundAll_72 rfl (lv_at hl 2 rfl) ?_
        refine va_mmin hx hb (hml.trans hl.1.symm) hown (hts _ mU_792) (hts _ mU_568) (hts _ mU_83) (hts _ mU_569) (Nat.le_of_ble_eq_true rfl) (Nat.le_of_ble_eq_true rfl) (Nat.le_of_ble_eq_true rfl) (Nat.le_of_ble_eq_true rfl) dX10_roundAll_73 ?_
        obtain ⟨zv8, ezv8, hF⟩ := z_let hF
        refine z_topi ezv8 ?_
        obtain ⟨zg9, hF⟩ := z_grd hF
        refine va_iast hx hb hK hP hD hS 4 1 rfl rfl zg9 dX10_roundAll_76 (fun H locs hP hD hS => ?_)
        have hP : va_P (gD g) zCl (wRoot g ad ((s_ids zo6), (s_vals zo6), (upd (s_scs zo6) (Int32.toNatClampNeg x3) zv8), (s_mds zo6), (s_cnt zo6), (s_nxt zo6), (s_esc zo6), (s_fal zo6), (s_add zo6), (s_fed zo6), (s_rem zo6)) sv isS hst spare undo seen dbef drec ptx plen ppos pcnt cmds stE stF lch llen) H := hP
        have hD : va_D A (wRoot g ad ((s_ids zo6), (s_vals zo6), (upd (s_scs zo6) (Int32.toNatClampNeg x3) zv8), (s_mds zo6), (s_cnt zo6), (s_nxt zo6), (s_esc zo6), (s_fal zo6), (s_add zo6), (s_fed zo6), (s_rem zo6)) sv isS hst spare undo seen dbef drec ptx plen ppos pcnt cmds stE stF lch llen) := hD
        obtain ⟨zv10, ezv10, hF⟩ := z_let hF
        refine lv_iinc (v := zv10) (lv' := [(3, .int zv10), (4, .long zv4), (0, .ref (ad 0)), (1, .int p1), (2, .int x2)]) hx hb dX10_roundAll_77 hl (k := 4) rfl (by rw [ezv10]; rfl) (by decide) rfl (fun ls hl => ?_)
        refine lv_goto (tgt := 15) hx hb dX10_roundAll_80 (by decide) ?_
        exact ih15 ((s_ids zo6), (s_vals zo6), (upd (s_scs zo6) (Int32.toNatClampNeg x3) zv8), (s_mds zo6), (s_cnt zo6), (s_nxt zo6), (s_esc zo6), (s_fal zo6), (s_add zo6), (s_fed zo6), (s_rem zo6)) x2 zv10 hF _ _ _ (lv_sub hl [2, 3, 4, 0] rfl) hP hD hS
  refine lv_iload_n hx hb dX10_roundAll_0 rfl (lv_at hl 1 rfl) ?_
  obtain ⟨zo11, hzo11, hF⟩ := z_bind hF
  refine z_callvX (fun (_ : Unit) => []) (fun (x : Nat × (Unit)) => []) (fun (x : Nat × (Unit)) => xN x.1) [] (vx_runS (As := [.int p1]) (rest := []) ⟨hx, hb, hml, hown, hts⟩ (c_X10_requireScale l hl0 g _ p1 _ hzo11) (va_cwS 1 hts (gdS mU_528 mU_529 mU_66 mU_530) rfl rfl rfl (by decide +kernel) ⟨Nat.le_of_ble_eq_true rfl, Nat.le_of_ble_eq_true rfl⟩) ⟨z_blind _ _ _ _, fun U hU hW => z_pre [] hP hD hK hB hS hA rfl rfl hU hW⟩ rfl rfl hl.1 rfl (lv_room (Nat.le_of_ble_eq_true rfl)) dX10_roundAll_1 ⟨Nat.le_of_ble_eq_true rfl, Nat.le_of_ble_eq_true rfl⟩) hP hD hS hA rfl (fun _ => rfl) (fun _ => rfl) (fun zw11 ce q9 H locs hw hP hD hS hq1 hq2 hq3 => ?_) (fun u H locs hw hP hD hS => ?_)
  · subst hw
    have hF : _ = some o := hF
    have hP : va_P (gD g) zCl (wRoot g ad st sv isS hst spare undo seen dbef drec ptx plen ppos pcnt cmds stE stF lch llen) H := hP
    have hD : va_D A (wRoot g ad st sv isS hst spare undo seen dbef drec ptx plen ppos pcnt cmds stE stF lch llen) := hD
    have hF := z_err hF
    have ho := (Option.some.inj hF).symm
    exact vx_out (fun x hx => (hnx x hx).elim) hlocks hq1 hq2 hq3 (fun t ht hvm => ⟨(zw11.1, st), ho, ⟨rfl, z_end ht hP⟩, hS.F ht⟩) hS.2.2 (Nat.le_of_ble_eq_true rfl) (Nat.le_of_ble_eq_true rfl)
  · obtain ⟨za11, rfl, rfl⟩ := hw
    have hF := z_okk hF
    have hP : va_P (gD g) zCl (wRoot g ad st sv isS hst spare undo seen dbef drec ptx plen ppos pcnt cmds stE stF lch llen) H := hP
    have hD : va_D A (wRoot g ad st sv isS hst spare undo seen dbef drec ptx plen ppos pcnt cmds stE stF lch llen) := hD
    refine lv_aload_n hx hb dX10_roundAll_4 rfl (lv_at hl 0 rfl) ?_
    refine va_get (D := gD g) (ci := 6) (v := .ref (ad 1)) (C := RX10) (T := TX10) (N := 9) hx hb hts inX10 hown hK hP 0 rfl rfl 0 (by decide) (hts _ mU_277) (fun _ h9 => h9) rfl dX10_roundAll_5 ?_
    refine lv_iload_n hx hb dX10_roundAll_8 rfl (lv_at hl 1 rfl) ?_
    obtain ⟨zo12, hzo12, hF⟩ := z_bind hF
    refine z_calli (fun (_ : Unit) => (wState g (ad 1) (ad 2) (ad 3) (ad 4) (ad 5) st)) [1, 2, 3, 4, 5] (va_runS (As := [.ref (ad 1), .int p1]) (rest := []) ⟨hx, hb, hml, hown, hts⟩ (c_X9_bestChoice l g (ad 1) (ad 2) (ad 3) (ad 4) (ad 5) st _ p1 fu _ hzo12) (va_cwS 2 hts (gdS mU_353 mU_354 mU_91 mU_355) rfl rfl rfl (by decide +kernel) ⟨Nat.le_of_ble_eq_true rfl, Nat.le_of_ble_eq_true rfl⟩) ⟨z_blind _ _ _ _, fun U hU hW => z_pre [1, 2, 3, 4, 5] hP hD hK hB hS hA rfl rfl hU hW⟩ rfl rfl hl.1 rfl (lv_room (Nat.le_of_ble_eq_true rfl)) dX10_roundAll_9 ⟨Nat.le_of_ble_eq_true rfl, Nat.le_of_ble_eq_true rfl⟩) hP hD hS hA rfl (fun _ => rfl) (fun r u H locs hw hP hD hS => ?_)
    subst hw
    have hP : va_P (gD g) zCl (wRoot g ad st sv isS hst spare undo seen dbef drec ptx plen ppos pcnt cmds stE stF lch llen) H := hP
    have hD : va_D A (wRoot g ad st sv isS hst spare undo seen dbef drec ptx plen ppos pcnt cmds stE stF lch llen) := hD
    refine lv_istore_n (lv' := [(2, .int zo12), (0, .ref (ad 0)), (1, .int p1)]) hx hb dX10_roundAll_12 rfl hl (by decide) rfl (fun ls hl => ?_)
    refine lv_iconst (v := 0) hx hb dX10_roundAll_13 (by decide) ?_
    refine lv_istore_n (lv' := [(3, .int 0), (2, .int zo12), (0, .ref (ad 0)), (1, .int p1)]) hx hb dX10_roundAll_14 rfl hl (by decide) rfl (fun ls hl => ?_)
    exact K15 fu st zo12 0 hF _ _ _ (lv_sub hl [2, 3, 1, 0] rfl) hP hD hS
