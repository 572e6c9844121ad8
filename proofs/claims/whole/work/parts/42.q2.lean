abbrev w_X10_carries : List Cond := .code yX10_carries cX10_carries 5 (some .int) :: wU
abbrev r_X10_carries : Room := { frames := 7, cells := 2, slots := 12, locals := 104 }
abbrev q_X10_carries (g : GG) (ad : Nat → Nat) (st : SS) (sv : SS) (isS : Int32) (hst : Nat → SS) (spare : Int32) (undo : Int32) (seen : Nat → Int32) (dbef : Int32) (drec : Int32) (ptx : Nat → Int32) (plen : Int32) (ppos : Int32) (pcnt : Int32) (cmds : Nat → CC) (stE : Int32) (stF : Int32) (lch : Nat → Int32) (llen : Int32) (o : Except (Nat × (Unit)) (Int32)) (A : Nat → Prop) := va_Qi (fun (r : Int32) (u : Unit) => ∃ a : Int32, o = .ok a ∧ a = r) (fun u t => va_P (gD g) zCl (wRoot g ad st sv isS hst spare undo seen dbef drec ptx plen ppos pcnt cmds stE stF lch llen) t.heap) A
abbrev x_X10_carries (g : GG) (ad : Nat → Nat) (st : SS) (sv : SS) (isS : Int32) (hst : Nat → SS) (spare : Int32) (undo : Int32) (seen : Nat → Int32) (dbef : Int32) (drec : Int32) (ptx : Nat → Int32) (plen : Int32) (ppos : Int32) (pcnt : Int32) (cmds : Nat → CC) (stE : Int32) (stF : Int32) (lch : Nat → Int32) (llen : Int32) (o : Except (Nat × (Unit)) (Int32)) (A : Nat → Prop) := vx_X (fun (x : Nat × (Unit)) => o = .error x) (fun E x t => E = xN x.1 ∧ va_P (gD g) zCl (wRoot g ad st sv isS hst spare undo seen dbef drec ptx plen ppos pcnt cmds stE stF lch llen) t.heap) A
set_option maxHeartbeats 4000000 in
set_option maxRecDepth 100000 in
theorem c_X10_carries (l : Launch) (hl0 : l.stackTraces = false) (g : GG) (ad : Nat → Nat) (st : SS) (sv : SS) (isS : Int32) (hst : Nat → SS) (spare : Int32) (undo : Int32) (seen : Nat → Int32) (dbef : Int32) (drec : Int32) (ptx : Nat → Int32) (plen : Int32) (ppos : Int32) (pcnt : Int32) (cmds : Nat → CC) (stE : Int32) (stF : Int32) (lch : Nat → Int32) (llen : Int32) (sz : Nat) (p1 : Int32) (p2 : Int32) (p3 : Int32) (fu : Nat) (o : Except (Nat × (Unit)) (Int32)) (hF : F_X10_carries fu st p1 p2 p3 = some o) : vx_Met l yX10_carries w_X10_carries r_X10_carries (va_Pc [.ref (ad 0), .int p1, .int p2, .int p3] (zP g (wRoot g ad st sv isS hst spare undo seen dbef drec ptx plen ppos pcnt cmds stE stF lch llen) sz)) (q_X10_carries g ad st sv isS hst spare undo seen dbef drec ptx plen ppos pcnt cmds stE stF lch llen o (va_A (wRoot g ad st sv isS hst spare undo seen dbef drec ptx plen ppos pcnt cmds stE stF lch llen) sz)) (x_X10_carries g ad st sv isS hst spare undo seen dbef drec ptx plen ppos pcnt cmds stE stF lch llen o (va_A (wRoot g ad st sv isS hst spare undo seen dbef drec ptx plen ppos pcnt cmds stE stF lch llen) sz)) 2 12 (va_A (wRoot g ad st sv isS hst spare undo seen dbef drec ptx plen ppos pcnt cmds stE stF lch llen) sz) := by
  refine vx_ofW (cc := cX10_carries) (maxL := 5) (ret := (some .int)) (by decide) rfl ?_
  intro p e s m args below meth c s₁ B hml hnx hv
  obtain ⟨rfl, rfl, hP, hK, hD0, hB⟩ := hv
  have hx := B.exec
  have hb := B.bytes
  have hr := B.returns
  have hts : ∀ w ∈ wU, w.before _ s = true := fun w h => atoms_spec (ws := w_X10_carries) B.pre w (List.mem_cons_of_mem _ h)
  have hown : s.vm.findClass RX10 = some m.cls := findClass_of_methodNamed B.named
  have hlocks := B.notSynchronized
  have hD := hD0.self (sz := s.heap.size)
  generalize hAe : va_A (wRoot g ad st sv isS hst spare undo seen dbef drec ptx plen ppos pcnt cmds stE stF lch llen) s.heap.size = A at hD hB ⊢
  have hA : ∀ q : Nat, s.heap.size ≤ q → A q := fun q h => by rw [← hAe]; exact Or.inr h
  have hS : va_S A s.heap s.heap [] := va_S.rf
  have hl := lv_entry ([.ref (ad 0), .int p1, .int p2, .int p3]) (n := 5) (Nat.le_of_ble_eq_true rfl)
  rw [lg_entry_eq]
  generalize (lg_sl ([.ref (ad 0), .int p1, .int p2, .int p3]) ++ List.replicate (5 - (lg_sl ([.ref (ad 0), .int p1, .int p2, .int p3])).length) Slot.unset).toArray = ls at hl ⊢
  have hl : lv_has ls 5 [(0, .ref (ad 0)), (1, .int p1), (2, .int p2), (3, .int p3)] := hl
  unfold F_X10_carries at hF
  refine lv_aload_n hx hb dX10_carries_0 rfl (lv_at hl 0 rfl) ?_
  refine lv_iload_n hx hb dX10_carries_1 rfl (lv_at hl 1 rfl) ?_
  obtain ⟨zo1, hzo1, hF⟩ := z_bind hF
  refine z_calliXE (fun (_ : Unit) => (wRoot g ad st sv isS hst spare undo seen dbef drec ptx plen ppos pcnt cmds stE stF lch llen)) (fun (x : Nat × (Unit)) => (wRoot g ad st sv isS hst spare undo seen dbef drec ptx plen ppos pcnt cmds stE stF lch llen)) (fun (x : Nat × (Unit)) => xN x.1) (vx_runV (As := [.int p1]) (rest := []) ⟨hx, hb, hml, hown, hts⟩ (c_X10_requirePosition l hl0 g ad st sv isS hst spare undo seen dbef drec ptx plen ppos pcnt cmds stE stF lch llen _ p1 fu _ hzo1) (cwV 1 hts (gdV mU_699 mU_701 mU_7 mU_66 mU_702) rfl rfl rfl (by decide +kernel) ⟨Nat.le_of_ble_eq_true rfl, Nat.le_of_ble_eq_true rfl⟩) ⟨z_blind _ _ _ _, va_recv hK hP (ci := 6) (q0 := 0) rfl rfl, fun U hU hW => z_preE hP hD hK hB hS hA hU hW⟩ rfl rfl hl.1 rfl (lv_room (Nat.le_of_ble_eq_true rfl)) dX10_carries_2 ⟨Nat.le_of_ble_eq_true rfl, Nat.le_of_ble_eq_true rfl⟩) hD hS hA (fun _ => rfl) (fun _ => rfl) (fun zw1 ce q9 H locs hw hP hD hS hq1 hq2 hq3 => ?_) (fun r u H locs hw hP hD hS => ?_)
  · subst hw
    have hF : _ = some o := hF
    have hP : va_P (gD g) zCl (wRoot g ad st sv isS hst spare undo seen dbef drec ptx plen ppos pcnt cmds stE stF lch llen) H := hP
    have hD : va_D A (wRoot g ad st sv isS hst spare undo seen dbef drec ptx plen ppos pcnt cmds stE stF lch llen) := hD
    have hF := z_err hF
    have ho := (Option.some.inj hF).symm
    exact vx_out (fun x hx => (hnx x hx).elim) hlocks hq1 hq2 hq3 (fun t ht hvm => ⟨(zw1.1, ()), ho, ⟨rfl, z_end ht hP⟩, hS.F ht⟩) hS.2.2 (Nat.le_of_ble_eq_true rfl) (Nat.le_of_ble_eq_true rfl)
  · obtain ⟨za1, rfl, rfl⟩ := hw
    have hF := z_okk hF
    have hP : va_P (gD g) zCl (wRoot g ad st sv isS hst spare undo seen dbef drec ptx plen ppos pcnt cmds stE stF lch llen) H := hP
    have hD : va_D A (wRoot g ad st sv isS hst spare undo seen dbef drec ptx plen ppos pcnt cmds stE stF lch llen) := hD
    refine lv_istore (lv' := [(4, .int za1), (0, .ref (ad 0)), (1, .int p1), (2, .int p2), (3, .int p3)]) hx hb dX10_carries_5 hl (by decide) rfl (fun ls hl => ?_)
    refine lv_iload_n hx hb dX10_carries_7 rfl (lv_at hl 3 rfl) ?_
    refine lv_iload_n hx hb dX10_carries_8 rfl (lv_at hl 4 rfl) ?_
    obtain ⟨zo2, hzo2, hF⟩ := z_bind hF
    refine z_callvX (fun (_ : Unit) => []) (fun (x : Nat × (Unit)) => []) (fun (x : Nat × (Unit)) => xN x.1) [] (vx_runS (As := [.int p2, .int p3]) (rest := []) ⟨hx, hb, hml, hown, hts⟩ (c_X10_requireAmount l hl0 g _ p2 p3 _ hzo2) (va_cwS 2 hts (gdS mU_452 mU_453 mU_66 mU_454) rfl rfl rfl (by decide +kernel) ⟨Nat.le_of_ble_eq_true rfl, Nat.le_of_ble_eq_true rfl⟩) ⟨z_blind _ _ _ _, fun U hU hW => z_pre [] hP hD hK hB hS hA rfl rfl hU hW⟩ rfl rfl hl.1 rfl (lv_room (Nat.le_of_ble_eq_true rfl)) dX10_carries_9 ⟨Nat.le_of_ble_eq_true rfl, Nat.le_of_ble_eq_true rfl⟩) hP hD hS hA rfl (fun _ => rfl) (fun _ => rfl) (fun zw2 ce q9 H locs hw hP hD hS hq1 hq2 hq3 => ?_) (fun u H locs hw hP hD hS => ?_)
    · subst hw
      have hF : _ = some o := hF
      have hP : va_P (gD g) zCl (wRoot g ad st sv isS hst spare undo seen dbef drec ptx plen ppos pcnt cmds stE stF lch llen) H := hP
      have hD : va_D A (wRoot g ad st sv isS hst spare undo seen dbef drec ptx plen ppos pcnt cmds stE stF lch llen) := hD
      have hF := z_err hF
      have ho := (Option.some.inj hF).symm
      exact vx_out (fun x hx => (hnx x hx).elim) hlocks hq1 hq2 hq3 (fun t ht hvm => ⟨(zw2.1, ()), ho, ⟨rfl, z_end ht hP⟩, hS.F ht⟩) hS.2.2 (Nat.le_of_ble_eq_true rfl) (Nat.le_of_ble_eq_true rfl)
    · obtain ⟨za2, rfl, rfl⟩ := hw
      have hF := z_okk hF
      have hP : va_P (gD g) zCl (wRoot g ad st sv isS hst spare undo seen dbef drec ptx plen ppos pcnt cmds stE stF lch llen) H := hP
      have hD : va_D A (wRoot g ad st sv isS hst spare undo seen dbef drec ptx plen ppos pcnt cmds stE stF lch llen) := hD
      refine lv_aload_n hx hb dX10_carries_12 rfl (lv_at hl 1 rfl) ?_
      refine va_get (D := gD g) (ci := 6) (v := .ref (ad 1)) (C := RX10) (T := TX10) (N := 9) hx hb hts inX10 hown hK hP 0 rfl rfl 0 (by decide) (hts _ mU_277) (fun _ h9 => h9) rfl dX10_carries_13 ?_
      refine va_getN (D := gD g) (ci := 5) (v := .ref (ad 3)) (C := RX8) (T := TX8) (N := 11) hx hb hts inX8 hown hK hP 1 rfl rfl 1 (by decide) (va_Nw.use rfl (hB.2.1.1 _ zn_116)) (fun _ h9 => h9) rfl dX10_carries_16 ?_
      refine lv_iload hx hb dX10_carries_19 (lv_at hl 0 rfl) ?_
      obtain ⟨zg3, hF⟩ := z_grd hF
      refine va_lald hx hb hK hP 3 2 rfl rfl zg3 dX10_carries_21 ?_
      refine lv_iload_n hx hb dX10_carries_22 rfl (lv_at hl 3 rfl) ?_
      refine lv_iload_n hx hb dX10_carries_23 rfl (lv_at hl 4 rfl) ?_
      obtain ⟨zo4, hzo4, hF⟩ := z_bind hF
      refine z_calll (fun (_ : Unit) => []) [] (va_runS (As := [.int p2, .int p3]) (rest := [.long ((s_vals st) (Int32.toNatClampNeg za1))]) ⟨hx, hb, hml, hown, hts⟩ (c_X10_unitsOf l g _ p2 p3 _ hzo4) (va_cwS 2 hts (gdS mU_399 mU_400 mU_66 mU_401) rfl rfl rfl (by decide +kernel) ⟨Nat.le_of_ble_eq_true rfl, Nat.le_of_ble_eq_true rfl⟩) ⟨z_blind _ _ _ _, fun U hU hW => z_pre [] hP hD hK hB hS hA rfl rfl hU hW⟩ rfl rfl hl.1 rfl (lv_room (Nat.le_of_ble_eq_true rfl)) dX10_carries_24 ⟨Nat.le_of_ble_eq_true rfl, Nat.le_of_ble_eq_true rfl⟩) hP hD hS hA rfl (fun _ => rfl) (fun r u H locs hw hP hD hS => ?_)
      subst hw
      have hP : va_P (gD g) zCl (wRoot g ad st sv isS hst spare undo seen dbef drec ptx plen ppos pcnt cmds stE stF lch llen) H := hP
      have hD : va_D A (wRoot g ad st sv isS hst spare undo seen dbef drec ptx plen ppos pcnt cmds stE stF lch llen) := hD
      obtain ⟨zo5, hzo5, hF⟩ := z_bind hF
      refine z_calli (fun (_ : Unit) => []) [] (va_runS (As := [.long ((s_vals st) (Int32.toNatClampNeg za1)), .long zo4]) (rest := []) ⟨hx, hb, hml, hown, hts⟩ (c_X10_carryingPlaces l g _ ((s_vals st) (Int32.toNatClampNeg za1)) zo4 fu _ hzo5) (va_cwS 2 hts (gdS mU_403 mU_404 mU_66 mU_405) rfl rfl rfl (by decide +kernel) ⟨Nat.le_of_ble_eq_true rfl, Nat.le_of_ble_eq_true rfl⟩) ⟨z_blind _ _ _ _, fun U hU hW => z_pre [] hP hD hK hB hS hA rfl rfl hU hW⟩ rfl rfl hl.1 rfl (lv_room (Nat.le_of_ble_eq_true rfl)) dX10_carries_27 ⟨Nat.le_of_ble_eq_true rfl, Nat.le_of_ble_eq_true rfl⟩) hP hD hS hA rfl (fun _ => rfl) (fun r u H locs hw hP hD hS => ?_)
      subst hw
      have hP : va_P (gD g) zCl (wRoot g ad st sv isS hst spare undo seen dbef drec ptx plen ppos pcnt cmds stE stF lch llen) H := hP
      have hD : va_D A (wRoot g ad st sv isS hst spare undo seen dbef drec ptx plen ppos pcnt cmds stE stF lch llen) := hD
      obtain ⟨zo6, hzo6, hF⟩ := z_bind hF
      refine z_calli (fun (_ : Unit) => []) [] (va_runS (As := [.int zo5]) (rest := []) ⟨hx, hb, hml, hown, hts⟩ (c_J6_bitCount_0f7a4 l g _ zo5 _ hzo6) (va_cwS 1 hts (gdS mU_410 mU_411 mU_92 mU_412) rfl rfl rfl (by decide +kernel) ⟨Nat.le_of_ble_eq_true rfl, Nat.le_of_ble_eq_true rfl⟩) ⟨z_blind _ _ _ _, fun U hU hW => z_pre [] hP hD hK hB hS hA rfl rfl hU hW⟩ rfl rfl hl.1 rfl (lv_room (Nat.le_of_ble_eq_true rfl)) dX10_carries_30 ⟨Nat.le_of_ble_eq_true rfl, Nat.le_of_ble_eq_true rfl⟩) hP hD hS hA rfl (fun _ => rfl) (fun r u H locs hw hP hD hS => ?_)
      subst hw
      have hP : va_P (gD g) zCl (wRoot g ad st sv isS hst spare undo seen dbef drec ptx plen ppos pcnt cmds stE stF lch llen) H := hP
      have hD : va_D A (wRoot g ad st sv isS hst spare undo seen dbef drec ptx plen ppos pcnt cmds stE stF lch llen) := hD
      have ho := (Option.some.inj hF).symm
      refine vx_ret ?_
      exact W.iret (v := zo6) hx hb hr (fun t ht hW => ⟨⟨zo6, (), rfl, ⟨_, ho, rfl⟩, z_end ht hP⟩, hS.F ht⟩) hS.2.2 dX10_carries_33
abbrev w_X10_carriesBySums : List Cond := .code yX10_carriesBySums cX10_carriesBySums 5 (some .int) :: wU
abbrev r_X10_carriesBySums : Room := { frames := 7, cells := 2, slots := 12, locals := 104 }
abbrev q_X10_carriesBySums (g : GG) (ad : Nat → Nat) (st : SS) (sv : SS) (isS : Int32) (hst : Nat → SS) (spare : Int32) (undo : Int32) (seen : Nat → Int32) (dbef : Int32) (drec : Int32) (ptx : Nat → Int32) (plen : Int32) (ppos : Int32) (pcnt : Int32) (cmds : Nat → CC) (stE : Int32) (stF : Int32) (lch : Nat → Int32) (llen : Int32) (o : Except (Nat × (Unit)) (Int32)) (A : Nat → Prop) := va_Qi (fun (r : Int32) (u : Unit) => ∃ a : Int32, o = .ok a ∧ a = r) (fun u t => va_P (gD g) zCl (wRoot g ad st sv isS hst spare undo seen dbef drec ptx plen ppos pcnt cmds stE stF lch llen) t.heap) A
abbrev x_X10_carriesBySums (g : GG) (ad : Nat → Nat) (st : SS) (sv : SS) (isS : Int32) (hst : Nat → SS) (spare : Int32) (undo : Int32) (seen : Nat → Int32) (dbef : Int32) (drec : Int32) (ptx : Nat → Int32) (plen : Int32) (ppos : Int32) (pcnt : Int32) (cmds : Nat → CC) (stE : Int32) (stF : Int32) (lch : Nat → Int32) (llen : Int32) (o : Except (Nat × (Unit)) (Int32)) (A : Nat → Prop) := vx_X (fun (x : Nat × (Unit)) => o = .error x) (fun E x t => E = xN x.1 ∧ va_P (gD g) zCl (wRoot g ad st sv isS hst spare undo seen dbef drec ptx plen ppos pcnt cmds stE stF lch llen) t.heap) A
set_option maxHeartbeats 4000000 in
set_option maxRecDepth 100000 in
theorem c_X10_carriesBySums (l : Launch) (hl0 : l.stackTraces = false) (g : GG) (ad : Nat → Nat) (st : SS) (sv : SS) (isS : Int32) (hst : Nat → SS) (spare : Int32) (undo : Int32) (seen : Nat → Int32) (dbef : Int32) (drec : Int32) (ptx : Nat → Int32) (plen : Int32) (ppos : Int32) (pcnt : Int32) (cmds : Nat → CC) (stE : Int32) (stF : Int32) (lch : Nat → Int32) (llen : Int32) (sz : Nat) (p1 : Int32) (p2 : Int32) (p3 : Int32) (fu : Nat) (o : Except (Nat × (Unit)) (Int32)) (hF : F_X10_carriesBySums fu st p1 p2 p3 = some o) : vx_Met l yX10_carriesBySums w_X10_carriesBySums r_X10_carriesBySums (va_Pc [.ref (ad 0), .int p1, .int p2, .int p3] (zP g (wRoot g ad st sv isS hst spare undo seen dbef drec ptx plen ppos pcnt cmds stE stF lch llen) sz)) (q_X10_carriesBySums g ad st sv isS hst spare undo seen dbef drec ptx plen ppos pcnt cmds stE stF lch llen o (va_A (wRoot g ad st sv isS hst spare undo seen dbef drec ptx plen ppos pcnt cmds stE stF lch llen) sz)) (x_X10_carriesBySums g ad st sv isS hst spare undo seen dbef drec ptx plen ppos pcnt cmds stE stF lch llen o (va_A (wRoot g ad st sv isS hst spare undo seen dbef drec ptx plen ppos pcnt cmds stE stF lch llen) sz)) 2 12 (va_A (wRoot g ad st sv isS hst spare undo seen dbef drec ptx plen ppos pcnt cmds stE stF lch llen) sz) := by
  refine vx_ofW (cc := cX10_carriesBySums) (maxL := 5) (ret := (some .int)) (by decide) rfl ?_
  intro p e s m args below meth c s₁ B hml hnx hv
  obtain ⟨rfl, rfl, hP, hK, hD0, hB⟩ := hv
  have hx := B.exec
  have hb := B.bytes
  have hr := B.returns
  have hts : ∀ w ∈ wU, w.before _ s = true := fun w h => atoms_spec (ws := w_X10_carriesBySums) B.pre w (List.mem_cons_of_mem _ h)
  have hown : s.vm.findClass RX10 = some m.cls := findClass_of_methodNamed B.named
  have hlocks := B.notSynchronized
  have hD := hD0.self (sz := s.heap.size)
  generalize hAe : va_A (wRoot g ad st sv isS hst spare undo seen dbef drec ptx plen ppos pcnt cmds stE stF lch llen) s.heap.size = A at hD hB ⊢
  have hA : ∀ q : Nat, s.heap.size ≤ q → A q := fun q h => by rw [← hAe]; exact Or.inr h
  have hS : va_S A s.heap s.heap [] := va_S.rf
  have hl := lv_entry ([.ref (ad 0), .int p1, .int p2, .int p3]) (n := 5) (Nat.le_of_ble_eq_true rfl)
  rw [lg_entry_eq]
  generalize (lg_sl ([.ref (ad 0), .int p1, .int p2, .int p3]) ++ List.replicate (5 - (lg_sl ([.ref (ad 0), .int p1, .int p2, .int p3])).length) Slot.unset).toArray = ls at hl ⊢
  have hl : lv_has ls 5 [(0, .ref (ad 0)), (1, .int p1), (2, .int p2), (3, .int p3)] := hl
  unfold F_X10_carriesBySums at hF
  refine lv_aload_n hx hb dX10_carriesBySums_0 rfl (lv_at hl 0 rfl) ?_
  refine lv_iload_n hx hb dX10_carriesBySums_1 rfl (lv_at hl 1 rfl) ?_
  obtain ⟨zo1, hzo1, hF⟩ := z_bind hF
  refine z_calliXE (fun (_ : Unit) => (wRoot g ad st sv isS hst spare undo seen dbef drec ptx plen ppos pcnt cmds stE stF lch llen)) (fun (x : Nat × (Unit)) => (wRoot g ad st sv isS hst spare undo seen dbef drec ptx plen ppos pcnt cmds stE stF lch llen)) (fun (x : Nat × (Unit)) => xN x.1) (vx_runV (As := [.int p1]) (rest := []) ⟨hx, hb, hml, hown, hts⟩ (c_X10_requirePosition l hl0 g ad st sv isS hst spare undo seen dbef drec ptx plen ppos pcnt cmds stE stF lch llen _ p1 fu _ hzo1) (cwV 1 hts (gdV mU_699 mU_701 mU_7 mU_66 mU_702) rfl rfl rfl (by decide +kernel) ⟨Nat.le_of_ble_eq_true rfl, Nat.le_of_ble_eq_true rfl⟩) ⟨z_blind _ _ _ _, va_recv hK hP (ci := 6) (q0 := 0) rfl rfl, fun U hU hW => z_preE hP hD hK hB hS hA hU hW⟩ rfl rfl hl.1 rfl (lv_room (Nat.le_of_ble_eq_true rfl)) dX10_carriesBySums_2 ⟨Nat.le_of_ble_eq_true rfl, Nat.le_of_ble_eq_true rfl⟩) hD hS hA (fun _ => rfl) (fun _ => rfl) (fun zw1 ce q9 H locs hw hP hD hS hq1 hq2 hq3 => ?_) (fun r u H locs hw hP hD hS => ?_)
  · subst hw
    have hF : _ = some o := hF
    have hP : va_P (gD g) zCl (wRoot g ad st sv isS hst spare undo seen dbef drec ptx plen ppos pcnt cmds stE stF lch llen) H := hP
    have hD : va_D A (wRoot g ad st sv isS hst spare undo seen dbef drec ptx plen ppos pcnt cmds stE stF lch llen) := hD
    have hF := z_err hF
    have ho := (Option.some.inj hF).symm
    exact vx_out (fun x hx => (hnx x hx).elim) hlocks hq1 hq2 hq3 (fun t ht hvm => ⟨(zw1.1, ()), ho, ⟨rfl, z_end ht hP⟩, hS.F ht⟩) hS.2.2 (Nat.le_of_ble_eq_true rfl) (Nat.le_of_ble_eq_true rfl)
  · obtain ⟨za1, rfl, rfl⟩ := hw
    have hF := z_okk hF
    have hP : va_P (gD g) zCl (wRoot g ad st sv isS hst spare undo seen dbef drec ptx plen ppos pcnt cmds stE stF lch llen) H := hP
    have hD : va_D A (wRoot g ad st sv isS hst spare undo seen dbef drec ptx plen ppos pcnt cmds stE stF lch llen) := hD
    refine lv_istore (lv' := [(4, .int za1), (0, .ref (ad 0)), (1, .int p1), (2, .int p2), (3, .int p3)]) hx hb dX10_carriesBySums_5 hl (by decide) rfl (fun ls hl => ?_)
    refine lv_iload_n hx hb dX10_carriesBySums_7 rfl (lv_at hl 3 rfl) ?_
    refine lv_iload_n hx hb dX10_carriesBySums_8 rfl (lv_at hl 4 rfl) ?_
    obtain ⟨zo2, hzo2, hF⟩ := z_bind hF
    refine z_callvX (fun (_ : Unit) => []) (fun (x : Nat × (Unit)) => []) (fun (x : Nat × (Unit)) => xN x.1) [] (vx_runS (As := [.int p2, .int p3]) (rest := []) ⟨hx, hb, hml, hown, hts⟩ (c_X10_requireAmount l hl0 g _ p2 p3 _ hzo2) (va_cwS 2 hts (gdS mU_452 mU_453 mU_66 mU_454) rfl rfl rfl (by decide +kernel) ⟨Nat.le_of_ble_eq_true rfl, Nat.le_of_ble_eq_true rfl⟩) ⟨z_blind _ _ _ _, fun U hU hW => z_pre [] hP hD hK hB hS hA rfl rfl hU hW⟩ rfl rfl hl.1 rfl (lv_room (Nat.le_of_ble_eq_true rfl)) dX10_carriesBySums_9 ⟨Nat.le_of_ble_eq_true rfl, Nat.le_of_ble_eq_true rfl⟩) hP hD hS hA rfl (fun _ => rfl) (fun _ => rfl) (fun zw2 ce q9 H locs hw hP hD hS hq1 hq2 hq3 => ?_) (fun u H locs hw hP hD hS => ?_)
    · subst hw
      have hF : _ = some o := hF
      have hP : va_P (gD g) zCl (wRoot g ad st sv isS hst spare undo seen dbef drec ptx plen ppos pcnt cmds stE stF lch llen) H := hP
      have hD : va_D A (wRoot g ad st sv isS hst spare undo seen dbef drec ptx plen ppos pcnt cmds stE stF lch llen) := hD
      have hF := z_err hF
      have ho := (Option.some.inj hF).symm
      exact vx_out (fun x hx => (hnx x hx).elim) hlocks hq1 hq2 hq3 (fun t ht hvm => ⟨(zw2.1, ()), ho, ⟨rfl, z_end ht hP⟩, hS.F ht⟩) hS.2.2 (Nat.le_of_ble_eq_true rfl) (Nat.le_of_ble_eq_true rfl)
    · obtain ⟨za2, rfl, rfl⟩ := hw
      have hF := z_okk hF
      have hP : va_P (gD g) zCl (wRoot g ad st sv isS hst spare undo seen dbef drec ptx plen ppos pcnt cmds stE stF lch llen) H := hP
      have hD : va_D A (wRoot g ad st sv isS hst spare undo seen dbef drec ptx plen ppos pcnt cmds stE stF lch llen) := hD
      refine lv_aload_n hx hb dX10_carriesBySums_12 rfl (lv_at hl 1 rfl) ?_
      refine va_get (D := gD g) (ci := 6) (v := .ref (ad 1)) (C := RX10) (T := TX10) (N := 9) hx hb hts inX10 hown hK hP 0 rfl rfl 0 (by decide) (hts _ mU_277) (fun _ h9 => h9) rfl dX10_carriesBySums_13 ?_
      refine va_getN (D := gD g) (ci := 5) (v := .ref (ad 3)) (C := RX8) (T := TX8) (N := 11) hx hb hts inX8 hown hK hP 1 rfl rfl 1 (by decide) (va_Nw.use rfl (hB.2.1.1 _ zn_116)) (fun _ h9 => h9) rfl dX10_carriesBySums_16 ?_
      refine lv_iload hx hb dX10_carriesBySums_19 (lv_at hl 0 rfl) ?_
      obtain ⟨zg3, hF⟩ := z_grd hF
      refine va_lald hx hb hK hP 3 2 rfl rfl zg3 dX10_carriesBySums_21 ?_
      refine lv_iload_n hx hb dX10_carriesBySums_22 rfl (lv_at hl 3 rfl) ?_
      refine lv_iload_n hx hb dX10_carriesBySums_23 rfl (lv_at hl 4 rfl) ?_
      obtain ⟨zo4, hzo4, hF⟩ := z_bind hF
      refine z_calll (fun (_ : Unit) => []) [] (va_runS (As := [.int p2, .int p3]) (rest := [.long ((s_vals st) (Int32.toNatClampNeg za1))]) ⟨hx, hb, hml, hown, hts⟩ (c_X10_unitsOf l g _ p2 p3 _ hzo4) (va_cwS 2 hts (gdS mU_399 mU_400 mU_66 mU_401) rfl rfl rfl (by decide +kernel) ⟨Nat.le_of_ble_eq_true rfl, Nat.le_of_ble_eq_true rfl⟩) ⟨z_blind _ _ _ _, fun U hU hW => z_pre [] hP hD hK hB hS hA rfl rfl hU hW⟩ rfl rfl hl.1 rfl (lv_room (Nat.le_of_ble_eq_true rfl)) dX10_carriesBySums_24 ⟨Nat.le_of_ble_eq_true rfl, Nat.le_of_ble_eq_true rfl⟩) hP hD hS hA rfl (fun _ => rfl) (fun r u H locs hw hP hD hS => ?_)
      subst hw
      have hP : va_P (gD g) zCl (wRoot g ad st sv isS hst spare undo seen dbef drec ptx plen ppos pcnt cmds stE stF lch llen) H := hP
      have hD : va_D A (wRoot g ad st sv isS hst spare undo seen dbef drec ptx plen ppos pcnt cmds stE stF lch llen) := hD
      obtain ⟨zo5, hzo5, hF⟩ := z_bind hF
      refine z_calli (fun (_ : Unit) => []) [] (va_runS (As := [.long ((s_vals st) (Int32.toNatClampNeg za1)), .long zo4]) (rest := []) ⟨hx, hb, hml, hown, hts⟩ (c_X10_carriesByDigitSums l g _ ((s_vals st) (Int32.toNatClampNeg za1)) zo4 fu _ hzo5) (va_cwS 2 hts (gdS mU_416 mU_417 mU_66 mU_418) rfl rfl rfl (by decide +kernel) ⟨Nat.le_of_ble_eq_true rfl, Nat.le_of_ble_eq_true rfl⟩) ⟨z_blind _ _ _ _, fun U hU hW => z_pre [] hP hD hK hB hS hA rfl rfl hU hW⟩ rfl rfl hl.1 rfl (lv_room (Nat.le_of_ble_eq_true rfl)) dX10_carriesBySums_27 ⟨Nat.le_of_ble_eq_true rfl, Nat.le_of_ble_eq_true rfl⟩) hP hD hS hA rfl (fun _ => rfl) (fun r u H locs hw hP hD hS => ?_)
      subst hw
      have hP : va_P (gD g) zCl (wRoot g ad st sv isS hst spare undo seen dbef drec ptx plen ppos pcnt cmds stE stF lch llen) H := hP
      have hD : va_D A (wRoot g ad st sv isS hst spare undo seen dbef drec ptx plen ppos pcnt cmds stE stF lch llen) := hD
      have ho := (Option.some.inj hF).symm
      refine vx_ret ?_
      exact W.iret (v := zo5) hx hb hr (fun t ht hW => ⟨⟨zo5, (), rfl, ⟨_, ho, rfl⟩, z_end ht hP⟩, hS.F ht⟩) hS.2.2 dX10_carriesBySums_30
abbrev w_X10_longestCarry : List Cond := .code yX10_longestCarry cX10_longestCarry 9 (some .int) :: wU
abbrev r_X10_longestCarry : Room := { frames := 7, cells := 2, slots := 12, locals := 104 }
abbrev q_X10_longestCarry (g : GG) (ad : Nat → Nat) (st : SS) (sv : SS) (isS : Int32) (hst : Nat → SS) (spare : Int32) (undo : Int32) (seen : Nat → Int32) (dbef : Int32) (drec : Int32) (ptx : Nat → Int32) (plen : Int32) (ppos : Int32) (pcnt : Int32) (cmds : Nat → CC) (stE : Int32) (stF : Int32) (lch : Nat → Int32) (llen : Int32) (o : Except (Nat × (Unit)) (Int32)) (A : Nat → Prop) := va_Qi (fun (r : Int32) (u : Unit) => ∃ a : Int32, o = .ok a ∧ a = r) (fun u t => va_P (gD g) zCl (wRoot g ad st sv isS hst spare undo seen dbef drec ptx plen ppos pcnt cmds stE stF lch llen) t.heap) A
abbrev x_X10_longestCarry (g : GG) (ad : Nat → Nat) (st : SS) (sv : SS) (isS : Int32) (hst : Nat → SS) (spare : Int32) (undo : Int32) (seen : Nat → Int32) (dbef : Int32) (drec : Int32) (ptx : Nat → Int32) (plen : Int32) (ppos : Int32) (pcnt : Int32) (cmds : Nat → CC) (stE : Int32) (stF : Int32) (lch : Nat → Int32) (llen : Int32) (o : Except (Nat × (Unit)) (Int32)) (A : Nat → Prop) := vx_X (fun (x : Nat × (Unit)) => o = .error x) (fun E x t => E = xN x.1 ∧ va_P (gD g) zCl (wRoot g ad st sv isS hst spare undo seen dbef drec ptx plen ppos pcnt cmds stE stF lch llen) t.heap) A
set_option maxHeartbeats 4000000 in
set_option maxRecDepth 100000 in
theorem c_X10_longestCarry (l : Launch) (hl0 : l.stackTraces = false) (g : GG) (ad : Nat → Nat) (st : SS) (sv : SS) (isS : Int32) (hst : Nat → SS) (spare : Int32) (undo : Int32) (seen : Nat → Int32) (dbef : Int32) (drec : Int32) (ptx : Nat → Int32) (plen : Int32) (ppos : Int32) (pcnt : Int32) (cmds : Nat → CC) (stE : Int32) (stF : Int32) (lch : Nat → Int32) (llen : Int32) (sz : Nat) (p1 : Int32) (p2 : Int32) (p3 : Int32) (fu : Nat) (o : Except (Nat × (Unit)) (Int32)) (hF : F_X10_longestCarry fu st p1 p2 p3 = some o) : vx_Met l yX10_longestCarry w_X10_longestCarry r_X10_longestCarry (va_Pc [.ref (ad 0), .int p1, .int p2, .int p3] (zP g (wRoot g ad st sv isS hst spare undo seen dbef drec ptx plen ppos pcnt cmds stE stF lch llen) sz)) (q_X10_longestCarry g ad st sv isS hst spare undo seen dbef drec ptx plen ppos pcnt cmds stE stF lch llen o (va_A (wRoot g ad st sv isS hst spare undo seen dbef drec ptx plen ppos pcnt cmds stE stF lch llen) sz)) (x_X10_longestCarry g ad st sv isS hst spare undo seen dbef drec ptx plen ppos pcnt cmds stE stF lch llen o (va_A (wRoot g ad st sv isS hst spare undo seen dbef drec ptx plen ppos pcnt cmds stE stF lch llen) sz)) 2 12 (va_A (wRoot g ad st sv isS hst spare undo seen dbef drec ptx plen ppos pcnt cmds stE stF lch llen) sz) := by
  refine vx_ofW (cc := cX10_longestCarry) (maxL := 9) (ret := (some .int)) (by decide) rfl ?_
  intro p e s m args below meth c s₁ B hml hnx hv
  obtain ⟨rfl, rfl, hP, hK, hD0, hB⟩ := hv
  have hx := B.exec
  have hb := B.bytes
  have hr := B.returns
  have hts : ∀ w ∈ wU, w.before _ s = true := fun w h => atoms_spec (ws := w_X10_longestCarry) B.pre w (List.mem_cons_of_mem _ h)
  have hown : s.vm.findClass RX10 = some m.cls := findClass_of_methodNamed B.named
  have hlocks := B.notSynchronized
  have hD := hD0.self (sz := s.heap.size)
  generalize hAe : va_A (wRoot g ad st sv isS hst spare undo seen dbef drec ptx plen ppos pcnt cmds stE stF lch llen) s.heap.size = A at hD hB ⊢
  have hA : ∀ q : Nat, s.heap.size ≤ q → A q := fun q h => by rw [← hAe]; exact Or.inr h
  have hS : va_S A s.heap s.heap [] := va_S.rf
  have hl := lv_entry ([.ref (ad 0), .int p1, .int p2, .int p3]) (n := 9) (Nat.le_of_ble_eq_true rfl)
  rw [lg_entry_eq]
  generalize (lg_sl ([.ref (ad 0), .int p1, .int p2, .int p3]) ++ List.replicate (9 - (lg_sl ([.ref (ad 0), .int p1, .int p2, .int p3])).length) Slot.unset).toArray = ls at hl ⊢
  have hl : lv_has ls 9 [(0, .ref (ad 0)), (1, .int p1), (2, .int p2), (3, .int p3)] := hl
  unfold F_X10_longestCarry at hF
  have K41 : ∀ (n41 : Nat) (x5 : Int32) (x6 : Int32) (x7 : Int32) (x8 : Int32), F_X10_longestCarry_41 fu n41 st x5 x6 x7 x8 = some o → ∀ (H : Heap) (locs : List Loc) (ls : Array Slot), lv_has ls 9 [(5, .int x5), (6, .int x6), (7, .int x7), (8, .int x8)] → va_P (gD g) zCl (wRoot g ad st sv isS hst spare undo seen dbef drec ptx plen ppos pcnt cmds stE stF lch llen) H → va_D A (wRoot g ad st sv isS hst spare undo seen dbef drec ptx plen ppos pcnt cmds stE stF lch llen) → va_S A s.heap H locs → W p l e (headSpec w_X10_longestCarry r_X10_longestCarry).room s m ([.ref (ad 0), .int p1, .int p2, .int p3] : List Value).toArray below meth c H locs 2 12 (vx_MQ below (q_X10_longestCarry g ad st sv isS hst spare undo seen dbef drec ptx plen ppos pcnt cmds stE stF lch llen o A) (x_X10_longestCarry g ad st sv isS hst spare undo seen dbef drec ptx plen ppos pcnt cmds stE stF lch llen o A) ([.ref (ad 0), .int p1, .int p2, .int p3] : List Value).toArray s 2 12 A) (F0 m 41 ls []) := by
    intro n41
    induction n41 with
    | zero =>
      intro x5 x6 x7 x8 hF
      exact absurd hF (by simp [F_X10_longestCarry_41])
    | succ n41 ih41 =>
      intro x5 x6 x7 x8 hF H locs ls hl hP hD hS
      unfold F_X10_longestCarry_41 at hF
      refine lv_iload hx hb dX10_longestCarry_41 (lv_at hl 3 rfl) ?_
      refine lv_bipush (v := 10) hx hb dX10_longestCarry_43 (by decide) ?_
      refine lv_icmp_ge (tgt := 84) hx hb dX10_longestCarry_45 (by decide) (fun zc1 => ?_) (fun zc1 => ?_)
      · have hF := z_pos hF zc1
        refine lv_iload hx hb dX10_longestCarry_84 (lv_at hl 1 rfl) ?_
        have ho := (Option.some.inj hF).symm
        refine vx_ret ?_
        exact W.iret (v := x6) hx hb hr (fun t ht hW => ⟨⟨x6, (), rfl, ⟨_, ho, rfl⟩, z_end ht hP⟩, hS.F ht⟩) hS.2.2 dX10_longestCarry_86
      · have hF := z_neg hF zc1
        refine lv_iload hx hb dX10_longestCarry_48 (lv_at hl 0 rfl) ?_
        refine lv_iload hx hb dX10_longestCarry_50 (lv_at hl 3 rfl) ?_
        refine lv_ishr hx hb dX10_longestCarry_52 ?_
        refine lv_iconst (v := 1) hx hb dX10_longestCarry_53 (by decide) ?_
        refine lv_iand hx hb dX10_longestCarry_54 ?_
        refine lv_iconst (v := 1) hx hb dX10_longestCarry_55 (by decide) ?_
        refine lv_icmp_ne (tgt := 66) hx hb dX10_longestCarry_56 (by decide) (fun zc2 => ?_) (fun zc2 => ?_)
        · have hF := z_neg hF zc2
          refine lv_iconst (v := 0) hx hb dX10_longestCarry_66 (by decide) ?_
          refine lv_istore (lv' := [(7, .int 0), (5, .int x5), (6, .int x6), (8, .int x8)]) hx hb dX10_longestCarry_67 hl (by decide) rfl (fun ls hl => ?_)
          refine lv_iload hx hb dX10_longestCarry_69 (lv_at hl 2 rfl) ?_
          refine lv_iload hx hb dX10_longestCarry_71 (lv_at hl 0 rfl) ?_
          refine va_mmax hx hb (hml.trans hl.1.symm) hown (hts _ mU_927) (hts _ mU_565) (hts _ mU_83) (hts _ mU_566) (Nat.le_of_ble_eq_true rfl) (Nat.le_of_ble_eq_true rfl) (Nat.le_of_ble_eq_true rfl) (Nat.le_of_ble_eq_true rfl) dX10_longestCarry_73 ?_
          obtain ⟨zv3, ezv3, hF⟩ := z_let hF
          refine z_topi ezv3 ?_
          refine lv_istore (lv' := [(6, .int zv3), (7, .int 0), (5, .int x5), (8, .int x8)]) hx hb dX10_longestCarry_76 hl (by decide) rfl (fun ls hl => ?_)
          obtain ⟨zv4, ezv4, hF⟩ := z_let hF
          refine lv_iinc (v := zv4) (lv' := [(8, .int zv4), (6, .int zv3), (7, .int 0), (5, .int x5)]) hx hb dX10_longestCarry_78 hl (k := 3) rfl (by rw [ezv4]; rfl) (by decide) rfl (fun ls hl => ?_)
          refine lv_goto (tgt := 41) hx hb dX10_longestCarry_81 (by decide) ?_
          exact ih41 x5 zv3 0 zv4 hF _ _ _ (lv_sub hl [3, 1, 2, 0] rfl) hP hD hS
        · have hF := z_pos hF zc2
          refine lv_iload hx hb dX10_longestCarry_59 (lv_at hl 2 rfl) ?_
          refine lv_iconst (v := 1) hx hb dX10_longestCarry_61 (by decide) ?_
          refine lv_iadd hx hb dX10_longestCarry_62 ?_
          refine lv_goto (tgt := 67) hx hb dX10_longestCarry_63 (by decide) ?_
          obtain ⟨zv5, ezv5, hF⟩ := z_let hF
          refine z_topi ezv5 ?_
          refine lv_istore (lv' := [(7, .int zv5), (5, .int x5), (6, .int x6), (8, .int x8)]) hx hb dX10_longestCarry_67 hl (by decide) rfl (fun ls hl => ?_)
          refine lv_iload hx hb dX10_longestCarry_69 (lv_at hl 2 rfl) ?_
          refine lv_iload hx hb dX10_longestCarry_71 (lv_at hl 0 rfl) ?_
          refine va_mmax hx hb (hml.trans hl.1.symm) hown (hts _ mU_927) (hts _ mU_565) (hts _ mU_83) (hts _ mU_566) (Nat.le_of_ble_eq_true rfl) (Nat.le_of_ble_eq_true rfl) (Nat.le_of_ble_eq_true rfl) (Nat.le_of_ble_eq_true rfl) dX10_longestCarry_73 ?_
          obtain ⟨zv6, ezv6, hF⟩ := z_let hF
          refine z_topi ezv6 ?_
          refine lv_istore (lv' := [(6, .int zv6), (7, .int zv5), (5, .int x5), (8, .int x8)]) hx hb dX10_longestCarry_76 hl (by decide) rfl (fun ls hl => ?_)
          obtain ⟨zv7, ezv7, hF⟩ := z_let hF
          refine lv_iinc (v := zv7) (lv' := [(8, .int zv7), (6, .int zv6), (7, .int zv5), (5, .int x5)]) hx hb dX10_longestCarry_78 hl (k := 3) rfl (by rw [ezv7]; rfl) (by decide) rfl (fun ls hl => ?_)
          refine lv_goto (tgt := 41) hx hb dX10_longestCarry_81 (by decide) ?_
          exact ih41 x5 zv6 zv5 zv7 hF _ _ _ (lv_sub hl [3, 1, 2, 0] rfl) hP hD hS
  refine lv_aload_n hx hb dX10_longestCarry_0 rfl (lv_at hl 0 rfl) ?_
  refine lv_iload_n hx hb dX10_longestCarry_1 rfl (lv_at hl 1 rfl) ?_
  obtain ⟨zo8, hzo8, hF⟩ := z_bind hF
  refine z_calliXE (fun (_ : Unit) => (wRoot g ad st sv isS hst spare undo seen dbef drec ptx plen ppos pcnt cmds stE stF lch llen)) (fun (x : Nat × (Unit)) => (wRoot g ad st sv isS hst spare undo seen dbef drec ptx plen ppos pcnt cmds stE stF lch llen)) (fun (x : Nat × (Unit)) => xN x.1) (vx_runV (As := [.int p1]) (rest := []) ⟨hx, hb, hml, hown, hts⟩ (c_X10_requirePosition l hl0 g ad st sv isS hst spare undo seen dbef drec ptx plen ppos pcnt cmds stE stF lch llen _ p1 fu _ hzo8) (cwV 1 hts (gdV mU_699 mU_701 mU_7 mU_66 mU_702) rfl rfl rfl (by decide +kernel) ⟨Nat.le_of_ble_eq_true rfl, Nat.le_of_ble_eq_true rfl⟩) ⟨z_blind _ _ _ _, va_recv hK hP (ci := 6) (q0 := 0) rfl rfl, fun U hU hW => z_preE hP hD hK hB hS hA hU hW⟩ rfl rfl hl.1 rfl (lv_room (Nat.le_of_ble_eq_true rfl)) dX10_longestCarry_2 ⟨Nat.le_of_ble_eq_true rfl, Nat.le_of_ble_eq_true rfl⟩) hD hS hA (fun _ => rfl) (fun _ => rfl) (fun zw8 ce q9 H locs hw hP hD hS hq1 hq2 hq3 => ?_) (fun r u H locs hw hP hD hS => ?_)
  · subst hw
    have hF : _ = some o := hF
    have hP : va_P (gD g) zCl (wRoot g ad st sv isS hst spare undo seen dbef drec ptx plen ppos pcnt cmds stE stF lch llen) H := hP
    have hD : va_D A (wRoot g ad st sv isS hst spare undo seen dbef drec ptx plen ppos pcnt cmds stE stF lch llen) := hD
    have hF := z_err hF
    have ho := (Option.some.inj hF).symm
    exact vx_out (fun x hx => (hnx x hx).elim) hlocks hq1 hq2 hq3 (fun t ht hvm => ⟨(zw8.1, ()), ho, ⟨rfl, z_end ht hP⟩, hS.F ht⟩) hS.2.2 (Nat.le_of_ble_eq_true rfl) (Nat.le_of_ble_eq_true rfl)
  · obtain ⟨za8, rfl, rfl⟩ := hw
    have hF := z_okk hF
    have hP : va_P (gD g) zCl (wRoot g ad st sv isS hst spare undo seen dbef drec ptx plen ppos pcnt cmds stE stF lch llen) H := hP
    have hD : va_D A (wRoot g ad st sv isS hst spare undo seen dbef drec ptx plen ppos pcnt cmds stE stF lch llen) := hD
    refine lv_istore (lv' := [(4, .int za8), (0, .ref (ad 0)), (1, .int p1), (2, .int p2), (3, .int p3)]) hx hb dX10_longestCarry_5 hl (by decide) rfl (fun ls hl => ?_)
    refine lv_iload_n hx hb dX10_longestCarry_7 rfl (lv_at hl 3 rfl) ?_
    refine lv_iload_n hx hb dX10_longestCarry_8 rfl (lv_at hl 4 rfl) ?_
    obtain ⟨zo9, hzo9, hF⟩ := z_bind hF
    refine z_callvX (fun (_ : Unit) => []) (fun (x : Nat × (Unit)) => []) (fun (x : Nat × (Unit)) => xN x.1) [] (vx_runS (As := [.int p2, .int p3]) (rest := []) ⟨hx, hb, hml, hown, hts⟩ (c_X10_requireAmount l hl0 g _ p2 p3 _ hzo9) (va_cwS 2 hts (gdS mU_452 mU_453 mU_66 mU_454) rfl rfl rfl (by decide +kernel) ⟨Nat.le_of_ble_eq_true rfl, Nat.le_of_ble_eq_true rfl⟩) ⟨z_blind _ _ _ _, fun U hU hW => z_pre [] hP hD hK hB hS hA rfl rfl hU hW⟩ rfl rfl hl.1 rfl (lv_room (Nat.le_of_ble_eq_true rfl)) dX10_longestCarry_9 ⟨Nat.le_of_ble_eq_true rfl, Nat.le_of_ble_eq_true rfl⟩) hP hD hS hA rfl (fun _ => rfl) (fun _ => rfl) (fun zw9 ce q9 H locs hw hP hD hS hq1 hq2 hq3 => ?_) (fun u H locs hw hP hD hS => ?_)
    · subst hw
      have hF : _ = some o := hF
      have hP : va_P (gD g) zCl (wRoot g ad st sv isS hst spare undo seen dbef drec ptx plen ppos pcnt cmds stE stF lch llen) H := hP
      have hD : va_D A (wRoot g ad st sv isS hst spare undo seen dbef drec ptx plen ppos pcnt cmds stE stF lch llen) := hD
      have hF := z_err hF
      have ho := (Option.some.inj hF).symm
      exact vx_out (fun x hx => (hnx x hx).elim) hlocks hq1 hq2 hq3 (fun t ht hvm => ⟨(zw9.1, ()), ho, ⟨rfl, z_end ht hP⟩, hS.F ht⟩) hS.2.2 (Nat.le_of_ble_eq_true rfl) (Nat.le_of_ble_eq_true rfl)
    · obtain ⟨za9, rfl, rfl⟩ := hw
      have hF := z_okk hF
      have hP : va_P (gD g) zCl (wRoot g ad st sv isS hst spare undo seen dbef drec ptx plen ppos pcnt cmds stE stF lch llen) H := hP
      have hD : va_D A (wRoot g ad st sv isS hst spare undo seen dbef drec ptx plen ppos pcnt cmds stE stF lch llen) := hD
      refine lv_aload_n hx hb dX10_longestCarry_12 rfl (lv_at hl 1 rfl) ?_
      refine va_get (D := gD g) (ci := 6) (v := .ref (ad 1)) (C := RX10) (T := TX10) (N := 9) hx hb hts inX10 hown hK hP 0 rfl rfl 0 (by decide) (hts _ mU_277) (fun _ h9 => h9) rfl dX10_longestCarry_13 ?_
      refine va_getN (D := gD g) (ci := 5) (v := .ref (ad 3)) (C := RX8) (T := TX8) (N := 11) hx hb hts inX8 hown hK hP 1 rfl rfl 1 (by decide) (va_Nw.use rfl (hB.2.1.1 _ zn_116)) (fun _ h9 => h9) rfl dX10_longestCarry_16 ?_
      refine lv_iload hx hb dX10_longestCarry_19 (lv_at hl 0 rfl) ?_
      obtain ⟨zg10, hF⟩ := z_grd hF
      refine va_lald hx hb hK hP 3 2 rfl rfl zg10 dX10_longestCarry_21 ?_
      refine lv_iload_n hx hb dX10_longestCarry_22 rfl (lv_at hl 3 rfl) ?_
      refine lv_iload_n hx hb dX10_longestCarry_23 rfl (lv_at hl 4 rfl) ?_
      obtain ⟨zo11, hzo11, hF⟩ := z_bind hF
      refine z_calll (fun (_ : Unit) => []) [] (va_runS (As := [.int p2, .int p3]) (rest := [.long ((s_vals st) (Int32.toNatClampNeg za8))]) ⟨hx, hb, hml, hown, hts⟩ (c_X10_unitsOf l g _ p2 p3 _ hzo11) (va_cwS 2 hts (gdS mU_399 mU_400 mU_66 mU_401) rfl rfl rfl (by decide +kernel) ⟨Nat.le_of_ble_eq_true rfl, Nat.le_of_ble_eq_true rfl⟩) ⟨z_blind _ _ _ _, fun U hU hW => z_pre [] hP hD hK hB hS hA rfl rfl hU hW⟩ rfl rfl hl.1 rfl (lv_room (Nat.le_of_ble_eq_true rfl)) dX10_longestCarry_24 ⟨Nat.le_of_ble_eq_true rfl, Nat.le_of_ble_eq_true rfl⟩) hP hD hS hA rfl (fun _ => rfl) (fun r u H locs hw hP hD hS => ?_)
      subst hw
      have hP : va_P (gD g) zCl (wRoot g ad st sv isS hst spare undo seen dbef drec ptx plen ppos pcnt cmds stE stF lch llen) H := hP
      have hD : va_D A (wRoot g ad st sv isS hst spare undo seen dbef drec ptx plen ppos pcnt cmds stE stF lch llen) := hD
      obtain ⟨zo12, hzo12, hF⟩ := z_bind hF
      refine z_calli (fun (_ : Unit) => []) [] (va_runS (As := [.long ((s_vals st) (Int32.toNatClampNeg za8)), .long zo11]) (rest := []) ⟨hx, hb, hml, hown, hts⟩ (c_X10_carryingPlaces l g _ ((s_vals st) (Int32.toNatClampNeg za8)) zo11 fu _ hzo12) (va_cwS 2 hts (gdS mU_403 mU_404 mU_66 mU_405) rfl rfl rfl (by decide +kernel) ⟨Nat.le_of_ble_eq_true rfl, Nat.le_of_ble_eq_true rfl⟩) ⟨z_blind _ _ _ _, fun U hU hW => z_pre [] hP hD hK hB hS hA rfl rfl hU hW⟩ rfl rfl hl.1 rfl (lv_room (Nat.le_of_ble_eq_true rfl)) dX10_longestCarry_27 ⟨Nat.le_of_ble_eq_true rfl, Nat.le_of_ble_eq_true rfl⟩) hP hD hS hA rfl (fun _ => rfl) (fun r u H locs hw hP hD hS => ?_)
      subst hw
      have hP : va_P (gD g) zCl (wRoot g ad st sv isS hst spare undo seen dbef drec ptx plen ppos pcnt cmds stE stF lch llen) H := hP
      have hD : va_D A (wRoot g ad st sv isS hst spare undo seen dbef drec ptx plen ppos pcnt cmds stE stF lch llen) := hD
      refine lv_istore (lv' := [(5, .int zo12), (4, .int za8), (0, .ref (ad 0)), (1, .int p1), (2, .int p2), (3, .int p3)]) hx hb dX10_longestCarry_30 hl (by decide) rfl (fun ls hl => ?_)
      refine lv_iconst (v := 0) hx hb dX10_longestCarry_32 (by decide) ?_
      refine lv_istore (lv' := [(6, .int 0), (5, .int zo12), (4, .int za8), (0, .ref (ad 0)), (1, .int p1), (2, .int p2), (3, .int p3)]) hx hb dX10_longestCarry_33 hl (by decide) rfl (fun ls hl => ?_)
      refine lv_iconst (v := 0) hx hb dX10_longestCarry_35 (by decide) ?_
      refine lv_istore (lv' := [(7, .int 0), (6, .int 0), (5, .int zo12), (4, .int za8), (0, .ref (ad 0)), (1, .int p1), (2, .int p2), (3, .int p3)]) hx hb dX10_longestCarry_36 hl (by decide) rfl (fun ls hl => ?_)
      refine lv_iconst (v := 0) hx hb dX10_longestCarry_38 (by decide) ?_
      refine lv_istore (lv' := [(8, .int 0), (7, .int 0), (6, .int 0), (5, .int zo12), (4, .int za8), (0, .ref (ad 0)), (1, .int p1), (2, .int p2), (3, .int p3)]) hx hb dX10_longestCarry_39 hl (by decide) rfl (fun ls hl => ?_)
      exact K41 fu zo12 0 0 0 hF _ _ _ (lv_sub hl [3, 2, 1, 0] rfl) hP hD hS
abbrev w_X10_togetherError : List Cond := .code yX10_togetherError cX10_togetherError 2 (some .long) :: wU
abbrev r_X10_togetherError : Room := { frames := 7, cells := 1, slots := 6, locals := 102 }
abbrev q_X10_togetherError (g : GG) (ad : Nat → Nat) (st : SS) (sv : SS) (isS : Int32) (hst : Nat → SS) (spare : Int32) (undo : Int32) (seen : Nat → Int32) (dbef : Int32) (drec : Int32) (ptx : Nat → Int32) (plen : Int32) (ppos : Int32) (pcnt : Int32) (cmds : Nat → CC) (stE : Int32) (stF : Int32) (lch : Nat → Int32) (llen : Int32) (o : Except (Nat × (Unit)) (Int64)) (A : Nat → Prop) := va_Ql (fun (r : Int64) (u : Unit) => ∃ a : Int64, o = .ok a ∧ a = r) (fun u t => va_P (gD g) zCl (wRoot g ad st sv isS hst spare undo seen dbef drec ptx plen ppos pcnt cmds stE stF lch llen) t.heap) A
abbrev x_X10_togetherError (g : GG) (ad : Nat → Nat) (st : SS) (sv : SS) (isS : Int32) (hst : Nat → SS) (spare : Int32) (undo : Int32) (seen : Nat → Int32) (dbef : Int32) (drec : Int32) (ptx : Nat → Int32) (plen : Int32) (ppos : Int32) (pcnt : Int32) (cmds : Nat → CC) (stE : Int32) (stF : Int32) (lch : Nat → Int32) (llen : Int32) (o : Except (Nat × (Unit)) (Int64)) (A : Nat → Prop) := vx_X (fun (x : Nat × (Unit)) => o = .error x) (fun E x t => E = xN x.1 ∧ va_P (gD g) zCl (wRoot g ad st sv isS hst spare undo seen dbef drec ptx plen ppos pcnt cmds stE stF lch llen) t.heap) A
set_option maxHeartbeats 4000000 in
set_option maxRecDepth 100000 in
theorem c_X10_togetherError (l : Launch) (hl0 : l.stackTraces = false) (g : GG) (ad : Nat → Nat) (st : SS) (sv : SS) (isS : Int32) (hst : Nat → SS) (spare : Int32) (undo : Int32) (seen : Nat → Int32) (dbef : Int32) (drec : Int32) (ptx : Nat → Int32) (plen : Int32) (ppos : Int32) (pcnt : Int32) (cmds : Nat → CC) (stE : Int32) (stF : Int32) (lch : Nat → Int32) (llen : Int32) (sz : Nat) (p1 : Int32) (fu : Nat) (o : Except (Nat × (Unit)) (Int64)) (hF : F_X10_togetherError fu st p1 = some o) : vx_Met l yX10_togetherError w_X10_togetherError r_X10_togetherError (va_Pc [.ref (ad 0), .int p1] (zP g (wRoot g ad st sv isS hst spare undo seen dbef drec ptx plen ppos pcnt cmds stE stF lch llen) sz)) (q_X10_togetherError g ad st sv isS hst spare undo seen dbef drec ptx plen ppos pcnt cmds stE stF lch llen o (va_A (wRoot g ad st sv isS hst spare undo seen dbef drec ptx plen ppos pcnt cmds stE stF lch llen) sz)) (x_X10_togetherError g ad st sv isS hst spare undo seen dbef drec ptx plen ppos pcnt cmds stE stF lch llen o (va_A (wRoot g ad st sv isS hst spare undo seen dbef drec ptx plen ppos pcnt cmds stE stF lch llen) sz)) 1 6 (va_A (wRoot g ad st sv isS hst spare undo seen dbef drec ptx plen ppos pcnt cmds stE stF lch llen) sz) := by
  refine vx_ofW (cc := cX10_togetherError) (maxL := 2) (ret := (some .long)) (by decide) rfl ?_
  intro p e s m args below meth c s₁ B hml hnx hv
  obtain ⟨rfl, rfl, hP, hK, hD0, hB⟩ := hv
  have hx := B.exec
  have hb := B.bytes
  have hr := B.returns
  have hts : ∀ w ∈ wU, w.before _ s = true := fun w h => atoms_spec (ws := w_X10_togetherError) B.pre w (List.mem_cons_of_mem _ h)
  have hown : s.vm.findClass RX10 = some m.cls := findClass_of_methodNamed B.named
  have hlocks := B.notSynchronized
  have hD := hD0.self (sz := s.heap.size)
  generalize hAe : va_A (wRoot g ad st sv isS hst spare undo seen dbef drec ptx plen ppos pcnt cmds stE stF lch llen) s.heap.size = A at hD hB ⊢
  have hA : ∀ q : Nat, s.heap.size ≤ q → A q := fun q h => by rw [← hAe]; exact Or.inr h
  have hS : va_S A s.heap s.heap [] := va_S.rf
  have hl := lv_entry ([.ref (ad 0), .int p1]) (n := 2) (Nat.le_of_ble_eq_true rfl)
  rw [lg_entry_eq]
  generalize (lg_sl ([.ref (ad 0), .int p1]) ++ List.replicate (2 - (lg_sl ([.ref (ad 0), .int p1])).length) Slot.unset).toArray = ls at hl ⊢
  have hl : lv_has ls 2 [(0, .ref (ad 0)), (1, .int p1)] := hl
  unfold F_X10_togetherError at hF
  refine lv_iload_n hx hb dX10_togetherError_0 rfl (lv_at hl 1 rfl) ?_
  obtain ⟨zo1, hzo1, hF⟩ := z_bind hF
  refine z_callvX (fun (_ : Unit) => []) (fun (x : Nat × (Unit)) => []) (fun (x : Nat × (Unit)) => xN x.1) [] (vx_runS (As := [.int p1]) (rest := []) ⟨hx, hb, hml, hown, hts⟩ (c_X10_requireScale l hl0 g _ p1 _ hzo1) (va_cwS 1 hts (gdS mU_528 mU_529 mU_66 mU_530) rfl rfl rfl (by decide +kernel) ⟨Nat.le_of_ble_eq_true rfl, Nat.le_of_ble_eq_true rfl⟩) ⟨z_blind _ _ _ _, fun U hU hW => z_pre [] hP hD hK hB hS hA rfl rfl hU hW⟩ rfl rfl hl.1 rfl (lv_room (Nat.le_of_ble_eq_true rfl)) dX10_togetherError_1 ⟨Nat.le_of_ble_eq_true rfl, Nat.le_of_ble_eq_true rfl⟩) hP hD hS hA rfl (fun _ => rfl) (fun _ => rfl) (fun zw1 ce q9 H locs hw hP hD hS hq1 hq2 hq3 => ?_) (fun u H locs hw hP hD hS => ?_)
  · subst hw
    have hF : _ = some o := hF
    have hP : va_P (gD g) zCl (wRoot g ad st sv isS hst spare undo seen dbef drec ptx plen ppos pcnt cmds stE stF lch llen) H := hP
    have hD : va_D A (wRoot g ad st sv isS hst spare undo seen dbef drec ptx plen ppos pcnt cmds stE stF lch llen) := hD
    have hF := z_err hF
    have ho := (Option.some.inj hF).symm
    exact vx_out (fun x hx => (hnx x hx).elim) hlocks hq1 hq2 hq3 (fun t ht hvm => ⟨(zw1.1, ()), ho, ⟨rfl, z_end ht hP⟩, hS.F ht⟩) hS.2.2 (Nat.le_of_ble_eq_true rfl) (Nat.le_of_ble_eq_true rfl)
  · obtain ⟨za1, rfl, rfl⟩ := hw
    have hF := z_okk hF
    have hP : va_P (gD g) zCl (wRoot g ad st sv isS hst spare undo seen dbef drec ptx plen ppos pcnt cmds stE stF lch llen) H := hP
    have hD : va_D A (wRoot g ad st sv isS hst spare undo seen dbef drec ptx plen ppos pcnt cmds stE stF lch llen) := hD
    refine lv_aload_n hx hb dX10_togetherError_4 rfl (lv_at hl 0 rfl) ?_
    refine va_get (D := gD g) (ci := 6) (v := .ref (ad 1)) (C := RX10) (T := TX10) (N := 9) hx hb hts inX10 hown hK hP 0 rfl rfl 0 (by decide) (hts _ mU_277) (fun _ h9 => h9) rfl dX10_togetherError_5 ?_
    refine lv_iload_n hx hb dX10_togetherError_8 rfl (lv_at hl 1 rfl) ?_
    refine lv_aload_n hx hb dX10_togetherError_9 rfl (lv_at hl 0 rfl) ?_
    refine va_get (D := gD g) (ci := 6) (v := .ref (ad 1)) (C := RX10) (T := TX10) (N := 9) hx hb hts inX10 hown hK hP 0 rfl rfl 0 (by decide) (hts _ mU_277) (fun _ h9 => h9) rfl dX10_togetherError_10 ?_
    refine lv_iload_n hx hb dX10_togetherError_13 rfl (lv_at hl 1 rfl) ?_
    obtain ⟨zo2, hzo2, hF⟩ := z_bind hF
    refine z_calli (fun (_ : Unit) => (wState g (ad 1) (ad 2) (ad 3) (ad 4) (ad 5) st)) [1, 2, 3, 4, 5] (va_runS (As := [.ref (ad 1), .int p1]) (rest := [.int p1, .ref (ad 1)]) ⟨hx, hb, hml, hown, hts⟩ (c_X9_bestChoice l g (ad 1) (ad 2) (ad 3) (ad 4) (ad 5) st _ p1 fu _ hzo2) (va_cwS 2 hts (gdS mU_353 mU_354 mU_91 mU_355) rfl rfl rfl (by decide +kernel) ⟨Nat.le_of_ble_eq_true rfl, Nat.le_of_ble_eq_true rfl⟩) ⟨z_blind _ _ _ _, fun U hU hW => z_pre [1, 2, 3, 4, 5] hP hD hK hB hS hA rfl rfl hU hW⟩ rfl rfl hl.1 rfl (lv_room (Nat.le_of_ble_eq_true rfl)) dX10_togetherError_14 ⟨Nat.le_of_ble_eq_true rfl, Nat.le_of_ble_eq_true rfl⟩) hP hD hS hA rfl (fun _ => rfl) (fun r u H locs hw hP hD hS => ?_)
    subst hw
    have hP : va_P (gD g) zCl (wRoot g ad st sv isS hst spare undo seen dbef drec ptx plen ppos pcnt cmds stE stF lch llen) H := hP
    have hD : va_D A (wRoot g ad st sv isS hst spare undo seen dbef drec ptx plen ppos pcnt cmds stE stF lch llen) := hD
    obtain ⟨zo3, hzo3, hF⟩ := z_bind hF
    refine z_calll (fun (_ : Unit) => (wState g (ad 1) (ad 2) (ad 3) (ad 4) (ad 5) st)) [1, 2, 3, 4, 5] (va_runS (As := [.ref (ad 1), .int p1, .int zo2]) (rest := []) ⟨hx, hb, hml, hown, hts⟩ (c_X9_errorOf l g (ad 1) (ad 2) (ad 3) (ad 4) (ad 5) st _ p1 zo2 fu _ hzo3) (va_cwS 3 hts (gdS mU_371 mU_372 mU_91 mU_373) rfl rfl rfl (by decide +kernel) ⟨Nat.le_of_ble_eq_true rfl, Nat.le_of_ble_eq_true rfl⟩) ⟨z_blind _ _ _ _, fun U hU hW => z_pre [1, 2, 3, 4, 5] hP hD hK hB hS hA rfl rfl hU hW⟩ rfl rfl hl.1 rfl (lv_room (Nat.le_of_ble_eq_true rfl)) dX10_togetherError_17 ⟨Nat.le_of_ble_eq_true rfl, Nat.le_of_ble_eq_true rfl⟩) hP hD hS hA rfl (fun _ => rfl) (fun r u H locs hw hP hD hS => ?_)
    subst hw
    have hP : va_P (gD g) zCl (wRoot g ad st sv isS hst spare undo seen dbef drec ptx plen ppos pcnt cmds stE stF lch llen) H := hP
    have hD : va_D A (wRoot g ad st sv isS hst spare undo seen dbef drec ptx plen ppos pcnt cmds stE stF lch llen) := hD
    have ho := (Option.some.inj hF).symm
    refine vx_ret ?_
    exact W.lret (v := zo3) hx hb hr (fun t ht hW => ⟨⟨zo3, (), rfl, ⟨_, ho, rfl⟩, z_end ht hP⟩, hS.F ht⟩) hS.2.2 dX10_togetherError_20
abbrev w_X10_togetherErrorBySets : List Cond := .code yX10_togetherErrorBySets cX10_togetherErrorBySets 2 (some .long) :: wU
abbrev r_X10_togetherErrorBySets : Room := { frames := 7, cells := 1, slots := 6, locals := 102 }
abbrev q_X10_togetherErrorBySets (g : GG) (ad : Nat → Nat) (st : SS) (sv : SS) (isS : Int32) (hst : Nat → SS) (spare : Int32) (undo : Int32) (seen : Nat → Int32) (dbef : Int32) (drec : Int32) (ptx : Nat → Int32) (plen : Int32) (ppos : Int32) (pcnt : Int32) (cmds : Nat → CC) (stE : Int32) (stF : Int32) (lch : Nat → Int32) (llen : Int32) (o : Except (Nat × (Unit)) (Int64)) (A : Nat → Prop) := va_Ql (fun (r : Int64) (u : Unit) => ∃ a : Int64, o = .ok a ∧ a = r) (fun u t => va_P (gD g) zCl (wRoot g ad st sv isS hst spare undo seen dbef drec ptx plen ppos pcnt cmds stE stF lch llen) t.heap) A
abbrev x_X10_togetherErrorBySets (g : GG) (ad : Nat → Nat) (st : SS) (sv : SS) (isS : Int32) (hst : Nat → SS) (spare : Int32) (undo : Int32) (seen : Nat → Int32) (dbef : Int32) (drec : Int32) (ptx : Nat → Int32) (plen : Int32) (ppos : Int32) (pcnt : Int32) (cmds : Nat → CC) (stE : Int32) (stF : Int32) (lch : Nat → Int32) (llen : Int32) (o : Except (Nat × (Unit)) (Int64)) (A : Nat → Prop) := vx_X (fun (x : Nat × (Unit)) => o = .error x) (fun E x t => E = xN x.1 ∧ va_P (gD g) zCl (wRoot g ad st sv isS hst spare undo seen dbef drec ptx plen ppos pcnt cmds stE stF lch llen) t.heap) A
set_option maxHeartbeats 4000000 in
set_option maxRecDepth 100000 in
theorem c_X10_togetherErrorBySets (l : Launch) (hl0 : l.stackTraces = false) (g : GG) (ad : Nat → Nat) (st : SS) (sv : SS) (isS : Int32) (hst : Nat → SS) (spare : Int32) (undo : Int32) (seen : Nat → Int32) (dbef : Int32) (drec : Int32) (ptx : Nat → Int32) (plen : Int32) (ppos : Int32) (pcnt : Int32) (cmds : Nat → CC) (stE : Int32) (stF : Int32) (lch : Nat → Int32) (llen : Int32) (sz : Nat) (p1 : Int32) (fu : Nat) (o : Except (Nat × (Unit)) (Int64)) (hF : F_X10_togetherErrorBySets fu st p1 = some o) : vx_Met l yX10_togetherErrorBySets w_X10_togetherErrorBySets r_X10_togetherErrorBySets (va_Pc [.ref (ad 0), .int p1] (zP g (wRoot g ad st sv isS hst spare undo seen dbef drec ptx plen ppos pcnt cmds stE stF lch llen) sz)) (q_X10_togetherErrorBySets g ad st sv isS hst spare undo seen dbef drec ptx plen ppos pcnt cmds stE stF lch llen o (va_A (wRoot g ad st sv isS hst spare undo seen dbef drec ptx plen ppos pcnt cmds stE stF lch llen) sz)) (x_X10_togetherErrorBySets g ad st sv isS hst spare undo seen dbef drec ptx plen ppos pcnt cmds stE stF lch llen o (va_A (wRoot g ad st sv isS hst spare undo seen dbef drec ptx plen ppos pcnt cmds stE stF lch llen) sz)) 1 6 (va_A (wRoot g ad st sv isS hst spare undo seen dbef drec ptx plen ppos pcnt cmds stE stF lch llen) sz) := by
  refine vx_ofW (cc := cX10_togetherErrorBySets) (maxL := 2) (ret := (some .long)) (by decide) rfl ?_
  intro p e s m args below meth c s₁ B hml hnx hv
  obtain ⟨rfl, rfl, hP, hK, hD0, hB⟩ := hv
  have hx := B.exec
  have hb := B.bytes
  have hr := B.returns
  have hts : ∀ w ∈ wU, w.before _ s = true := fun w h => atoms_spec (ws := w_X10_togetherErrorBySets) B.pre w (List.mem_cons_of_mem _ h)
  have hown : s.vm.findClass RX10 = some m.cls := findClass_of_methodNamed B.named
  have hlocks := B.notSynchronized
  have hD := hD0.self (sz := s.heap.size)
  generalize hAe : va_A (wRoot g ad st sv isS hst spare undo seen dbef drec ptx plen ppos pcnt cmds stE stF lch llen) s.heap.size = A at hD hB ⊢
  have hA : ∀ q : Nat, s.heap.size ≤ q → A q := fun q h => by rw [← hAe]; exact Or.inr h
  have hS : va_S A s.heap s.heap [] := va_S.rf
  have hl := lv_entry ([.ref (ad 0), .int p1]) (n := 2) (Nat.le_of_ble_eq_true rfl)
  rw [lg_entry_eq]
  generalize (lg_sl ([.ref (ad 0), .int p1]) ++ List.replicate (2 - (lg_sl ([.ref (ad 0), .int p1])).length) Slot.unset).toArray = ls at hl ⊢
  have hl : lv_has ls 2 [(0, .ref (ad 0)), (1, .int p1)] := hl
  unfold F_X10_togetherErrorBySets at hF
  refine lv_iload_n hx hb dX10_togetherErrorBySets_0 rfl (lv_at hl 1 rfl) ?_
  obtain ⟨zo1, hzo1, hF⟩ := z_bind hF
  refine z_callvX (fun (_ : Unit) => []) (fun (x : Nat × (Unit)) => []) (fun (x : Nat × (Unit)) => xN x.1) [] (vx_runS (As := [.int p1]) (rest := []) ⟨hx, hb, hml, hown, hts⟩ (c_X10_requireScale l hl0 g _ p1 _ hzo1) (va_cwS 1 hts (gdS mU_528 mU_529 mU_66 mU_530) rfl rfl rfl (by decide +kernel) ⟨Nat.le_of_ble_eq_true rfl, Nat.le_of_ble_eq_true rfl⟩) ⟨z_blind _ _ _ _, fun U hU hW => z_pre [] hP hD hK hB hS hA rfl rfl hU hW⟩ rfl rfl hl.1 rfl (lv_room (Nat.le_of_ble_eq_true rfl)) dX10_togetherErrorBySets_1 ⟨Nat.le_of_ble_eq_true rfl, Nat.le_of_ble_eq_true rfl⟩) hP hD hS hA rfl (fun _ => rfl) (fun _ => rfl) (fun zw1 ce q9 H locs hw hP hD hS hq1 hq2 hq3 => ?_) (fun u H locs hw hP hD hS => ?_)
  · subst hw
    have hF : _ = some o := hF
    have hP : va_P (gD g) zCl (wRoot g ad st sv isS hst spare undo seen dbef drec ptx plen ppos pcnt cmds stE stF lch llen) H := hP
    have hD : va_D A (wRoot g ad st sv isS hst spare undo seen dbef drec ptx plen ppos pcnt cmds stE stF lch llen) := hD
    have hF := z_err hF
    have ho := (Option.some.inj hF).symm
    exact vx_out (fun x hx => (hnx x hx).elim) hlocks hq1 hq2 hq3 (fun t ht hvm => ⟨(zw1.1, ()), ho, ⟨rfl, z_end ht hP⟩, hS.F ht⟩) hS.2.2 (Nat.le_of_ble_eq_true rfl) (Nat.le_of_ble_eq_true rfl)
  · obtain ⟨za1, rfl, rfl⟩ := hw
    have hF := z_okk hF
    have hP : va_P (gD g) zCl (wRoot g ad st sv isS hst spare undo seen dbef drec ptx plen ppos pcnt cmds stE stF lch llen) H := hP
    have hD : va_D A (wRoot g ad st sv isS hst spare undo seen dbef drec ptx plen ppos pcnt cmds stE stF lch llen) := hD
    refine lv_aload_n hx hb dX10_togetherErrorBySets_4 rfl (lv_at hl 0 rfl) ?_
    refine va_get (D := gD g) (ci := 6) (v := .ref (ad 1)) (C := RX10) (T := TX10) (N := 9) hx hb hts inX10 hown hK hP 0 rfl rfl 0 (by decide) (hts _ mU_277) (fun _ h9 => h9) rfl dX10_togetherErrorBySets_5 ?_
    refine lv_iload_n hx hb dX10_togetherErrorBySets_8 rfl (lv_at hl 1 rfl) ?_
    obtain ⟨zo2, hzo2, hF⟩ := z_bind hF
    refine z_calll (fun (_ : Unit) => (wState g (ad 1) (ad 2) (ad 3) (ad 4) (ad 5) st)) [1, 2, 3, 4, 5] (va_runS (As := [.ref (ad 1), .int p1]) (rest := []) ⟨hx, hb, hml, hown, hts⟩ (c_X9_leastErrorOfSets l g (ad 1) (ad 2) (ad 3) (ad 4) (ad 5) st _ p1 fu _ hzo2) (va_cwS 2 hts (gdS mU_380 mU_381 mU_91 mU_382) rfl rfl rfl (by decide +kernel) ⟨Nat.le_of_ble_eq_true rfl, Nat.le_of_ble_eq_true rfl⟩) ⟨z_blind _ _ _ _, fun U hU hW => z_pre [1, 2, 3, 4, 5] hP hD hK hB hS hA rfl rfl hU hW⟩ rfl rfl hl.1 rfl (lv_room (Nat.le_of_ble_eq_true rfl)) dX10_togetherErrorBySets_9 ⟨Nat.le_of_ble_eq_true rfl, Nat.le_of_ble_eq_true rfl⟩) hP hD hS hA rfl (fun _ => rfl) (fun r u H locs hw hP hD hS => ?_)
    subst hw
    have hP : va_P (gD g) zCl (wRoot g ad st sv isS hst spare undo seen dbef drec ptx plen ppos pcnt cmds stE stF lch llen) H := hP
    have hD : va_D A (wRoot g ad st sv isS hst spare undo seen dbef drec ptx plen ppos pcnt cmds stE stF lch llen) := hD
    have ho := (Option.some.inj hF).symm
    refine vx_ret ?_
    exact W.lret (v := zo2) hx hb hr (fun t ht hW => ⟨⟨zo2, (), rfl, ⟨_, ho, rfl⟩, z_end ht hP⟩, hS.F ht⟩) hS.2.2 dX10_togetherErrorBySets_12
abbrev w_X10_goesUp : List Cond := .code yX10_goesUp cX10_goesUp 4 (some .boolean) :: wU
abbrev r_X10_goesUp : Room := { frames := 7, cells := 2, slots := 12, locals := 104 }
abbrev q_X10_goesUp (g : GG) (ad : Nat → Nat) (st : SS) (sv : SS) (isS : Int32) (hst : Nat → SS) (spare : Int32) (undo : Int32) (seen : Nat → Int32) (dbef : Int32) (drec : Int32) (ptx : Nat → Int32) (plen : Int32) (ppos : Int32) (pcnt : Int32) (cmds : Nat → CC) (stE : Int32) (stF : Int32) (lch : Nat → Int32) (llen : Int32) (o : Except (Nat × (Unit)) (Int32)) (A : Nat → Prop) := va_Qi (fun (r : Int32) (u : Unit) => ∃ a : Int32, o = .ok a ∧ a = r) (fun u t => va_P (gD g) zCl (wRoot g ad st sv isS hst spare undo seen dbef drec ptx plen ppos pcnt cmds stE stF lch llen) t.heap) A
abbrev x_X10_goesUp (g : GG) (ad : Nat → Nat) (st : SS) (sv : SS) (isS : Int32) (hst : Nat → SS) (spare : Int32) (undo : Int32) (seen : Nat → Int32) (dbef : Int32) (drec : Int32) (ptx : Nat → Int32) (plen : Int32) (ppos : Int32) (pcnt : Int32) (cmds : Nat → CC) (stE : Int32) (stF : Int32) (lch : Nat → Int32) (llen : Int32) (o : Except (Nat × (Unit)) (Int32)) (A : Nat → Prop) := vx_X (fun (x : Nat × (Unit)) => o = .error x) (fun E x t => E = xN x.1 ∧ va_P (gD g) zCl (wRoot g ad st sv isS hst spare undo seen dbef drec ptx plen ppos pcnt cmds stE stF lch llen) t.heap) A
set_option maxHeartbeats 4000000 in
set_option maxRecDepth 100000 in
theorem c_X10_goesUp (l : Launch) (hl0 : l.stackTraces = false) (g : GG) (ad : Nat → Nat) (st : SS) (sv : SS) (isS : Int32) (hst : Nat → SS) (spare : Int32) (undo : Int32) (seen : Nat → Int32) (dbef : Int32) (drec : Int32) (ptx : Nat → Int32) (plen : Int32) (ppos : Int32) (pcnt : Int32) (cmds : Nat → CC) (stE : Int32) (stF : Int32) (lch : Nat → Int32) (llen : Int32) (sz : Nat) (p1 : Int32) (p2 : Int32) (fu : Nat) (o : Except (Nat × (Unit)) (Int32)) (hF : F_X10_goesUp fu st p1 p2 = some o) : vx_Met l yX10_goesUp w_X10_goesUp r_X10_goesUp (va_Pc [.ref (ad 0), .int p1, .int p2] (zP g (wRoot g ad st sv isS hst spare undo seen dbef drec ptx plen ppos pcnt cmds stE stF lch llen) sz)) (q_X10_goesUp g ad st sv isS hst spare undo seen dbef drec ptx plen ppos pcnt cmds stE stF lch llen o (va_A (wRoot g ad st sv isS hst spare undo seen dbef drec ptx plen ppos pcnt cmds stE stF lch llen) sz)) (x_X10_goesUp g ad st sv isS hst spare undo seen dbef drec ptx plen ppos pcnt cmds stE stF lch llen o (va_A (wRoot g ad st sv isS hst spare undo seen dbef drec ptx plen ppos pcnt cmds stE stF lch llen) sz)) 2 12 (va_A (wRoot g ad st sv isS hst spare undo seen dbef drec ptx plen ppos pcnt cmds stE stF lch llen) sz) := by
  refine vx_ofW (cc := cX10_goesUp) (maxL := 4) (ret := (some .boolean)) (by decide) rfl ?_
  intro p e s m args below meth c s₁ B hml hnx hv
  obtain ⟨rfl, rfl, hP, hK, hD0, hB⟩ := hv
  have hx := B.exec
  have hb := B.bytes
  have hr := B.returns
  have hts : ∀ w ∈ wU, w.before _ s = true := fun w h => atoms_spec (ws := w_X10_goesUp) B.pre w (List.mem_cons_of_mem _ h)
  have hown : s.vm.findClass RX10 = some m.cls := findClass_of_methodNamed B.named
  have hlocks := B.notSynchronized
  have hD := hD0.self (sz := s.heap.size)
  generalize hAe : va_A (wRoot g ad st sv isS hst spare undo seen dbef drec ptx plen ppos pcnt cmds stE stF lch llen) s.heap.size = A at hD hB ⊢
  have hA : ∀ q : Nat, s.heap.size ≤ q → A q := fun q h => by rw [← hAe]; exact Or.inr h
  have hS : va_S A s.heap s.heap [] := va_S.rf
  have hl := lv_entry ([.ref (ad 0), .int p1, .int p2]) (n := 4) (Nat.le_of_ble_eq_true rfl)
  rw [lg_entry_eq]
  generalize (lg_sl ([.ref (ad 0), .int p1, .int p2]) ++ List.replicate (4 - (lg_sl ([.ref (ad 0), .int p1, .int p2])).length) Slot.unset).toArray = ls at hl ⊢
  have hl : lv_has ls 4 [(0, .ref (ad 0)), (1, .int p1), (2, .int p2)] := hl
  unfold F_X10_goesUp at hF
  refine lv_aload_n hx hb dX10_goesUp_0 rfl (lv_at hl 0 rfl) ?_
  refine lv_iload_n hx hb dX10_goesUp_1 rfl (lv_at hl 1 rfl) ?_
  obtain ⟨zo1, hzo1, hF⟩ := z_bind hF
  refine z_calliXE (fun (_ : Unit) => (wRoot g ad st sv isS hst spare undo seen dbef drec ptx plen ppos pcnt cmds stE stF lch llen)) (fun (x : Nat × (Unit)) => (wRoot g ad st sv isS hst spare undo seen dbef drec ptx plen ppos pcnt cmds stE stF lch llen)) (fun (x : Nat × (Unit)) => xN x.1) (vx_runV (As := [.int p1]) (rest := []) ⟨hx, hb, hml, hown, hts⟩ (c_X10_requirePosition l hl0 g ad st sv isS hst spare undo seen dbef drec ptx plen ppos pcnt cmds stE stF lch llen _ p1 fu _ hzo1) (cwV 1 hts (gdV mU_699 mU_701 mU_7 mU_66 mU_702) rfl rfl rfl (by decide +kernel) ⟨Nat.le_of_ble_eq_true rfl, Nat.le_of_ble_eq_true rfl⟩) ⟨z_blind _ _ _ _, va_recv hK hP (ci := 6) (q0 := 0) rfl rfl, fun U hU hW => z_preE hP hD hK hB hS hA hU hW⟩ rfl rfl hl.1 rfl (lv_room (Nat.le_of_ble_eq_true rfl)) dX10_goesUp_2 ⟨Nat.le_of_ble_eq_true rfl, Nat.le_of_ble_eq_true rfl⟩) hD hS hA (fun _ => rfl) (fun _ => rfl) (fun zw1 ce q9 H locs hw hP hD hS hq1 hq2 hq3 => ?_) (fun r u H locs hw hP hD hS => ?_)
  · subst hw
    have hF : _ = some o := hF
    have hP : va_P (gD g) zCl (wRoot g ad st sv isS hst spare undo seen dbef drec ptx plen ppos pcnt cmds stE stF lch llen) H := hP
    have hD : va_D A (wRoot g ad st sv isS hst spare undo seen dbef drec ptx plen ppos pcnt cmds stE stF lch llen) := hD
    have hF := z_err hF
    have ho := (Option.some.inj hF).symm
    exact vx_out (fun x hx => (hnx x hx).elim) hlocks hq1 hq2 hq3 (fun t ht hvm => ⟨(zw1.1, ()), ho, ⟨rfl, z_end ht hP⟩, hS.F ht⟩) hS.2.2 (Nat.le_of_ble_eq_true rfl) (Nat.le_of_ble_eq_true rfl)
  · obtain ⟨za1, rfl, rfl⟩ := hw
    have hF := z_okk hF
    have hP : va_P (gD g) zCl (wRoot g ad st sv isS hst spare undo seen dbef drec ptx plen ppos pcnt cmds stE stF lch llen) H := hP
    have hD : va_D A (wRoot g ad st sv isS hst spare undo seen dbef drec ptx plen ppos pcnt cmds stE stF lch llen) := hD
    refine lv_istore_n (lv' := [(3, .int za1), (0, .ref (ad 0)), (1, .int p1), (2, .int p2)]) hx hb dX10_goesUp_5 rfl hl (by decide) rfl (fun ls hl => ?_)
    refine lv_iload_n hx hb dX10_goesUp_6 rfl (lv_at hl 3 rfl) ?_
    obtain ⟨zo2, hzo2, hF⟩ := z_bind hF
    refine z_callvX (fun (_ : Unit) => []) (fun (x : Nat × (Unit)) => []) (fun (x : Nat × (Unit)) => xN x.1) [] (vx_runS (As := [.int p2]) (rest := []) ⟨hx, hb, hml, hown, hts⟩ (c_X10_requireScale l hl0 g _ p2 _ hzo2) (va_cwS 1 hts (gdS mU_528 mU_529 mU_66 mU_530) rfl rfl rfl (by decide +kernel) ⟨Nat.le_of_ble_eq_true rfl, Nat.le_of_ble_eq_true rfl⟩) ⟨z_blind _ _ _ _, fun U hU hW => z_pre [] hP hD hK hB hS hA rfl rfl hU hW⟩ rfl rfl hl.1 rfl (lv_room (Nat.le_of_ble_eq_true rfl)) dX10_goesUp_7 ⟨Nat.le_of_ble_eq_true rfl, Nat.le_of_ble_eq_true rfl⟩) hP hD hS hA rfl (fun _ => rfl) (fun _ => rfl) (fun zw2 ce q9 H locs hw hP hD hS hq1 hq2 hq3 => ?_) (fun u H locs hw hP hD hS => ?_)
    · subst hw
      have hF : _ = some o := hF
      have hP : va_P (gD g) zCl (wRoot g ad st sv isS hst spare undo seen dbef drec ptx plen ppos pcnt cmds stE stF lch llen) H := hP
      have hD : va_D A (wRoot g ad st sv isS hst spare undo seen dbef drec ptx plen ppos pcnt cmds stE stF lch llen) := hD
      have hF := z_err hF
      have ho := (Option.some.inj hF).symm
      exact vx_out (fun x hx => (hnx x hx).elim) hlocks hq1 hq2 hq3 (fun t ht hvm => ⟨(zw2.1, ()), ho, ⟨rfl, z_end ht hP⟩, hS.F ht⟩) hS.2.2 (Nat.le_of_ble_eq_true rfl) (Nat.le_of_ble_eq_true rfl)
    · obtain ⟨za2, rfl, rfl⟩ := hw
      have hF := z_okk hF
      have hP : va_P (gD g) zCl (wRoot g ad st sv isS hst spare undo seen dbef drec ptx plen ppos pcnt cmds stE stF lch llen) H := hP
      have hD : va_D A (wRoot g ad st sv isS hst spare undo seen dbef drec ptx plen ppos pcnt cmds stE stF lch llen) := hD
      refine lv_aload_n hx hb dX10_goesUp_10 rfl (lv_at hl 1 rfl) ?_
      refine va_get (D := gD g) (ci := 6) (v := .ref (ad 1)) (C := RX10) (T := TX10) (N := 9) hx hb hts inX10 hown hK hP 0 rfl rfl 0 (by decide) (hts _ mU_277) (fun _ h9 => h9) rfl dX10_goesUp_11 ?_
      refine lv_iload_n hx hb dX10_goesUp_14 rfl (lv_at hl 3 rfl) ?_
      obtain ⟨zo3, hzo3, hF⟩ := z_bind hF
      refine z_calli (fun (_ : Unit) => (wState g (ad 1) (ad 2) (ad 3) (ad 4) (ad 5) st)) [1, 2, 3, 4, 5] (va_runS (As := [.ref (ad 1), .int p2]) (rest := []) ⟨hx, hb, hml, hown, hts⟩ (c_X9_bestChoice l g (ad 1) (ad 2) (ad 3) (ad 4) (ad 5) st _ p2 fu _ hzo3) (va_cwS 2 hts (gdS mU_353 mU_354 mU_91 mU_355) rfl rfl rfl (by decide +kernel) ⟨Nat.le_of_ble_eq_true rfl, Nat.le_of_ble_eq_true rfl⟩) ⟨z_blind _ _ _ _, fun U hU hW => z_pre [1, 2, 3, 4, 5] hP hD hK hB hS hA rfl rfl hU hW⟩ rfl rfl hl.1 rfl (lv_room (Nat.le_of_ble_eq_true rfl)) dX10_goesUp_15 ⟨Nat.le_of_ble_eq_true rfl, Nat.le_of_ble_eq_true rfl⟩) hP hD hS hA rfl (fun _ => rfl) (fun r u H locs hw hP hD hS => ?_)
      subst hw
      have hP : va_P (gD g) zCl (wRoot g ad st sv isS hst spare undo seen dbef drec ptx plen ppos pcnt cmds stE stF lch llen) H := hP
      have hD : va_D A (wRoot g ad st sv isS hst spare undo seen dbef drec ptx plen ppos pcnt cmds stE stF lch llen) := hD
      refine lv_iload_n hx hb dX10_goesUp_18 rfl (lv_at hl 0 rfl) ?_
      obtain ⟨zo4, hzo4, hF⟩ := z_bind hF
      refine z_calli (fun (_ : Unit) => []) [] (va_runS (As := [.int zo3, .int za1]) (rest := []) ⟨hx, hb, hml, hown, hts⟩ (c_X9_isUp l g _ zo3 za1 _ hzo4) (va_cwS 2 hts (gdS mU_949 mU_369 mU_91 mU_370) rfl rfl rfl (by decide +kernel) ⟨Nat.le_of_ble_eq_true rfl, Nat.le_of_ble_eq_true rfl⟩) ⟨z_blind _ _ _ _, fun U hU hW => z_pre [] hP hD hK hB hS hA rfl rfl hU hW⟩ rfl rfl hl.1 rfl (lv_room (Nat.le_of_ble_eq_true rfl)) dX10_goesUp_19 ⟨Nat.le_of_ble_eq_true rfl, Nat.le_of_ble_eq_true rfl⟩) hP hD hS hA rfl (fun _ => rfl) (fun r u H locs hw hP hD hS => ?_)
      subst hw
      have hP : va_P (gD g) zCl (wRoot g ad st sv isS hst spare undo seen dbef drec ptx plen ppos pcnt cmds stE stF lch llen) H := hP
      have hD : va_D A (wRoot g ad st sv isS hst spare undo seen dbef drec ptx plen ppos pcnt cmds stE stF lch llen) := hD
      obtain ⟨zg5, hF⟩ := z_grd hF
      have ho := (Option.some.inj hF).symm
      refine vx_ret ?_
      exact W.zret (v := zo4) hx hb hr (z_narb (Classical.not_not.mp zg5)).1 (fun t ht hW => ⟨⟨zo4, (), rfl, ⟨_, ho, rfl⟩, z_end ht hP⟩, hS.F ht⟩) hS.2.2 dX10_goesUp_22
abbrev w_X10_quotientDigit : List Cond := .code yX10_quotientDigit cX10_quotientDigit 6 (some .int) :: wU
abbrev r_X10_quotientDigit : Room := { frames := 7, cells := 2, slots := 12, locals := 103 }
abbrev q_X10_quotientDigit (g : GG) (ad : Nat → Nat) (st : SS) (sv : SS) (isS : Int32) (hst : Nat → SS) (spare : Int32) (undo : Int32) (seen : Nat → Int32) (dbef : Int32) (drec : Int32) (ptx : Nat → Int32) (plen : Int32) (ppos : Int32) (pcnt : Int32) (cmds : Nat → CC) (stE : Int32) (stF : Int32) (lch : Nat → Int32) (llen : Int32) (o : Except (Nat × (Unit)) (Int32)) (A : Nat → Prop) := va_Qi (fun (r : Int32) (u : Unit) => ∃ a : Int32, o = .ok a ∧ a = r) (fun u t => va_P (gD g) zCl (wRoot g ad st sv isS hst spare undo seen dbef drec ptx plen ppos pcnt cmds stE stF lch llen) t.heap) A
abbrev x_X10_quotientDigit (g : GG) (ad : Nat → Nat) (st : SS) (sv : SS) (isS : Int32) (hst : Nat → SS) (spare : Int32) (undo : Int32) (seen : Nat → Int32) (dbef : Int32) (drec : Int32) (ptx : Nat → Int32) (plen : Int32) (ppos : Int32) (pcnt : Int32) (cmds : Nat → CC) (stE : Int32) (stF : Int32) (lch : Nat → Int32) (llen : Int32) (o : Except (Nat × (Unit)) (Int32)) (A : Nat → Prop) := vx_X (fun (x : Nat × (Unit)) => o = .error x) (fun E x t => E = xN x.1 ∧ va_P (gD g) zCl (wRoot g ad st sv isS hst spare undo seen dbef drec ptx plen ppos pcnt cmds stE stF lch llen) t.heap) A
set_option maxHeartbeats 4000000 in
set_option maxRecDepth 100000 in
theorem c_X10_quotientDigit (l : Launch) (hl0 : l.stackTraces = false) (g : GG) (ad : Nat → Nat) (st : SS) (sv : SS) (isS : Int32) (hst : Nat → SS) (spare : Int32) (undo : Int32) (seen : Nat → Int32) (dbef : Int32) (drec : Int32) (ptx : Nat → Int32) (plen : Int32) (ppos : Int32) (pcnt : Int32) (cmds : Nat → CC) (stE : Int32) (stF : Int32) (lch : Nat → Int32) (llen : Int32) (sz : Nat) (p1 : Int32) (p2 : Int32) (p3 : Int32) (fu : Nat) (o : Except (Nat × (Unit)) (Int32)) (hF : F_X10_quotientDigit fu p1 p2 p3 = some o) : vx_Met l yX10_quotientDigit w_X10_quotientDigit r_X10_quotientDigit (va_Pc [.ref (ad 0), .int p1, .int p2, .int p3] (zP g (wRoot g ad st sv isS hst spare undo seen dbef drec ptx plen ppos pcnt cmds stE stF lch llen) sz)) (q_X10_quotientDigit g ad st sv isS hst spare undo seen dbef drec ptx plen ppos pcnt cmds stE stF lch llen o (va_A (wRoot g ad st sv isS hst spare undo seen dbef drec ptx plen ppos pcnt cmds stE stF lch llen) sz)) (x_X10_quotientDigit g ad st sv isS hst spare undo seen dbef drec ptx plen ppos pcnt cmds stE stF lch llen o (va_A (wRoot g ad st sv isS hst spare undo seen dbef drec ptx plen ppos pcnt cmds stE stF lch llen) sz)) 2 12 (va_A (wRoot g ad st sv isS hst spare undo seen dbef drec ptx plen ppos pcnt cmds stE stF lch llen) sz) := by
  refine vx_ofW (cc := cX10_quotientDigit) (maxL := 6) (ret := (some .int)) (by decide) rfl ?_
  intro p e s m args below meth c s₁ B hml hnx hv
  obtain ⟨rfl, rfl, hP, hK, hD0, hB⟩ := hv
  have hx := B.exec
  have hb := B.bytes
  have hr := B.returns
  have hts : ∀ w ∈ wU, w.before _ s = true := fun w h => atoms_spec (ws := w_X10_quotientDigit) B.pre w (List.mem_cons_of_mem _ h)
  have hown : s.vm.findClass RX10 = some m.cls := findClass_of_methodNamed B.named
  have hlocks := B.notSynchronized
  have hD := hD0.self (sz := s.heap.size)
  generalize hAe : va_A (wRoot g ad st sv isS hst spare undo seen dbef drec ptx plen ppos pcnt cmds stE stF lch llen) s.heap.size = A at hD hB ⊢
  have hA : ∀ q : Nat, s.heap.size ≤ q → A q := fun q h => by rw [← hAe]; exact Or.inr h
  have hS : va_S A s.heap s.heap [] := va_S.rf
  have hl := lv_entry ([.ref (ad 0), .int p1, .int p2, .int p3]) (n := 6) (Nat.le_of_ble_eq_true rfl)
  rw [lg_entry_eq]
  generalize (lg_sl ([.ref (ad 0), .int p1, .int p2, .int p3]) ++ List.replicate (6 - (lg_sl ([.ref (ad 0), .int p1, .int p2, .int p3])).length) Slot.unset).toArray = ls at hl ⊢
  have hl : lv_has ls 6 [(0, .ref (ad 0)), (1, .int p1), (2, .int p2), (3, .int p3)] := hl
  unfold F_X10_quotientDigit at hF
  have K35 : ∀ (n35 : Nat) (x4 : Int32) (x5 : Int32), F_X10_quotientDigit_35 fu n35 p2 p3 x4 x5 = some o → ∀ (H : Heap) (locs : List Loc) (ls : Array Slot), lv_has ls 6 [(2, .int p2), (3, .int p3), (4, .int x4), (5, .int x5)] → va_P (gD g) zCl (wRoot g ad st sv isS hst spare undo seen dbef drec ptx plen ppos pcnt cmds stE stF lch llen) H → va_D A (wRoot g ad st sv isS hst spare undo seen dbef drec ptx plen ppos pcnt cmds stE stF lch llen) → va_S A s.heap H locs → W p l e (headSpec w_X10_quotientDigit r_X10_quotientDigit).room s m ([.ref (ad 0), .int p1, .int p2, .int p3] : List Value).toArray below meth c H locs 1 6 (vx_MQ below (q_X10_quotientDigit g ad st sv isS hst spare undo seen dbef drec ptx plen ppos pcnt cmds stE stF lch llen o A) (x_X10_quotientDigit g ad st sv isS hst spare undo seen dbef drec ptx plen ppos pcnt cmds stE stF lch llen o A) ([.ref (ad 0), .int p1, .int p2, .int p3] : List Value).toArray s 2 12 A) (F0 m 35 ls []) := by
    intro n35
    induction n35 with
    | zero =>
      intro x4 x5 hF
      exact absurd hF (by simp [F_X10_quotientDigit_35])
    | succ n35 ih35 =>
      intro x4 x5 hF H locs ls hl hP hD hS
      unfold F_X10_quotientDigit_35 at hF
      refine lv_iload hx hb dX10_quotientDigit_35 (lv_at hl 3 rfl) ?_
      refine lv_iload_n hx hb dX10_quotientDigit_37 rfl (lv_at hl 1 rfl) ?_
      refine lv_icmp_ge (tgt := 56) hx hb dX10_quotientDigit_38 (by decide) (fun zc1 => ?_) (fun zc1 => ?_)
      · have hF := z_pos hF zc1
        refine lv_iload hx hb dX10_quotientDigit_56 (lv_at hl 2 rfl) ?_
        refine lv_bipush (v := 10) hx hb dX10_quotientDigit_58 (by decide) ?_
        refine lv_imul hx hb dX10_quotientDigit_60 ?_
        refine lv_iload_n hx hb dX10_quotientDigit_61 rfl (lv_at hl 0 rfl) ?_
        obtain ⟨zg2, hF⟩ := z_grd hF
        refine lv_idiv hx hb dX10_quotientDigit_62 zg2 ?_
        have ho := (Option.some.inj hF).symm
        refine vx_ret ?_
        refine W.widen (k := 2) (n := 12) (Nat.le_of_ble_eq_true rfl) (Nat.le_of_ble_eq_true rfl) ?_
        exact W.iret (v := ((x4 * 10) / p2)) hx hb hr (fun t ht hW => ⟨⟨((x4 * 10) / p2), (), rfl, ⟨_, ho, rfl⟩, z_end ht hP⟩, hS.F ht⟩) hS.2.2 dX10_quotientDigit_63
      · have hF := z_neg hF zc1
        refine lv_iload hx hb dX10_quotientDigit_41 (lv_at hl 2 rfl) ?_
        refine lv_bipush (v := 10) hx hb dX10_quotientDigit_43 (by decide) ?_
        refine lv_imul hx hb dX10_quotientDigit_45 ?_
        refine lv_iload_n hx hb dX10_quotientDigit_46 rfl (lv_at hl 0 rfl) ?_
        obtain ⟨zg3, hF⟩ := z_grd hF
        refine lv_irem hx hb dX10_quotientDigit_47 zg3 ?_
        obtain ⟨zv4, ezv4, hF⟩ := z_let hF
        refine z_topi ezv4 ?_
        refine lv_istore (lv' := [(4, .int zv4), (2, .int p2), (3, .int p3), (5, .int x5)]) hx hb dX10_quotientDigit_48 hl (by decide) rfl (fun ls hl => ?_)
        obtain ⟨zv5, ezv5, hF⟩ := z_let hF
        refine lv_iinc (v := zv5) (lv' := [(5, .int zv5), (4, .int zv4), (2, .int p2), (3, .int p3)]) hx hb dX10_quotientDigit_50 hl (k := 3) rfl (by rw [ezv5]; rfl) (by decide) rfl (fun ls hl => ?_)
        refine lv_goto (tgt := 35) hx hb dX10_quotientDigit_53 (by decide) ?_
        exact ih35 zv4 zv5 hF _ _ _ (lv_sub hl [2, 3, 1, 0] rfl) hP hD hS
  refine lv_iload_n hx hb dX10_quotientDigit_0 rfl (lv_at hl 1 rfl) ?_
  refine lv_iload_n hx hb dX10_quotientDigit_1 rfl (lv_at hl 2 rfl) ?_
  obtain ⟨zo6, hzo6, hF⟩ := z_bind hF
  refine z_callvX (fun (_ : Unit) => []) (fun (x : Nat × (Unit)) => []) (fun (x : Nat × (Unit)) => xN x.1) [] (vx_runS (As := [.int p1, .int p2]) (rest := []) ⟨hx, hb, hml, hown, hts⟩ (c_X10_requireQuotient l hl0 g _ p1 p2 _ hzo6) (va_cwS 2 hts (gdS mU_680 mU_681 mU_66 mU_682) rfl rfl rfl (by decide +kernel) ⟨Nat.le_of_ble_eq_true rfl, Nat.le_of_ble_eq_true rfl⟩) ⟨z_blind _ _ _ _, fun U hU hW => z_pre [] hP hD hK hB hS hA rfl rfl hU hW⟩ rfl rfl hl.1 rfl (lv_room (Nat.le_of_ble_eq_true rfl)) dX10_quotientDigit_2 ⟨Nat.le_of_ble_eq_true rfl, Nat.le_of_ble_eq_true rfl⟩) hP hD hS hA rfl (fun _ => rfl) (fun _ => rfl) (fun zw6 ce q9 H locs hw hP hD hS hq1 hq2 hq3 => ?_) (fun u H locs hw hP hD hS => ?_)
  · subst hw
    have hF : _ = some o := hF
    have hP : va_P (gD g) zCl (wRoot g ad st sv isS hst spare undo seen dbef drec ptx plen ppos pcnt cmds stE stF lch llen) H := hP
    have hD : va_D A (wRoot g ad st sv isS hst spare undo seen dbef drec ptx plen ppos pcnt cmds stE stF lch llen) := hD
    have hF := z_err hF
    have ho := (Option.some.inj hF).symm
    exact vx_out (fun x hx => (hnx x hx).elim) hlocks hq1 hq2 hq3 (fun t ht hvm => ⟨(zw6.1, ()), ho, ⟨rfl, z_end ht hP⟩, hS.F ht⟩) hS.2.2 (Nat.le_of_ble_eq_true rfl) (Nat.le_of_ble_eq_true rfl)
  · obtain ⟨za6, rfl, rfl⟩ := hw
    have hF := z_okk hF
    have hP : va_P (gD g) zCl (wRoot g ad st sv isS hst spare undo seen dbef drec ptx plen ppos pcnt cmds stE stF lch llen) H := hP
    have hD : va_D A (wRoot g ad st sv isS hst spare undo seen dbef drec ptx plen ppos pcnt cmds stE stF lch llen) := hD
    refine lv_iload_n hx hb dX10_quotientDigit_5 rfl (lv_at hl 3 rfl) ?_
    refine lv_iconst (v := 1) hx hb dX10_quotientDigit_6 (by decide) ?_
    refine lv_icmp_lt (tgt := 17) hx hb dX10_quotientDigit_7 (by decide) (fun zc7 => ?_) (fun zc7 => ?_)
    · have hF := z_pos hF zc7
      have ho := (Option.some.inj hF).symm
      obtain ⟨sa, hsa⟩ := hB.2.1.2.2.1 (252, "no such position") (by decide +kernel)
      exact vx_throwS hx hb hl0 (own := RX10) (cls := "java/lang/IndexOutOfBoundsException") (text := "no such position") (names := ["java/lang/RuntimeException", "java/lang/Exception"]) hown (by decide +kernel) (by decide +kernel) (hts _ mU_824) (hts _ mU_93) hsa (zat_203 hts hB) zgo_203 hB.1.1 hB.1.2 hS (hl.1.trans hml.symm) dX10_quotientDigit_17 dX10_quotientDigit_20 dX10_quotientDigit_21 dX10_quotientDigit_23 dX10_quotientDigit_26 (fun x hx => (hnx x hx).elim) (Nat.le_of_ble_eq_true rfl) (Nat.le_of_ble_eq_true rfl) (Nat.le_of_ble_eq_true rfl) (Nat.le_of_ble_eq_true rfl) hlocks (fun t ha hz hk => ⟨(4, ()), ho, ⟨rfl, (z_thr hP hS hz hk).1⟩, (z_thr hP hS hz hk).2⟩) hS.2.2 (Nat.le_of_ble_eq_true rfl) (Nat.le_of_ble_eq_true rfl)
    · have hF := z_neg hF zc7
      refine lv_iload_n hx hb dX10_quotientDigit_10 rfl (lv_at hl 3 rfl) ?_
      refine lv_sipush (v := 9999) hx hb dX10_quotientDigit_11 (by decide) ?_
      refine lv_icmp_le (tgt := 27) hx hb dX10_quotientDigit_14 (by decide) (fun zc8 => ?_) (fun zc8 => ?_)
      · have hF := z_pos hF zc8
        refine lv_iload_n hx hb dX10_quotientDigit_27 rfl (lv_at hl 1 rfl) ?_
        refine lv_iload_n hx hb dX10_quotientDigit_28 rfl (lv_at hl 2 rfl) ?_
        obtain ⟨zg9, hF⟩ := z_grd hF
        refine lv_irem hx hb dX10_quotientDigit_29 zg9 ?_
        obtain ⟨zv10, ezv10, hF⟩ := z_let hF
        refine z_topi ezv10 ?_
        refine lv_istore (lv' := [(4, .int zv10), (0, .ref (ad 0)), (1, .int p1), (2, .int p2), (3, .int p3)]) hx hb dX10_quotientDigit_30 hl (by decide) rfl (fun ls hl => ?_)
        refine lv_iconst (v := 1) hx hb dX10_quotientDigit_32 (by decide) ?_
        refine lv_istore (lv' := [(5, .int 1), (4, .int zv10), (0, .ref (ad 0)), (1, .int p1), (2, .int p2), (3, .int p3)]) hx hb dX10_quotientDigit_33 hl (by decide) rfl (fun ls hl => ?_)
        exact K35 fu zv10 1 hF _ _ _ (lv_sub hl [4, 5, 1, 0] rfl) hP hD hS
      · have hF := z_neg hF zc8
        have ho := (Option.some.inj hF).symm
        obtain ⟨sa, hsa⟩ := hB.2.1.2.2.1 (252, "no such position") (by decide +kernel)
        exact vx_throwS hx hb hl0 (own := RX10) (cls := "java/lang/IndexOutOfBoundsException") (text := "no such position") (names := ["java/lang/RuntimeException", "java/lang/Exception"]) hown (by decide +kernel) (by decide +kernel) (hts _ mU_824) (hts _ mU_93) hsa (zat_203 hts hB) zgo_203 hB.1.1 hB.1.2 hS (hl.1.trans hml.symm) dX10_quotientDigit_17 dX10_quotientDigit_20 dX10_quotientDigit_21 dX10_quotientDigit_23 dX10_quotientDigit_26 (fun x hx => (hnx x hx).elim) (Nat.le_of_ble_eq_true rfl) (Nat.le_of_ble_eq_true rfl) (Nat.le_of_ble_eq_true rfl) (Nat.le_of_ble_eq_true rfl) hlocks (fun t ha hz hk => ⟨(4, ()), ho, ⟨rfl, (z_thr hP hS hz hk).1⟩, (z_thr hP hS hz hk).2⟩) hS.2.2 (Nat.le_of_ble_eq_true rfl) (Nat.le_of_ble_eq_true rfl)
abbrev w_X10_preperiod : List Cond := .code yX10_preperiod cX10_preperiod 3 (some .int) :: wU
abbrev r_X10_preperiod : Room := { frames := 7, cells := 1, slots := 6, locals := 103 }
abbrev q_X10_preperiod (g : GG) (ad : Nat → Nat) (st : SS) (sv : SS) (isS : Int32) (hst : Nat → SS) (spare : Int32) (undo : Int32) (seen : Nat → Int32) (dbef : Int32) (drec : Int32) (ptx : Nat → Int32) (plen : Int32) (ppos : Int32) (pcnt : Int32) (cmds : Nat → CC) (stE : Int32) (stF : Int32) (lch : Nat → Int32) (llen : Int32) (o : Except (Nat × ((Nat → Int32) × Int32 × Int32)) (Int32 × (Nat → Int32) × Int32 × Int32)) (A : Nat → Prop) := va_Qi (fun (r : Int32) (u : (Nat → Int32) × Int32 × Int32) => ∃ a : Int32 × (Nat → Int32) × Int32 × Int32, o = .ok a ∧ a.1 = r ∧ a.2 = u) (fun u t => va_P (gD g) zCl (wRoot g ad st sv isS hst spare undo u.1 u.2.1 u.2.2 ptx plen ppos pcnt cmds stE stF lch llen) t.heap) A
abbrev x_X10_preperiod (g : GG) (ad : Nat → Nat) (st : SS) (sv : SS) (isS : Int32) (hst : Nat → SS) (spare : Int32) (undo : Int32) (seen : Nat → Int32) (dbef : Int32) (drec : Int32) (ptx : Nat → Int32) (plen : Int32) (ppos : Int32) (pcnt : Int32) (cmds : Nat → CC) (stE : Int32) (stF : Int32) (lch : Nat → Int32) (llen : Int32) (o : Except (Nat × ((Nat → Int32) × Int32 × Int32)) (Int32 × (Nat → Int32) × Int32 × Int32)) (A : Nat → Prop) := vx_X (fun (x : Nat × ((Nat → Int32) × Int32 × Int32)) => o = .error x) (fun E x t => E = xN x.1 ∧ va_P (gD g) zCl (wRoot g ad st sv isS hst spare undo x.2.1 x.2.2.1 x.2.2.2 ptx plen ppos pcnt cmds stE stF lch llen) t.heap) A
set_option maxHeartbeats 4000000 in
set_option maxRecDepth 100000 in
theorem c_X10_preperiod (l : Launch) (hl0 : l.stackTraces = false) (g : GG) (ad : Nat → Nat) (st : SS) (sv : SS) (isS : Int32) (hst : Nat → SS) (spare : Int32) (undo : Int32) (seen : Nat → Int32) (dbef : Int32) (drec : Int32) (ptx : Nat → Int32) (plen : Int32) (ppos : Int32) (pcnt : Int32) (cmds : Nat → CC) (stE : Int32) (stF : Int32) (lch : Nat → Int32) (llen : Int32) (sz : Nat) (p1 : Int32) (p2 : Int32) (fu : Nat) (o : Except (Nat × ((Nat → Int32) × Int32 × Int32)) (Int32 × (Nat → Int32) × Int32 × Int32)) (hF : F_X10_preperiod fu seen dbef drec p1 p2 = some o) : vx_Met l yX10_preperiod w_X10_preperiod r_X10_preperiod (va_Pc [.ref (ad 0), .int p1, .int p2] (zP g (wRoot g ad st sv isS hst spare undo seen dbef drec ptx plen ppos pcnt cmds stE stF lch llen) sz)) (q_X10_preperiod g ad st sv isS hst spare undo seen dbef drec ptx plen ppos pcnt cmds stE stF lch llen o (va_A (wRoot g ad st sv isS hst spare undo seen dbef drec ptx plen ppos pcnt cmds stE stF lch llen) sz)) (x_X10_preperiod g ad st sv isS hst spare undo seen dbef drec ptx plen ppos pcnt cmds stE stF lch llen o (va_A (wRoot g ad st sv isS hst spare undo seen dbef drec ptx plen ppos pcnt cmds stE stF lch llen) sz)) 1 6 (va_A (wRoot g ad st sv isS hst spare undo seen dbef drec ptx plen ppos pcnt cmds stE stF lch llen) sz) := by
  refine vx_ofW (cc := cX10_preperiod) (maxL := 3) (ret := (some .int)) (by decide) rfl ?_
  intro p e s m args below meth c s₁ B hml hnx hv
  obtain ⟨rfl, rfl, hP, hK, hD0, hB⟩ := hv
  have hx := B.exec
  have hb := B.bytes
  have hr := B.returns
  have hts : ∀ w ∈ wU, w.before _ s = true := fun w h => atoms_spec (ws := w_X10_preperiod) B.pre w (List.mem_cons_of_mem _ h)
  have hown : s.vm.findClass RX10 = some m.cls := findClass_of_methodNamed B.named
  have hlocks := B.notSynchronized
  have hD := hD0.self (sz := s.heap.size)
  generalize hAe : va_A (wRoot g ad st sv isS hst spare undo seen dbef drec ptx plen ppos pcnt cmds stE stF lch llen) s.heap.size = A at hD hB ⊢
  have hA : ∀ q : Nat, s.heap.size ≤ q → A q := fun q h => by rw [← hAe]; exact Or.inr h
  have hS : va_S A s.heap s.heap [] := va_S.rf
  have hl := lv_entry ([.ref (ad 0), .int p1, .int p2]) (n := 3) (Nat.le_of_ble_eq_true rfl)
  rw [lg_entry_eq]
  generalize (lg_sl ([.ref (ad 0), .int p1, .int p2]) ++ List.replicate (3 - (lg_sl ([.ref (ad 0), .int p1, .int p2])).length) Slot.unset).toArray = ls at hl ⊢
  have hl : lv_has ls 3 [(0, .ref (ad 0)), (1, .int p1), (2, .int p2)] := hl
  unfold F_X10_preperiod at hF
  refine lv_iload_n hx hb dX10_preperiod_0 rfl (lv_at hl 1 rfl) ?_
  refine lv_iload_n hx hb dX10_preperiod_1 rfl (lv_at hl 2 rfl) ?_
  obtain ⟨zo1, hzo1, hF⟩ := z_bind hF
  refine z_callvX (fun (_ : Unit) => []) (fun (x : Nat × (Unit)) => []) (fun (x : Nat × (Unit)) => xN x.1) [] (vx_runS (As := [.int p1, .int p2]) (rest := []) ⟨hx, hb, hml, hown, hts⟩ (c_X10_requireQuotient l hl0 g _ p1 p2 _ hzo1) (va_cwS 2 hts (gdS mU_680 mU_681 mU_66 mU_682) rfl rfl rfl (by decide +kernel) ⟨Nat.le_of_ble_eq_true rfl, Nat.le_of_ble_eq_true rfl⟩) ⟨z_blind _ _ _ _, fun U hU hW => z_pre [] hP hD hK hB hS hA rfl rfl hU hW⟩ rfl rfl hl.1 rfl (lv_room (Nat.le_of_ble_eq_true rfl)) dX10_preperiod_2 ⟨Nat.le_of_ble_eq_true rfl, Nat.le_of_ble_eq_true rfl⟩) hP hD hS hA rfl (fun _ => rfl) (fun _ => rfl) (fun zw1 ce q9 H locs hw hP hD hS hq1 hq2 hq3 => ?_) (fun u H locs hw hP hD hS => ?_)
  · subst hw
    have hF : _ = some o := hF
    have hP : va_P (gD g) zCl (wRoot g ad st sv isS hst spare undo seen dbef drec ptx plen ppos pcnt cmds stE stF lch llen) H := hP
    have hD : va_D A (wRoot g ad st sv isS hst spare undo seen dbef drec ptx plen ppos pcnt cmds stE stF lch llen) := hD
    have hF := z_err hF
    have ho := (Option.some.inj hF).symm
    exact vx_out (fun x hx => (hnx x hx).elim) hlocks hq1 hq2 hq3 (fun t ht hvm => ⟨(zw1.1, (seen, dbef, drec)), ho, ⟨rfl, z_end ht hP⟩, hS.F ht⟩) hS.2.2 (Nat.le_of_ble_eq_true rfl) (Nat.le_of_ble_eq_true rfl)
  · obtain ⟨za1, rfl, rfl⟩ := hw
    have hF := z_okk hF
    have hP : va_P (gD g) zCl (wRoot g ad st sv isS hst spare undo seen dbef drec ptx plen ppos pcnt cmds stE stF lch llen) H := hP
    have hD : va_D A (wRoot g ad st sv isS hst spare undo seen dbef drec ptx plen ppos pcnt cmds stE stF lch llen) := hD
    refine lv_aload_n hx hb dX10_preperiod_5 rfl (lv_at hl 0 rfl) ?_
    refine va_get (D := gD g) (ci := 6) (v := .ref (ad 58)) (C := RX10) (T := TX10) (N := 9) hx hb hts inX10 hown hK hP 0 rfl rfl 4 (by decide) (hts _ mU_281) (fun _ h9 => h9) rfl dX10_preperiod_6 ?_
    refine lv_iload_n hx hb dX10_preperiod_9 rfl (lv_at hl 1 rfl) ?_
    refine lv_iload_n hx hb dX10_preperiod_10 rfl (lv_at hl 2 rfl) ?_
    obtain ⟨zo2, hzo2, hF⟩ := z_bind hF
    refine z_callv (fun (u : (Nat → Int32) × Int32 × Int32) => (wLD g (ad 58) (ad 59) u.1 u.2.1 u.2.2)) [58, 59] (va_runV (As := [.int p1, .int p2]) (rest := []) ⟨hx, hb, hml, hown, hts⟩ (c_X5_divide l g (ad 58) (ad 59) seen dbef drec _ p1 p2 fu _ hzo2) (cwV 2 hts (gdV mU_965 mU_966 mU_967 mU_69 mU_968) rfl rfl rfl (by decide +kernel) ⟨Nat.le_of_ble_eq_true rfl, Nat.le_of_ble_eq_true rfl⟩) ⟨z_blind _ _ _ _, va_recv hK hP (ci := 3) (q0 := 58) rfl rfl, fun U hU hW => z_pre [58, 59] hP hD hK hB hS hA rfl rfl hU hW⟩ rfl rfl hl.1 rfl (lv_room (Nat.le_of_ble_eq_true rfl)) dX10_preperiod_11 ⟨Nat.le_of_ble_eq_true rfl, Nat.le_of_ble_eq_true rfl⟩) hP hD hS hA rfl (fun _ => rfl) (fun u H locs hw hP hD hS => ?_)
    subst hw
    have hP : va_P (gD g) zCl (wRoot g ad st sv isS hst spare undo zo2.1 zo2.2.1 zo2.2.2 ptx plen ppos pcnt cmds stE stF lch llen) H := hP
    have hD : va_D A (wRoot g ad st sv isS hst spare undo zo2.1 zo2.2.1 zo2.2.2 ptx plen ppos pcnt cmds stE stF lch llen) := hD
    refine lv_aload_n hx hb dX10_preperiod_14 rfl (lv_at hl 0 rfl) ?_
    refine va_get (D := gD g) (ci := 6) (v := .ref (ad 58)) (C := RX10) (T := TX10) (N := 9) hx hb hts inX10 hown hK hP 0 rfl rfl 4 (by decide) (hts _ mU_281) (fun _ h9 => h9) rfl dX10_preperiod_15 ?_
    refine va_getN (D := gD g) (ci := 3) (v := .int zo2.2.1) (C := RX5) (T := TX5) (N := 3) hx hb hts inX5 hown hK hP 58 rfl rfl 1 (by decide) (va_Nw.use rfl (hB.2.1.1 _ zn_187)) (fun _ h9 => h9) rfl dX10_preperiod_18 ?_
    have ho := (Option.some.inj hF).symm
    refine vx_ret ?_
    exact W.iret (v := zo2.2.1) hx hb hr (fun t ht hW => ⟨⟨zo2.2.1, (zo2.1, zo2.2.1, zo2.2.2), rfl, ⟨_, ho, rfl, rfl⟩, z_end ht hP⟩, hS.F ht⟩) hS.2.2 dX10_preperiod_21
abbrev w_X10_period : List Cond := .code yX10_period cX10_period 3 (some .int) :: wU
abbrev r_X10_period : Room := { frames := 7, cells := 1, slots := 6, locals := 103 }
abbrev q_X10_period (g : GG) (ad : Nat → Nat) (st : SS) (sv : SS) (isS : Int32) (hst : Nat → SS) (spare : Int32) (undo : Int32) (seen : Nat → Int32) (dbef : Int32) (drec : Int32) (ptx : Nat → Int32) (plen : Int32) (ppos : Int32) (pcnt : Int32) (cmds : Nat → CC) (stE : Int32) (stF : Int32) (lch : Nat → Int32) (llen : Int32) (o : Except (Nat × ((Nat → Int32) × Int32 × Int32)) (Int32 × (Nat → Int32) × Int32 × Int32)) (A : Nat → Prop) := va_Qi (fun (r : Int32) (u : (Nat → Int32) × Int32 × Int32) => ∃ a : Int32 × (Nat → Int32) × Int32 × Int32, o = .ok a ∧ a.1 = r ∧ a.2 = u) (fun u t => va_P (gD g) zCl (wRoot g ad st sv isS hst spare undo u.1 u.2.1 u.2.2 ptx plen ppos pcnt cmds stE stF lch llen) t.heap) A
abbrev x_X10_period (g : GG) (ad : Nat → Nat) (st : SS) (sv : SS) (isS : Int32) (hst : Nat → SS) (spare : Int32) (undo : Int32) (seen : Nat → Int32) (dbef : Int32) (drec : Int32) (ptx : Nat → Int32) (plen : Int32) (ppos : Int32) (pcnt : Int32) (cmds : Nat → CC) (stE : Int32) (stF : Int32) (lch : Nat → Int32) (llen : Int32) (o : Except (Nat × ((Nat → Int32) × Int32 × Int32)) (Int32 × (Nat → Int32) × Int32 × Int32)) (A : Nat → Prop) := vx_X (fun (x : Nat × ((Nat → Int32) × Int32 × Int32)) => o = .error x) (fun E x t => E = xN x.1 ∧ va_P (gD g) zCl (wRoot g ad st sv isS hst spare undo x.2.1 x.2.2.1 x.2.2.2 ptx plen ppos pcnt cmds stE stF lch llen) t.heap) A
set_option maxHeartbeats 4000000 in
set_option maxRecDepth 100000 in
theorem c_X10_period (l : Launch) (hl0 : l.stackTraces = false) (g : GG) (ad : Nat → Nat) (st : SS) (sv : SS) (isS : Int32) (hst : Nat → SS) (spare : Int32) (undo : Int32) (seen : Nat → Int32) (dbef : Int32) (drec : Int32) (ptx : Nat → Int32) (plen : Int32) (ppos : Int32) (pcnt : Int32) (cmds : Nat → CC) (stE : Int32) (stF : Int32) (lch : Nat → Int32) (llen : Int32) (sz : Nat) (p1 : Int32) (p2 : Int32) (fu : Nat) (o : Except (Nat × ((Nat → Int32) × Int32 × Int32)) (Int32 × (Nat → Int32) × Int32 × Int32)) (hF : F_X10_period fu seen dbef drec p1 p2 = some o) : vx_Met l yX10_period w_X10_period r_X10_period (va_Pc [.ref (ad 0), .int p1, .int p2] (zP g (wRoot g ad st sv isS hst spare undo seen dbef drec ptx plen ppos pcnt cmds stE stF lch llen) sz)) (q_X10_period g ad st sv isS hst spare undo seen dbef drec ptx plen ppos pcnt cmds stE stF lch llen o (va_A (wRoot g ad st sv isS hst spare undo seen dbef drec ptx plen ppos pcnt cmds stE stF lch llen) sz)) (x_X10_period g ad st sv isS hst spare undo seen dbef drec ptx plen ppos pcnt cmds stE stF lch llen o (va_A (wRoot g ad st sv isS hst spare undo seen dbef drec ptx plen ppos pcnt cmds stE stF lch llen) sz)) 1 6 (va_A (wRoot g ad st sv isS hst spare undo seen dbef drec ptx plen ppos pcnt cmds stE stF lch llen) sz) := by
  refine vx_ofW (cc := cX10_period) (maxL := 3) (ret := (some .int)) (by decide) rfl ?_
  intro p e s m args below meth c s₁ B hml hnx hv
  obtain ⟨rfl, rfl, hP, hK, hD0, hB⟩ := hv
  have hx := B.exec
  have hb := B.bytes
  have hr := B.returns
  have hts : ∀ w ∈ wU, w.before _ s = true := fun w h => atoms_spec (ws := w_X10_period) B.pre w (List.mem_cons_of_mem _ h)
  have hown : s.vm.findClass RX10 = some m.cls := findClass_of_methodNamed B.named
  have hlocks := B.notSynchronized
  have hD := hD0.self (sz := s.heap.size)
  generalize hAe : va_A (wRoot g ad st sv isS hst spare undo seen dbef drec ptx plen ppos pcnt cmds stE stF lch llen) s.heap.size = A at hD hB ⊢
  have hA : ∀ q : Nat, s.heap.size ≤ q → A q := fun q h => by rw [← hAe]; exact Or.inr h
  have hS : va_S A s.heap s.heap [] := va_S.rf
  have hl := lv_entry ([.ref (ad 0), .int p1, .int p2]) (n := 3) (Nat.le_of_ble_eq_true rfl)
  rw [lg_entry_eq]
  generalize (lg_sl ([.ref (ad 0), .int p1, .int p2]) ++ List.replicate (3 - (lg_sl ([.ref (ad 0), .int p1, .int p2])).length) Slot.unset).toArray = ls at hl ⊢
  have hl : lv_has ls 3 [(0, .ref (ad 0)), (1, .int p1), (2, .int p2)] := hl
  unfold F_X10_period at hF
  refine lv_iload_n hx hb dX10_period_0 rfl (lv_at hl 1 rfl) ?_
  refine lv_iload_n hx hb dX10_period_1 rfl (lv_at hl 2 rfl) ?_
  obtain ⟨zo1, hzo1, hF⟩ := z_bind hF
  refine z_callvX (fun (_ : Unit) => []) (fun (x : Nat × (Unit)) => []) (fun (x : Nat × (Unit)) => xN x.1) [] (vx_runS (As := [.int p1, .int p2]) (rest := []) ⟨hx, hb, hml, hown, hts⟩ (c_X10_requireQuotient l hl0 g _ p1 p2 _ hzo1) (va_cwS 2 hts (gdS mU_680 mU_681 mU_66 mU_682) rfl rfl rfl (by decide +kernel) ⟨Nat.le_of_ble_eq_true rfl, Nat.le_of_ble_eq_true rfl⟩) ⟨z_blind _ _ _ _, fun U hU hW => z_pre [] hP hD hK hB hS hA rfl rfl hU hW⟩ rfl rfl hl.1 rfl (lv_room (Nat.le_of_ble_eq_true rfl)) dX10_period_2 ⟨Nat.le_of_ble_eq_true rfl, Nat.le_of_ble_eq_true rfl⟩) hP hD hS hA rfl (fun _ => rfl) (fun _ => rfl) (fun zw1 ce q9 H locs hw hP hD hS hq1 hq2 hq3 => ?_) (fun u H locs hw hP hD hS => ?_)
  · subst hw
    have hF : _ = some o := hF
    have hP : va_P (gD g) zCl (wRoot g ad st sv isS hst spare undo seen dbef drec ptx plen ppos pcnt cmds stE stF lch llen) H := hP
    have hD : va_D A (wRoot g ad st sv isS hst spare undo seen dbef drec ptx plen ppos pcnt cmds stE stF lch llen) := hD
    have hF := z_err hF
    have ho := (Option.some.inj hF).symm
    exact vx_out (fun x hx => (hnx x hx).elim) hlocks hq1 hq2 hq3 (fun t ht hvm => ⟨(zw1.1, (seen, dbef, drec)), ho, ⟨rfl, z_end ht hP⟩, hS.F ht⟩) hS.2.2 (Nat.le_of_ble_eq_true rfl) (Nat.le_of_ble_eq_true rfl)
  · obtain ⟨za1, rfl, rfl⟩ := hw
    have hF := z_okk hF
    have hP : va_P (gD g) zCl (wRoot g ad st sv isS hst spare undo seen dbef drec ptx plen ppos pcnt cmds stE stF lch llen) H := hP
    have hD : va_D A (wRoot g ad st sv isS hst spare undo seen dbef drec ptx plen ppos pcnt cmds stE stF lch llen) := hD
    refine lv_aload_n hx hb dX10_period_5 rfl (lv_at hl 0 rfl) ?_
    refine va_get (D := gD g) (ci := 6) (v := .ref (ad 58)) (C := RX10) (T := TX10) (N := 9) hx hb hts inX10 hown hK hP 0 rfl rfl 4 (by decide) (hts _ mU_281) (fun _ h9 => h9) rfl dX10_period_6 ?_
    refine lv_iload_n hx hb dX10_period_9 rfl (lv_at hl 1 rfl) ?_
    refine lv_iload_n hx hb dX10_period_10 rfl (lv_at hl 2 rfl) ?_
    obtain ⟨zo2, hzo2, hF⟩ := z_bind hF
    refine z_callv (fun (u : (Nat → Int32) × Int32 × Int32) => (wLD g (ad 58) (ad 59) u.1 u.2.1 u.2.2)) [58, 59] (va_runV (As := [.int p1, .int p2]) (rest := []) ⟨hx, hb, hml, hown, hts⟩ (c_X5_divide l g (ad 58) (ad 59) seen dbef drec _ p1 p2 fu _ hzo2) (cwV 2 hts (gdV mU_965 mU_966 mU_967 mU_69 mU_968) rfl rfl rfl (by decide +kernel) ⟨Nat.le_of_ble_eq_true rfl, Nat.le_of_ble_eq_true rfl⟩) ⟨z_blind _ _ _ _, va_recv hK hP (ci := 3) (q0 := 58) rfl rfl, fun U hU hW => z_pre [58, 59] hP hD hK hB hS hA rfl rfl hU hW⟩ rfl rfl hl.1 rfl (lv_room (Nat.le_of_ble_eq_true rfl)) dX10_period_11 ⟨Nat.le_of_ble_eq_true rfl, Nat.le_of_ble_eq_true rfl⟩) hP hD hS hA rfl (fun _ => rfl) (fun u H locs hw hP hD hS => ?_)
    subst hw
    have hP : va_P (gD g) zCl (wRoot g ad st sv isS hst spare undo zo2.1 zo2.2.1 zo2.2.2 ptx plen ppos pcnt cmds stE stF lch llen) H := hP
    have hD : va_D A (wRoot g ad st sv isS hst spare undo zo2.1 zo2.2.1 zo2.2.2 ptx plen ppos pcnt cmds stE stF lch llen) := hD
    refine lv_aload_n hx hb dX10_period_14 rfl (lv_at hl 0 rfl) ?_
    refine va_get (D := gD g) (ci := 6) (v := .ref (ad 58)) (C := RX10) (T := TX10) (N := 9) hx hb hts inX10 hown hK hP 0 rfl rfl 4 (by decide) (hts _ mU_281) (fun _ h9 => h9) rfl dX10_period_15 ?_
    refine va_getN (D := gD g) (ci := 3) (v := .int zo2.2.2) (C := RX5) (T := TX5) (N := 3) hx hb hts inX5 hown hK hP 58 rfl rfl 2 (by decide) (va_Nw.use rfl (hB.2.1.1 _ zn_189)) (fun _ h9 => h9) rfl dX10_period_18 ?_
    have ho := (Option.some.inj hF).symm
    refine vx_ret ?_
    exact W.iret (v := zo2.2.2) hx hb hr (fun t ht hW => ⟨⟨zo2.2.2, (zo2.1, zo2.2.1, zo2.2.2), rfl, ⟨_, ho, rfl, rfl⟩, z_end ht hP⟩, hS.F ht⟩) hS.2.2 dX10_period_21
abbrev w_X10_periodByPowers : List Cond := .code yX10_periodByPowers cX10_periodByPowers 3 (some .int) :: wU
abbrev r_X10_periodByPowers : Room := { frames := 7, cells := 1, slots := 6, locals := 103 }
abbrev q_X10_periodByPowers (g : GG) (ad : Nat → Nat) (st : SS) (sv : SS) (isS : Int32) (hst : Nat → SS) (spare : Int32) (undo : Int32) (seen : Nat → Int32) (dbef : Int32) (drec : Int32) (ptx : Nat → Int32) (plen : Int32) (ppos : Int32) (pcnt : Int32) (cmds : Nat → CC) (stE : Int32) (stF : Int32) (lch : Nat → Int32) (llen : Int32) (o : Except (Nat × (Unit)) (Int32)) (A : Nat → Prop) := va_Qi (fun (r : Int32) (u : Unit) => ∃ a : Int32, o = .ok a ∧ a = r) (fun u t => va_P (gD g) zCl (wRoot g ad st sv isS hst spare undo seen dbef drec ptx plen ppos pcnt cmds stE stF lch llen) t.heap) A
abbrev x_X10_periodByPowers (g : GG) (ad : Nat → Nat) (st : SS) (sv : SS) (isS : Int32) (hst : Nat → SS) (spare : Int32) (undo : Int32) (seen : Nat → Int32) (dbef : Int32) (drec : Int32) (ptx : Nat → Int32) (plen : Int32) (ppos : Int32) (pcnt : Int32) (cmds : Nat → CC) (stE : Int32) (stF : Int32) (lch : Nat → Int32) (llen : Int32) (o : Except (Nat × (Unit)) (Int32)) (A : Nat → Prop) := vx_X (fun (x : Nat × (Unit)) => o = .error x) (fun E x t => E = xN x.1 ∧ va_P (gD g) zCl (wRoot g ad st sv isS hst spare undo seen dbef drec ptx plen ppos pcnt cmds stE stF lch llen) t.heap) A
set_option maxHeartbeats 4000000 in
set_option maxRecDepth 100000 in
theorem c_X10_periodByPowers (l : Launch) (hl0 : l.stackTraces = false) (g : GG) (ad : Nat → Nat) (st : SS) (sv : SS) (isS : Int32) (hst : Nat → SS) (spare : Int32) (undo : Int32) (seen : Nat → Int32) (dbef : Int32) (drec : Int32) (ptx : Nat → Int32) (plen : Int32) (ppos : Int32) (pcnt : Int32) (cmds : Nat → CC) (stE : Int32) (stF : Int32) (lch : Nat → Int32) (llen : Int32) (sz : Nat) (p1 : Int32) (p2 : Int32) (fu : Nat) (o : Except (Nat × (Unit)) (Int32)) (hF : F_X10_periodByPowers fu p1 p2 = some o) : vx_Met l yX10_periodByPowers w_X10_periodByPowers r_X10_periodByPowers (va_Pc [.ref (ad 0), .int p1, .int p2] (zP g (wRoot g ad st sv isS hst spare undo seen dbef drec ptx plen ppos pcnt cmds stE stF lch llen) sz)) (q_X10_periodByPowers g ad st sv isS hst spare undo seen dbef drec ptx plen ppos pcnt cmds stE stF lch llen o (va_A (wRoot g ad st sv isS hst spare undo seen dbef drec ptx plen ppos pcnt cmds stE stF lch llen) sz)) (x_X10_periodByPowers g ad st sv isS hst spare undo seen dbef drec ptx plen ppos pcnt cmds stE stF lch llen o (va_A (wRoot g ad st sv isS hst spare undo seen dbef drec ptx plen ppos pcnt cmds stE stF lch llen) sz)) 1 6 (va_A (wRoot g ad st sv isS hst spare undo seen dbef drec ptx plen ppos pcnt cmds stE stF lch llen) sz) := by
  refine vx_ofW (cc := cX10_periodByPowers) (maxL := 3) (ret := (some .int)) (by decide) rfl ?_
  intro p e s m args below meth c s₁ B hml hnx hv
  obtain ⟨rfl, rfl, hP, hK, hD0, hB⟩ := hv
  have hx := B.exec
  have hb := B.bytes
  have hr := B.returns
  have hts : ∀ w ∈ wU, w.before _ s = true := fun w h => atoms_spec (ws := w_X10_periodByPowers) B.pre w (List.mem_cons_of_mem _ h)
  have hown : s.vm.findClass RX10 = some m.cls := findClass_of_methodNamed B.named
  have hlocks := B.notSynchronized
  have hD := hD0.self (sz := s.heap.size)
  generalize hAe : va_A (wRoot g ad st sv isS hst spare undo seen dbef drec ptx plen ppos pcnt cmds stE stF lch llen) s.heap.size = A at hD hB ⊢
  have hA : ∀ q : Nat, s.heap.size ≤ q → A q := fun q h => by rw [← hAe]; exact Or.inr h
  have hS : va_S A s.heap s.heap [] := va_S.rf
  have hl := lv_entry ([.ref (ad 0), .int p1, .int p2]) (n := 3) (Nat.le_of_ble_eq_true rfl)
  rw [lg_entry_eq]
  generalize (lg_sl ([.ref (ad 0), .int p1, .int p2]) ++ List.replicate (3 - (lg_sl ([.ref (ad 0), .int p1, .int p2])).length) Slot.unset).toArray = ls at hl ⊢
  have hl : lv_has ls 3 [(0, .ref (ad 0)), (1, .int p1), (2, .int p2)] := hl
  unfold F_X10_periodByPowers at hF
  refine lv_iload_n hx hb dX10_periodByPowers_0 rfl (lv_at hl 1 rfl) ?_
  refine lv_iload_n hx hb dX10_periodByPowers_1 rfl (lv_at hl 2 rfl) ?_
  obtain ⟨zo1, hzo1, hF⟩ := z_bind hF
  refine z_callvX (fun (_ : Unit) => []) (fun (x : Nat × (Unit)) => []) (fun (x : Nat × (Unit)) => xN x.1) [] (vx_runS (As := [.int p1, .int p2]) (rest := []) ⟨hx, hb, hml, hown, hts⟩ (c_X10_requireQuotient l hl0 g _ p1 p2 _ hzo1) (va_cwS 2 hts (gdS mU_680 mU_681 mU_66 mU_682) rfl rfl rfl (by decide +kernel) ⟨Nat.le_of_ble_eq_true rfl, Nat.le_of_ble_eq_true rfl⟩) ⟨z_blind _ _ _ _, fun U hU hW => z_pre [] hP hD hK hB hS hA rfl rfl hU hW⟩ rfl rfl hl.1 rfl (lv_room (Nat.le_of_ble_eq_true rfl)) dX10_periodByPowers_2 ⟨Nat.le_of_ble_eq_true rfl, Nat.le_of_ble_eq_true rfl⟩) hP hD hS hA rfl (fun _ => rfl) (fun _ => rfl) (fun zw1 ce q9 H locs hw hP hD hS hq1 hq2 hq3 => ?_) (fun u H locs hw hP hD hS => ?_)
  · subst hw
    have hF : _ = some o := hF
    have hP : va_P (gD g) zCl (wRoot g ad st sv isS hst spare undo seen dbef drec ptx plen ppos pcnt cmds stE stF lch llen) H := hP
    have hD : va_D A (wRoot g ad st sv isS hst spare undo seen dbef drec ptx plen ppos pcnt cmds stE stF lch llen) := hD
    have hF := z_err hF
    have ho := (Option.some.inj hF).symm
    exact vx_out (fun x hx => (hnx x hx).elim) hlocks hq1 hq2 hq3 (fun t ht hvm => ⟨(zw1.1, ()), ho, ⟨rfl, z_end ht hP⟩, hS.F ht⟩) hS.2.2 (Nat.le_of_ble_eq_true rfl) (Nat.le_of_ble_eq_true rfl)
  · obtain ⟨za1, rfl, rfl⟩ := hw
    have hF := z_okk hF
    have hP : va_P (gD g) zCl (wRoot g ad st sv isS hst spare undo seen dbef drec ptx plen ppos pcnt cmds stE stF lch llen) H := hP
    have hD : va_D A (wRoot g ad st sv isS hst spare undo seen dbef drec ptx plen ppos pcnt cmds stE stF lch llen) := hD
    refine lv_iload_n hx hb dX10_periodByPowers_5 rfl (lv_at hl 1 rfl) ?_
    refine lv_iload_n hx hb dX10_periodByPowers_6 rfl (lv_at hl 2 rfl) ?_
    obtain ⟨zo2, hzo2, hF⟩ := z_bind hF
    refine z_calli (fun (_ : Unit) => []) [] (va_runS (As := [.int p1, .int p2]) (rest := []) ⟨hx, hb, hml, hown, hts⟩ (c_X5_recurringFactor l g _ p1 p2 fu _ hzo2) (va_cwS 2 hts (gdS mU_986 mU_987 mU_69 mU_988) rfl rfl rfl (by decide +kernel) ⟨Nat.le_of_ble_eq_true rfl, Nat.le_of_ble_eq_true rfl⟩) ⟨z_blind _ _ _ _, fun U hU hW => z_pre [] hP hD hK hB hS hA rfl rfl hU hW⟩ rfl rfl hl.1 rfl (lv_room (Nat.le_of_ble_eq_true rfl)) dX10_periodByPowers_7 ⟨Nat.le_of_ble_eq_true rfl, Nat.le_of_ble_eq_true rfl⟩) hP hD hS hA rfl (fun _ => rfl) (fun r u H locs hw hP hD hS => ?_)
    subst hw
    have hP : va_P (gD g) zCl (wRoot g ad st sv isS hst spare undo seen dbef drec ptx plen ppos pcnt cmds stE stF lch llen) H := hP
    have hD : va_D A (wRoot g ad st sv isS hst spare undo seen dbef drec ptx plen ppos pcnt cmds stE stF lch llen) := hD
    obtain ⟨zo3, hzo3, hF⟩ := z_bind hF
    refine z_calli (fun (_ : Unit) => []) [] (va_runS (As := [.int zo2]) (rest := []) ⟨hx, hb, hml, hown, hts⟩ (c_X5_orderOfTen l g _ zo2 fu _ hzo3) (va_cwS 1 hts (gdS mU_995 mU_996 mU_69 mU_997) rfl rfl rfl (by decide +kernel) ⟨Nat.le_of_ble_eq_true rfl, Nat.le_of_ble_eq_true rfl⟩) ⟨z_blind _ _ _ _, fun U hU hW => z_pre [] hP hD hK hB hS hA rfl rfl hU hW⟩ rfl rfl hl.1 rfl (lv_room (Nat.le_of_ble_eq_true rfl)) dX10_periodByPowers_10 ⟨Nat.le_of_ble_eq_true rfl, Nat.le_of_ble_eq_true rfl⟩) hP hD hS hA rfl (fun _ => rfl) (fun r u H locs hw hP hD hS => ?_)
    subst hw
    have hP : va_P (gD g) zCl (wRoot g ad st sv isS hst spare undo seen dbef drec ptx plen ppos pcnt cmds stE stF lch llen) H := hP
    have hD : va_D A (wRoot g ad st sv isS hst spare undo seen dbef drec ptx plen ppos pcnt cmds stE stF lch llen) := hD
    have ho := (Option.some.inj hF).symm
    refine vx_ret ?_
    exact W.iret (v := zo3) hx hb hr (fun t ht hW => ⟨⟨zo3, (), rfl, ⟨_, ho, rfl⟩, z_end ht hP⟩, hS.F ht⟩) hS.2.2 dX10_periodByPowers_13
abbrev w_X10_total : List Cond := .code yX10_total cX10_total 1 (some .long) :: wU
abbrev r_X10_total : Room := { frames := 1, cells := 0, slots := 0, locals := 23 }
abbrev q_X10_total (g : GG) (ad : Nat → Nat) (st : SS) (sv : SS) (isS : Int32) (hst : Nat → SS) (spare : Int32) (undo : Int32) (seen : Nat → Int32) (dbef : Int32) (drec : Int32) (ptx : Nat → Int32) (plen : Int32) (ppos : Int32) (pcnt : Int32) (cmds : Nat → CC) (stE : Int32) (stF : Int32) (lch : Nat → Int32) (llen : Int32) (o : Int64) (A : Nat → Prop) := va_Ql (fun (r : Int64) (u : Unit) => o = r) (fun u t => va_P (gD g) zCl (wRoot g ad st sv isS hst spare undo seen dbef drec ptx plen ppos pcnt cmds stE stF lch llen) t.heap) A
set_option maxHeartbeats 4000000 in
set_option maxRecDepth 100000 in
theorem c_X10_total (l : Launch) (g : GG) (ad : Nat → Nat) (st : SS) (sv : SS) (isS : Int32) (hst : Nat → SS) (spare : Int32) (undo : Int32) (seen : Nat → Int32) (dbef : Int32) (drec : Int32) (ptx : Nat → Int32) (plen : Int32) (ppos : Int32) (pcnt : Int32) (cmds : Nat → CC) (stE : Int32) (stF : Int32) (lch : Nat → Int32) (llen : Int32) (sz : Nat) (fu : Nat) (o : Int64) (hF : F_X10_total fu st = some o) : Met l yX10_total w_X10_total r_X10_total (va_Pc [.ref (ad 0)] (zP g (wRoot g ad st sv isS hst spare undo seen dbef drec ptx plen ppos pcnt cmds stE stF lch llen) sz)) (q_X10_total g ad st sv isS hst spare undo seen dbef drec ptx plen ppos pcnt cmds stE stF lch llen o (va_A (wRoot g ad st sv isS hst spare undo seen dbef drec ptx plen ppos pcnt cmds stE stF lch llen) sz)) 0 0 (va_A (wRoot g ad st sv isS hst spare undo seen dbef drec ptx plen ppos pcnt cmds stE stF lch llen) sz) := by
  refine Met.ofW (cc := cX10_total) (maxL := 1) (ret := (some .long)) (by decide) rfl ?_
  intro p e s m args below meth c s₁ B hml hv
  obtain ⟨rfl, rfl, hP, hK, hD0, hB⟩ := hv
  have hx := B.exec
  have hb := B.bytes
  have hr := B.returns
  have hts : ∀ w ∈ wU, w.before _ s = true := fun w h => atoms_spec (ws := w_X10_total) B.pre w (List.mem_cons_of_mem _ h)
  have hown : s.vm.findClass RX10 = some m.cls := findClass_of_methodNamed B.named
  have hlocks := B.notSynchronized
  have hD := hD0.self (sz := s.heap.size)
  generalize hAe : va_A (wRoot g ad st sv isS hst spare undo seen dbef drec ptx plen ppos pcnt cmds stE stF lch llen) s.heap.size = A at hD hB ⊢
  have hA : ∀ q : Nat, s.heap.size ≤ q → A q := fun q h => by rw [← hAe]; exact Or.inr h
  have hS : va_S A s.heap s.heap [] := va_S.rf
  have hl := lv_entry ([.ref (ad 0)]) (n := 1) (Nat.le_of_ble_eq_true rfl)
  rw [lg_entry_eq]
  generalize (lg_sl ([.ref (ad 0)]) ++ List.replicate (1 - (lg_sl ([.ref (ad 0)])).length) Slot.unset).toArray = ls at hl ⊢
  have hl : lv_has ls 1 [(0, .ref (ad 0))] := hl
  unfold F_X10_total at hF
  refine lv_aload_n hx hb dX10_total_0 rfl (lv_at hl 0 rfl) ?_
  refine va_get (D := gD g) (ci := 6) (v := .ref (ad 1)) (C := RX10) (T := TX10) (N := 9) hx hb hts inX10 hown hK hP 0 rfl rfl 0 (by decide) (hts _ mU_277) (fun _ h9 => h9) rfl dX10_total_1 ?_
  obtain ⟨zo1, hzo1, hF⟩ := z_bind hF
  refine z_calll (fun (_ : Unit) => (wState g (ad 1) (ad 2) (ad 3) (ad 4) (ad 5) st)) [1, 2, 3, 4, 5] (va_runV (As := []) (rest := []) ⟨hx, hb, hml, hown, hts⟩ (c_X8_sumOfValues l g (ad 1) (ad 2) (ad 3) (ad 4) (ad 5) st _ fu _ hzo1) (cwV 0 hts (gdV mU_313 mU_314 mU_315 mU_67 mU_316) rfl rfl rfl (by decide +kernel) ⟨Nat.le_of_ble_eq_true rfl, Nat.le_of_ble_eq_true rfl⟩) ⟨z_blind _ _ _ _, va_recv hK hP (ci := 5) (q0 := 1) rfl rfl, fun U hU hW => z_pre [1, 2, 3, 4, 5] hP hD hK hB hS hA rfl rfl hU hW⟩ rfl rfl hl.1 rfl (lv_room (Nat.le_of_ble_eq_true rfl)) dX10_total_4 ⟨Nat.le_of_ble_eq_true rfl, Nat.le_of_ble_eq_true rfl⟩) hP hD hS hA rfl (fun _ => rfl) (fun r u H locs hw hP hD hS => ?_)
  subst hw
  have hP : va_P (gD g) zCl (wRoot g ad st sv isS hst spare undo seen dbef drec ptx plen ppos pcnt cmds stE stF lch llen) H := hP
  have hD : va_D A (wRoot g ad st sv isS hst spare undo seen dbef drec ptx plen ppos pcnt cmds stE stF lch llen) := hD
  have ho := (Option.some.inj hF).symm
  exact W.lret (v := zo1) hx hb hr (fun t ht hW => ⟨⟨zo1, (), rfl, ho, z_end ht hP⟩, hS.F ht⟩) hS.2.2 dX10_total_7
abbrev w_X10_totalByAccounts : List Cond := .code yX10_totalByAccounts cX10_totalByAccounts 1 (some .long) :: wU
abbrev r_X10_totalByAccounts : Room := { frames := 1, cells := 0, slots := 0, locals := 20 }
abbrev q_X10_totalByAccounts (g : GG) (ad : Nat → Nat) (st : SS) (sv : SS) (isS : Int32) (hst : Nat → SS) (spare : Int32) (undo : Int32) (seen : Nat → Int32) (dbef : Int32) (drec : Int32) (ptx : Nat → Int32) (plen : Int32) (ppos : Int32) (pcnt : Int32) (cmds : Nat → CC) (stE : Int32) (stF : Int32) (lch : Nat → Int32) (llen : Int32) (o : Int64) (A : Nat → Prop) := va_Ql (fun (r : Int64) (u : Unit) => o = r) (fun u t => va_P (gD g) zCl (wRoot g ad st sv isS hst spare undo seen dbef drec ptx plen ppos pcnt cmds stE stF lch llen) t.heap) A
set_option maxHeartbeats 4000000 in
set_option maxRecDepth 100000 in
theorem c_X10_totalByAccounts (l : Launch) (g : GG) (ad : Nat → Nat) (st : SS) (sv : SS) (isS : Int32) (hst : Nat → SS) (spare : Int32) (undo : Int32) (seen : Nat → Int32) (dbef : Int32) (drec : Int32) (ptx : Nat → Int32) (plen : Int32) (ppos : Int32) (pcnt : Int32) (cmds : Nat → CC) (stE : Int32) (stF : Int32) (lch : Nat → Int32) (llen : Int32) (sz : Nat) (o : Int64) (hF : F_X10_totalByAccounts st = some o) : Met l yX10_totalByAccounts w_X10_totalByAccounts r_X10_totalByAccounts (va_Pc [.ref (ad 0)] (zP g (wRoot g ad st sv isS hst spare undo seen dbef drec ptx plen ppos pcnt cmds stE stF lch llen) sz)) (q_X10_totalByAccounts g ad st sv isS hst spare undo seen dbef drec ptx plen ppos pcnt cmds stE stF lch llen o (va_A (wRoot g ad st sv isS hst spare undo seen dbef drec ptx plen ppos pcnt cmds stE stF lch llen) sz)) 0 0 (va_A (wRoot g ad st sv isS hst spare undo seen dbef drec ptx plen ppos pcnt cmds stE stF lch llen) sz) := by
  refine Met.ofW (cc := cX10_totalByAccounts) (maxL := 1) (ret := (some .long)) (by decide) rfl ?_
  intro p e s m args below meth c s₁ B hml hv
  obtain ⟨rfl, rfl, hP, hK, hD0, hB⟩ := hv
  have hx := B.exec
  have hb := B.bytes
  have hr := B.returns
  have hts : ∀ w ∈ wU, w.before _ s = true := fun w h => atoms_spec (ws := w_X10_totalByAccounts) B.pre w (List.mem_cons_of_mem _ h)
  have hown : s.vm.findClass RX10 = some m.cls := findClass_of_methodNamed B.named
  have hlocks := B.notSynchronized
  have hD := hD0.self (sz := s.heap.size)
  generalize hAe : va_A (wRoot g ad st sv isS hst spare undo seen dbef drec ptx plen ppos pcnt cmds stE stF lch llen) s.heap.size = A at hD hB ⊢
  have hA : ∀ q : Nat, s.heap.size ≤ q → A q := fun q h => by rw [← hAe]; exact Or.inr h
  have hS : va_S A s.heap s.heap [] := va_S.rf
  have hl := lv_entry ([.ref (ad 0)]) (n := 1) (Nat.le_of_ble_eq_true rfl)
  rw [lg_entry_eq]
  generalize (lg_sl ([.ref (ad 0)]) ++ List.replicate (1 - (lg_sl ([.ref (ad 0)])).length) Slot.unset).toArray = ls at hl ⊢
  have hl : lv_has ls 1 [(0, .ref (ad 0))] := hl
  unfold F_X10_totalByAccounts at hF
  refine lv_aload_n hx hb dX10_totalByAccounts_0 rfl (lv_at hl 0 rfl) ?_
  refine va_get (D := gD g) (ci := 6) (v := .ref (ad 1)) (C := RX10) (T := TX10) (N := 9) hx hb hts inX10 hown hK hP 0 rfl rfl 0 (by decide) (hts _ mU_277) (fun _ h9 => h9) rfl dX10_totalByAccounts_1 ?_
  obtain ⟨zo1, hzo1, hF⟩ := z_bind hF
  refine z_calll (fun (_ : Unit) => (wState g (ad 1) (ad 2) (ad 3) (ad 4) (ad 5) st)) [1, 2, 3, 4, 5] (va_runV (As := []) (rest := []) ⟨hx, hb, hml, hown, hts⟩ (c_X8_sumByAccounts l g (ad 1) (ad 2) (ad 3) (ad 4) (ad 5) st _ _ hzo1) (cwV 0 hts (gdV mU_321 mU_322 mU_323 mU_67 mU_324) rfl rfl rfl (by decide +kernel) ⟨Nat.le_of_ble_eq_true rfl, Nat.le_of_ble_eq_true rfl⟩) ⟨z_blind _ _ _ _, va_recv hK hP (ci := 5) (q0 := 1) rfl rfl, fun U hU hW => z_pre [1, 2, 3, 4, 5] hP hD hK hB hS hA rfl rfl hU hW⟩ rfl rfl hl.1 rfl (lv_room (Nat.le_of_ble_eq_true rfl)) dX10_totalByAccounts_4 ⟨Nat.le_of_ble_eq_true rfl, Nat.le_of_ble_eq_true rfl⟩) hP hD hS hA rfl (fun _ => rfl) (fun r u H locs hw hP hD hS => ?_)
  subst hw
  have hP : va_P (gD g) zCl (wRoot g ad st sv isS hst spare undo seen dbef drec ptx plen ppos pcnt cmds stE stF lch llen) H := hP
  have hD : va_D A (wRoot g ad st sv isS hst spare undo seen dbef drec ptx plen ppos pcnt cmds stE stF lch llen) := hD
  have ho := (Option.some.inj hF).symm
  exact W.lret (v := zo1) hx hb hr (fun t ht hW => ⟨⟨zo1, (), rfl, ho, z_end ht hP⟩, hS.F ht⟩) hS.2.2 dX10_totalByAccounts_7
abbrev w_X10_escapes : List Cond := .code yX10_escapes cX10_escapes 1 (some .int) :: wU
abbrev r_X10_escapes : Room := { frames := 0, cells := 0, slots := 0, locals := 0 }
abbrev q_X10_escapes (g : GG) (ad : Nat → Nat) (st : SS) (sv : SS) (isS : Int32) (hst : Nat → SS) (spare : Int32) (undo : Int32) (seen : Nat → Int32) (dbef : Int32) (drec : Int32) (ptx : Nat → Int32) (plen : Int32) (ppos : Int32) (pcnt : Int32) (cmds : Nat → CC) (stE : Int32) (stF : Int32) (lch : Nat → Int32) (llen : Int32) (o : Int32) (A : Nat → Prop) := va_Qi (fun (r : Int32) (u : Unit) => o = r) (fun u t => va_P (gD g) zCl (wRoot g ad st sv isS hst spare undo seen dbef drec ptx plen ppos pcnt cmds stE stF lch llen) t.heap) A
set_option maxHeartbeats 4000000 in
set_option maxRecDepth 100000 in
theorem c_X10_escapes (l : Launch) (g : GG) (ad : Nat → Nat) (st : SS) (sv : SS) (isS : Int32) (hst : Nat → SS) (spare : Int32) (undo : Int32) (seen : Nat → Int32) (dbef : Int32) (drec : Int32) (ptx : Nat → Int32) (plen : Int32) (ppos : Int32) (pcnt : Int32) (cmds : Nat → CC) (stE : Int32) (stF : Int32) (lch : Nat → Int32) (llen : Int32) (sz : Nat) (o : Int32) (hF : F_X10_escapes st = some o) : Met l yX10_escapes w_X10_escapes r_X10_escapes (va_Pc [.ref (ad 0)] (zP g (wRoot g ad st sv isS hst spare undo seen dbef drec ptx plen ppos pcnt cmds stE stF lch llen) sz)) (q_X10_escapes g ad st sv isS hst spare undo seen dbef drec ptx plen ppos pcnt cmds stE stF lch llen o (va_A (wRoot g ad st sv isS hst spare undo seen dbef drec ptx plen ppos pcnt cmds stE stF lch llen) sz)) 0 0 (va_A (wRoot g ad st sv isS hst spare undo seen dbef drec ptx plen ppos pcnt cmds stE stF lch llen) sz) := by
  refine Met.ofW (cc := cX10_escapes) (maxL := 1) (ret := (some .int)) (by decide) rfl ?_
  intro p e s m args below meth c s₁ B hml hv
  obtain ⟨rfl, rfl, hP, hK, hD0, hB⟩ := hv
  have hx := B.exec
  have hb := B.bytes
  have hr := B.returns
  have hts : ∀ w ∈ wU, w.before _ s = true := fun w h => atoms_spec (ws := w_X10_escapes) B.pre w (List.mem_cons_of_mem _ h)
  have hown : s.vm.findClass RX10 = some m.cls := findClass_of_methodNamed B.named
  have hlocks := B.notSynchronized
  have hD := hD0.self (sz := s.heap.size)
  generalize hAe : va_A (wRoot g ad st sv isS hst spare undo seen dbef drec ptx plen ppos pcnt cmds stE stF lch llen) s.heap.size = A at hD hB ⊢
  have hA : ∀ q : Nat, s.heap.size ≤ q → A q := fun q h => by rw [← hAe]; exact Or.inr h
  have hS : va_S A s.heap s.heap [] := va_S.rf
  have hl := lv_entry ([.ref (ad 0)]) (n := 1) (Nat.le_of_ble_eq_true rfl)
  rw [lg_entry_eq]
  generalize (lg_sl ([.ref (ad 0)]) ++ List.replicate (1 - (lg_sl ([.ref (ad 0)])).length) Slot.unset).toArray = ls at hl ⊢
  have hl : lv_has ls 1 [(0, .ref (ad 0))] := hl
  unfold F_X10_escapes at hF
  refine lv_aload_n hx hb dX10_escapes_0 rfl (lv_at hl 0 rfl) ?_
  refine va_get (D := gD g) (ci := 6) (v := .ref (ad 1)) (C := RX10) (T := TX10) (N := 9) hx hb hts inX10 hown hK hP 0 rfl rfl 0 (by decide) (hts _ mU_277) (fun _ h9 => h9) rfl dX10_escapes_1 ?_
  refine va_getN (D := gD g) (ci := 5) (v := .int (s_esc st)) (C := RX8) (T := TX8) (N := 11) hx hb hts inX8 hown hK hP 1 rfl rfl 6 (by decide) (va_Nw.use rfl (hB.2.1.1 _ zn_126)) (fun _ h9 => h9) rfl dX10_escapes_4 ?_
  have ho := (Option.some.inj hF).symm
  exact W.iret (v := (s_esc st)) hx hb hr (fun t ht hW => ⟨⟨(s_esc st), (), rfl, ho, z_end ht hP⟩, hS.F ht⟩) hS.2.2 dX10_escapes_7
abbrev w_X10_crumbs : List Cond := .code yX10_crumbs cX10_crumbs 1 (some .long) :: wU
abbrev r_X10_crumbs : Room := { frames := 0, cells := 0, slots := 0, locals := 0 }
abbrev q_X10_crumbs (g : GG) (ad : Nat → Nat) (st : SS) (sv : SS) (isS : Int32) (hst : Nat → SS) (spare : Int32) (undo : Int32) (seen : Nat → Int32) (dbef : Int32) (drec : Int32) (ptx : Nat → Int32) (plen : Int32) (ppos : Int32) (pcnt : Int32) (cmds : Nat → CC) (stE : Int32) (stF : Int32) (lch : Nat → Int32) (llen : Int32) (o : Int64) (A : Nat → Prop) := va_Ql (fun (r : Int64) (u : Unit) => o = r) (fun u t => va_P (gD g) zCl (wRoot g ad st sv isS hst spare undo seen dbef drec ptx plen ppos pcnt cmds stE stF lch llen) t.heap) A
set_option maxHeartbeats 4000000 in
set_option maxRecDepth 100000 in
theorem c_X10_crumbs (l : Launch) (g : GG) (ad : Nat → Nat) (st : SS) (sv : SS) (isS : Int32) (hst : Nat → SS) (spare : Int32) (undo : Int32) (seen : Nat → Int32) (dbef : Int32) (drec : Int32) (ptx : Nat → Int32) (plen : Int32) (ppos : Int32) (pcnt : Int32) (cmds : Nat → CC) (stE : Int32) (stF : Int32) (lch : Nat → Int32) (llen : Int32) (sz : Nat) (o : Int64) (hF : F_X10_crumbs st = some o) : Met l yX10_crumbs w_X10_crumbs r_X10_crumbs (va_Pc [.ref (ad 0)] (zP g (wRoot g ad st sv isS hst spare undo seen dbef drec ptx plen ppos pcnt cmds stE stF lch llen) sz)) (q_X10_crumbs g ad st sv isS hst spare undo seen dbef drec ptx plen ppos pcnt cmds stE stF lch llen o (va_A (wRoot g ad st sv isS hst spare undo seen dbef drec ptx plen ppos pcnt cmds stE stF lch llen) sz)) 0 0 (va_A (wRoot g ad st sv isS hst spare undo seen dbef drec ptx plen ppos pcnt cmds stE stF lch llen) sz) := by
  refine Met.ofW (cc := cX10_crumbs) (maxL := 1) (ret := (some .long)) (by decide) rfl ?_
  intro p e s m args below meth c s₁ B hml hv
  obtain ⟨rfl, rfl, hP, hK, hD0, hB⟩ := hv
  have hx := B.exec
  have hb := B.bytes
  have hr := B.returns
  have hts : ∀ w ∈ wU, w.before _ s = true := fun w h => atoms_spec (ws := w_X10_crumbs) B.pre w (List.mem_cons_of_mem _ h)
  have hown : s.vm.findClass RX10 = some m.cls := findClass_of_methodNamed B.named
  have hlocks := B.notSynchronized
  have hD := hD0.self (sz := s.heap.size)
  generalize hAe : va_A (wRoot g ad st sv isS hst spare undo seen dbef drec ptx plen ppos pcnt cmds stE stF lch llen) s.heap.size = A at hD hB ⊢
  have hA : ∀ q : Nat, s.heap.size ≤ q → A q := fun q h => by rw [← hAe]; exact Or.inr h
  have hS : va_S A s.heap s.heap [] := va_S.rf
  have hl := lv_entry ([.ref (ad 0)]) (n := 1) (Nat.le_of_ble_eq_true rfl)
  rw [lg_entry_eq]
  generalize (lg_sl ([.ref (ad 0)]) ++ List.replicate (1 - (lg_sl ([.ref (ad 0)])).length) Slot.unset).toArray = ls at hl ⊢
  have hl : lv_has ls 1 [(0, .ref (ad 0))] := hl
  unfold F_X10_crumbs at hF
  refine lv_aload_n hx hb dX10_crumbs_0 rfl (lv_at hl 0 rfl) ?_
  refine va_get (D := gD g) (ci := 6) (v := .ref (ad 1)) (C := RX10) (T := TX10) (N := 9) hx hb hts inX10 hown hK hP 0 rfl rfl 0 (by decide) (hts _ mU_277) (fun _ h9 => h9) rfl dX10_crumbs_1 ?_
  refine va_getN (D := gD g) (ci := 5) (v := .long (s_fal st)) (C := RX8) (T := TX8) (N := 11) hx hb hts inX8 hown hK hP 1 rfl rfl 7 (by decide) (va_Nw.use rfl (hB.2.1.1 _ zn_128)) (fun _ h9 => h9) rfl dX10_crumbs_4 ?_
  have ho := (Option.some.inj hF).symm
  exact W.lret (v := (s_fal st)) hx hb hr (fun t ht hW => ⟨⟨(s_fal st), (), rfl, ho, z_end ht hP⟩, hS.F ht⟩) hS.2.2 dX10_crumbs_7
