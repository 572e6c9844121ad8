abbrev w_X10_addNumber : List Cond := .code yX10_addNumber cX10_addNumber 6 (some .int) :: wU
abbrev r_X10_addNumber : Room := { frames := 8, cells := 5, slots := 30, locals := 152 }
abbrev q_X10_addNumber (g : GG) (ad : Nat → Nat) (st : SS) (sv : SS) (isS : Int32) (hst : Nat → SS) (spare : Int32) (undo : Int32) (seen : Nat → Int32) (dbef : Int32) (drec : Int32) (ptx : Nat → Int32) (plen : Int32) (ppos : Int32) (pcnt : Int32) (cmds : Nat → CC) (stE : Int32) (stF : Int32) (lch : Nat → Int32) (llen : Int32) (o : Except (Nat × (SS × (Nat → SS) × Int32 × Int32)) (Int32 × SS × (Nat → SS) × Int32 × Int32)) (A : Nat → Prop) := va_Qi (fun (r : Int32) (u : SS × (Nat → SS) × Int32 × Int32) => ∃ a : Int32 × SS × (Nat → SS) × Int32 × Int32, o = .ok a ∧ a.1 = r ∧ a.2 = u) (fun u t => va_P (gD g) zCl (wRoot g ad u.1 sv isS u.2.1 u.2.2.1 u.2.2.2 seen dbef drec ptx plen ppos pcnt cmds stE stF lch llen) t.heap) A
abbrev x_X10_addNumber (g : GG) (ad : Nat → Nat) (st : SS) (sv : SS) (isS : Int32) (hst : Nat → SS) (spare : Int32) (undo : Int32) (seen : Nat → Int32) (dbef : Int32) (drec : Int32) (ptx : Nat → Int32) (plen : Int32) (ppos : Int32) (pcnt : Int32) (cmds : Nat → CC) (stE : Int32) (stF : Int32) (lch : Nat → Int32) (llen : Int32) (o : Except (Nat × (SS × (Nat → SS) × Int32 × Int32)) (Int32 × SS × (Nat → SS) × Int32 × Int32)) (A : Nat → Prop) := vx_X (fun (x : Nat × (SS × (Nat → SS) × Int32 × Int32)) => o = .error x) (fun E x t => E = xN x.1 ∧ va_P (gD g) zCl (wRoot g ad x.2.1 sv isS x.2.2.1 x.2.2.2.1 x.2.2.2.2 seen dbef drec ptx plen ppos pcnt cmds stE stF lch llen) t.heap) A
set_option maxHeartbeats 4000000 in
set_option maxRecDepth 100000 in
theorem c_X10_addNumber (l : Launch) (hl0 : l.stackTraces = false) (g : GG) (ad : Nat → Nat) (st : SS) (sv : SS) (isS : Int32) (hst : Nat → SS) (spare : Int32) (undo : Int32) (seen : Nat → Int32) (dbef : Int32) (drec : Int32) (ptx : Nat → Int32) (plen : Int32) (ppos : Int32) (pcnt : Int32) (cmds : Nat → CC) (stE : Int32) (stF : Int32) (lch : Nat → Int32) (llen : Int32) (sz : Nat) (p1 : Int32) (p2 : Int32) (p3 : Int32) (p4 : Int32) (fu : Nat) (o : Except (Nat × (SS × (Nat → SS) × Int32 × Int32)) (Int32 × SS × (Nat → SS) × Int32 × Int32)) (hF : F_X10_addNumber fu st hst spare undo p1 p2 p3 p4 = some o) : vx_Met l yX10_addNumber w_X10_addNumber r_X10_addNumber (va_Pc [.ref (ad 0), .int p1, .int p2, .int p3, .int p4] (zP g (wRoot g ad st sv isS hst spare undo seen dbef drec ptx plen ppos pcnt cmds stE stF lch llen) sz)) (q_X10_addNumber g ad st sv isS hst spare undo seen dbef drec ptx plen ppos pcnt cmds stE stF lch llen o (va_A (wRoot g ad st sv isS hst spare undo seen dbef drec ptx plen ppos pcnt cmds stE stF lch llen) sz)) (x_X10_addNumber g ad st sv isS hst spare undo seen dbef drec ptx plen ppos pcnt cmds stE stF lch llen o (va_A (wRoot g ad st sv isS hst spare undo seen dbef drec ptx plen ppos pcnt cmds stE stF lch llen) sz)) 5 30 (va_A (wRoot g ad st sv isS hst spare undo seen dbef drec ptx plen ppos pcnt cmds stE stF lch llen) sz) := by
  refine vx_ofW (cc := cX10_addNumber) (maxL := 6) (ret := (some .int)) (by decide) rfl ?_
  intro p e s m args below meth c s₁ B hml hnx hv
  obtain ⟨rfl, rfl, hP, hK, hD0, hB⟩ := hv
  have hx := B.exec
  have hb := B.bytes
  have hr := B.returns
  have hts : ∀ w ∈ wU, w.before _ s = true := fun w h => atoms_spec (ws := w_X10_addNumber) B.pre w (List.mem_cons_of_mem _ h)
  have hown : s.vm.findClass RX10 = some m.cls := findClass_of_methodNamed B.named
  have hlocks := B.notSynchronized
  have hD := hD0.self (sz := s.heap.size)
  generalize hAe : va_A (wRoot g ad st sv isS hst spare undo seen dbef drec ptx plen ppos pcnt cmds stE stF lch llen) s.heap.size = A at hD hB ⊢
  have hA : ∀ q : Nat, s.heap.size ≤ q → A q := fun q h => by rw [← hAe]; exact Or.inr h
  have hS : va_S A s.heap s.heap [] := va_S.rf
  have hl := lv_entry ([.ref (ad 0), .int p1, .int p2, .int p3, .int p4]) (n := 6) (Nat.le_of_ble_eq_true rfl)
  rw [lg_entry_eq]
  generalize (lg_sl ([.ref (ad 0), .int p1, .int p2, .int p3, .int p4]) ++ List.replicate (6 - (lg_sl ([.ref (ad 0), .int p1, .int p2, .int p3, .int p4])).length) Slot.unset).toArray = ls at hl ⊢
  have hl : lv_has ls 6 [(0, .ref (ad 0)), (1, .int p1), (2, .int p2), (3, .int p3), (4, .int p4)] := hl
  unfold F_X10_addNumber at hF
  refine lv_aload_n hx hb dX10_addNumber_0 rfl (lv_at hl 0 rfl) ?_
  refine va_get (D := gD g) (ci := 6) (v := .ref (ad 11)) (C := RX10) (T := TX10) (N := 9) hx hb hts inX10 hown hK hP 0 rfl rfl 3 (by decide) (hts _ mU_280) (fun _ h9 => h9) rfl dX10_addNumber_1 ?_
  refine lv_aload_n hx hb dX10_addNumber_4 rfl (lv_at hl 0 rfl) ?_
  refine va_get (D := gD g) (ci := 6) (v := .ref (ad 1)) (C := RX10) (T := TX10) (N := 9) hx hb hts inX10 hown hK hP 0 rfl rfl 0 (by decide) (hts _ mU_277) (fun _ h9 => h9) rfl dX10_addNumber_5 ?_
  obtain ⟨zo1, hzo1, hF⟩ := z_bind hF
  refine z_callvE (fun (u : (Nat → SS)) => (wRoot g ad st sv isS u spare undo seen dbef drec ptx plen ppos pcnt cmds stE stF lch llen)) (va_runV (As := [.ref (ad 1)]) (rest := []) ⟨hx, hb, hml, hown, hts⟩ (c_X2_remember l g ad st sv isS hst spare undo seen dbef drec ptx plen ppos pcnt cmds stE stF lch llen _ _ hzo1) (cwV 1 hts (gdV mU_443 mU_444 mU_445 mU_68 mU_446) rfl rfl rfl (by decide +kernel) ⟨Nat.le_of_ble_eq_true rfl, Nat.le_of_ble_eq_true rfl⟩) ⟨z_blind _ _ _ _, va_recv hK hP (ci := 1) (q0 := 11) rfl rfl, fun U hU hW => z_preE hP hD hK hB hS hA hU hW⟩ rfl rfl hl.1 rfl (lv_room (Nat.le_of_ble_eq_true rfl)) dX10_addNumber_8 ⟨Nat.le_of_ble_eq_true rfl, Nat.le_of_ble_eq_true rfl⟩) hD hS hA (fun _ => rfl) (fun u H locs hw hP hD hS => ?_)
  subst hw
  have hP : va_P (gD g) zCl (wRoot g ad st sv isS zo1 spare undo seen dbef drec ptx plen ppos pcnt cmds stE stF lch llen) H := hP
  have hD : va_D A (wRoot g ad st sv isS zo1 spare undo seen dbef drec ptx plen ppos pcnt cmds stE stF lch llen) := hD
  refine lv_aload_n hx hb dX10_addNumber_11 rfl (lv_at hl 0 rfl) ?_
  refine lv_iload_n hx hb dX10_addNumber_12 rfl (lv_at hl 1 rfl) ?_
  refine lv_iload_n hx hb dX10_addNumber_13 rfl (lv_at hl 2 rfl) ?_
  refine lv_iload_n hx hb dX10_addNumber_14 rfl (lv_at hl 3 rfl) ?_
  refine lv_iload hx hb dX10_addNumber_15 (lv_at hl 4 rfl) ?_
  obtain ⟨zo2, hzo2, hF⟩ := z_bind hF
  refine z_calliXE (fun (u : SS) => (wRoot g ad u sv isS zo1 spare undo seen dbef drec ptx plen ppos pcnt cmds stE stF lch llen)) (fun (x : Nat × (SS)) => (wRoot g ad x.2 sv isS zo1 spare undo seen dbef drec ptx plen ppos pcnt cmds stE stF lch llen)) (fun (x : Nat × (SS)) => xN x.1) (vx_runV (As := [.int p1, .int p2, .int p3, .int p4]) (rest := []) ⟨hx, hb, hml, hown, hts⟩ (c_X10_enterNumber l hl0 g ad st sv isS zo1 spare undo seen dbef drec ptx plen ppos pcnt cmds stE stF lch llen _ p1 p2 p3 p4 fu _ hzo2) (cwV 4 hts (gdV mU_448 mU_450 mU_2 mU_66 mU_451) rfl rfl rfl (by decide +kernel) ⟨Nat.le_of_ble_eq_true rfl, Nat.le_of_ble_eq_true rfl⟩) ⟨z_blind _ _ _ _, va_recv hK hP (ci := 6) (q0 := 0) rfl rfl, fun U hU hW => z_preE hP hD hK hB hS hA hU hW⟩ rfl rfl hl.1 rfl (lv_room (Nat.le_of_ble_eq_true rfl)) dX10_addNumber_17 ⟨Nat.le_of_ble_eq_true rfl, Nat.le_of_ble_eq_true rfl⟩) hD hS hA (fun _ => rfl) (fun _ => rfl) (fun zw2 ce q9 H locs hw hP hD hS hq1 hq2 hq3 => ?_) (fun r u H locs hw hP hD hS => ?_)
  · subst hw
    have hF : _ = some o := hF
    have hP : va_P (gD g) zCl (wRoot g ad zw2.2 sv isS zo1 spare undo seen dbef drec ptx plen ppos pcnt cmds stE stF lch llen) H := hP
    have hD : va_D A (wRoot g ad zw2.2 sv isS zo1 spare undo seen dbef drec ptx plen ppos pcnt cmds stE stF lch llen) := hD
    have hF := z_err hF
    have ho := (Option.some.inj hF).symm
    exact vx_out (fun x hx => (hnx x hx).elim) hlocks hq1 hq2 hq3 (fun t ht hvm => ⟨(zw2.1, (zw2.2, zo1, spare, undo)), ho, ⟨rfl, z_end ht hP⟩, hS.F ht⟩) hS.2.2 (Nat.le_of_ble_eq_true rfl) (Nat.le_of_ble_eq_true rfl)
  · obtain ⟨za2, rfl, rfl, rfl⟩ := hw
    have hF := z_okk hF
    have hP : va_P (gD g) zCl (wRoot g ad za2.2 sv isS zo1 spare undo seen dbef drec ptx plen ppos pcnt cmds stE stF lch llen) H := hP
    have hD : va_D A (wRoot g ad za2.2 sv isS zo1 spare undo seen dbef drec ptx plen ppos pcnt cmds stE stF lch llen) := hD
    refine lv_istore (lv' := [(5, .int za2.1), (0, .ref (ad 0)), (1, .int p1), (2, .int p2), (3, .int p3), (4, .int p4)]) hx hb dX10_addNumber_20 hl (by decide) rfl (fun ls hl => ?_)
    refine lv_aload_n hx hb dX10_addNumber_22 rfl (lv_at hl 1 rfl) ?_
    refine va_get (D := gD g) (ci := 6) (v := .ref (ad 11)) (C := RX10) (T := TX10) (N := 9) hx hb hts inX10 hown hK hP 0 rfl rfl 3 (by decide) (hts _ mU_280) (fun _ h9 => h9) rfl dX10_addNumber_23 ?_
    obtain ⟨zo3, hzo3, hF⟩ := z_bind hF
    refine z_callvE (fun (u : Int32 × Int32) => (wRoot g ad za2.2 sv isS zo1 u.1 u.2 seen dbef drec ptx plen ppos pcnt cmds stE stF lch llen)) (va_runV (As := []) (rest := []) ⟨hx, hb, hml, hown, hts⟩ (c_X2_keep l g ad za2.2 sv isS zo1 spare undo seen dbef drec ptx plen ppos pcnt cmds stE stF lch llen _ _ hzo3) (cwV 0 hts (gdV mU_664 mU_665 mU_666 mU_68 mU_667) rfl rfl rfl (by decide +kernel) ⟨Nat.le_of_ble_eq_true rfl, Nat.le_of_ble_eq_true rfl⟩) ⟨z_blind _ _ _ _, va_recv hK hP (ci := 1) (q0 := 11) rfl rfl, fun U hU hW => z_preE hP hD hK hB hS hA hU hW⟩ rfl rfl hl.1 rfl (lv_room (Nat.le_of_ble_eq_true rfl)) dX10_addNumber_26 ⟨Nat.le_of_ble_eq_true rfl, Nat.le_of_ble_eq_true rfl⟩) hD hS hA (fun _ => rfl) (fun u H locs hw hP hD hS => ?_)
    subst hw
    have hP : va_P (gD g) zCl (wRoot g ad za2.2 sv isS zo1 zo3.1 zo3.2 seen dbef drec ptx plen ppos pcnt cmds stE stF lch llen) H := hP
    have hD : va_D A (wRoot g ad za2.2 sv isS zo1 zo3.1 zo3.2 seen dbef drec ptx plen ppos pcnt cmds stE stF lch llen) := hD
    refine lv_iload hx hb dX10_addNumber_29 (lv_at hl 0 rfl) ?_
    have ho := (Option.some.inj hF).symm
    refine vx_ret ?_
    exact W.iret (v := za2.1) hx hb hr (fun t ht hW => ⟨⟨za2.1, (za2.2, zo1, zo3.1, zo3.2), rfl, ⟨_, ho, rfl, rfl⟩, z_end ht hP⟩, hS.F ht⟩) hS.2.2 dX10_addNumber_31
abbrev w_X10_addQuotient : List Cond := .code yX10_addQuotient cX10_addQuotient 6 (some .int) :: wU
abbrev r_X10_addQuotient : Room := { frames := 8, cells := 4, slots := 24, locals := 150 }
abbrev q_X10_addQuotient (g : GG) (ad : Nat → Nat) (st : SS) (sv : SS) (isS : Int32) (hst : Nat → SS) (spare : Int32) (undo : Int32) (seen : Nat → Int32) (dbef : Int32) (drec : Int32) (ptx : Nat → Int32) (plen : Int32) (ppos : Int32) (pcnt : Int32) (cmds : Nat → CC) (stE : Int32) (stF : Int32) (lch : Nat → Int32) (llen : Int32) (o : Except (Nat × (SS × (Nat → SS) × Int32 × Int32)) (Int32 × SS × (Nat → SS) × Int32 × Int32)) (A : Nat → Prop) := va_Qi (fun (r : Int32) (u : SS × (Nat → SS) × Int32 × Int32) => ∃ a : Int32 × SS × (Nat → SS) × Int32 × Int32, o = .ok a ∧ a.1 = r ∧ a.2 = u) (fun u t => va_P (gD g) zCl (wRoot g ad u.1 sv isS u.2.1 u.2.2.1 u.2.2.2 seen dbef drec ptx plen ppos pcnt cmds stE stF lch llen) t.heap) A
abbrev x_X10_addQuotient (g : GG) (ad : Nat → Nat) (st : SS) (sv : SS) (isS : Int32) (hst : Nat → SS) (spare : Int32) (undo : Int32) (seen : Nat → Int32) (dbef : Int32) (drec : Int32) (ptx : Nat → Int32) (plen : Int32) (ppos : Int32) (pcnt : Int32) (cmds : Nat → CC) (stE : Int32) (stF : Int32) (lch : Nat → Int32) (llen : Int32) (o : Except (Nat × (SS × (Nat → SS) × Int32 × Int32)) (Int32 × SS × (Nat → SS) × Int32 × Int32)) (A : Nat → Prop) := vx_X (fun (x : Nat × (SS × (Nat → SS) × Int32 × Int32)) => o = .error x) (fun E x t => E = xN x.1 ∧ va_P (gD g) zCl (wRoot g ad x.2.1 sv isS x.2.2.1 x.2.2.2.1 x.2.2.2.2 seen dbef drec ptx plen ppos pcnt cmds stE stF lch llen) t.heap) A
set_option maxHeartbeats 4000000 in
set_option maxRecDepth 100000 in
theorem c_X10_addQuotient (l : Launch) (hl0 : l.stackTraces = false) (g : GG) (ad : Nat → Nat) (st : SS) (sv : SS) (isS : Int32) (hst : Nat → SS) (spare : Int32) (undo : Int32) (seen : Nat → Int32) (dbef : Int32) (drec : Int32) (ptx : Nat → Int32) (plen : Int32) (ppos : Int32) (pcnt : Int32) (cmds : Nat → CC) (stE : Int32) (stF : Int32) (lch : Nat → Int32) (llen : Int32) (sz : Nat) (p1 : Int32) (p2 : Int32) (p3 : Int32) (p4 : Int32) (fu : Nat) (o : Except (Nat × (SS × (Nat → SS) × Int32 × Int32)) (Int32 × SS × (Nat → SS) × Int32 × Int32)) (hF : F_X10_addQuotient fu st hst spare undo p1 p2 p3 p4 = some o) : vx_Met l yX10_addQuotient w_X10_addQuotient r_X10_addQuotient (va_Pc [.ref (ad 0), .int p1, .int p2, .int p3, .int p4] (zP g (wRoot g ad st sv isS hst spare undo seen dbef drec ptx plen ppos pcnt cmds stE stF lch llen) sz)) (q_X10_addQuotient g ad st sv isS hst spare undo seen dbef drec ptx plen ppos pcnt cmds stE stF lch llen o (va_A (wRoot g ad st sv isS hst spare undo seen dbef drec ptx plen ppos pcnt cmds stE stF lch llen) sz)) (x_X10_addQuotient g ad st sv isS hst spare undo seen dbef drec ptx plen ppos pcnt cmds stE stF lch llen o (va_A (wRoot g ad st sv isS hst spare undo seen dbef drec ptx plen ppos pcnt cmds stE stF lch llen) sz)) 4 24 (va_A (wRoot g ad st sv isS hst spare undo seen dbef drec ptx plen ppos pcnt cmds stE stF lch llen) sz) := by
  refine vx_ofW (cc := cX10_addQuotient) (maxL := 6) (ret := (some .int)) (by decide) rfl ?_
  intro p e s m args below meth c s₁ B hml hnx hv
  obtain ⟨rfl, rfl, hP, hK, hD0, hB⟩ := hv
  have hx := B.exec
  have hb := B.bytes
  have hr := B.returns
  have hts : ∀ w ∈ wU, w.before _ s = true := fun w h => atoms_spec (ws := w_X10_addQuotient) B.pre w (List.mem_cons_of_mem _ h)
  have hown : s.vm.findClass RX10 = some m.cls := findClass_of_methodNamed B.named
  have hlocks := B.notSynchronized
  have hD := hD0.self (sz := s.heap.size)
  generalize hAe : va_A (wRoot g ad st sv isS hst spare undo seen dbef drec ptx plen ppos pcnt cmds stE stF lch llen) s.heap.size = A at hD hB ⊢
  have hA : ∀ q : Nat, s.heap.size ≤ q → A q := fun q h => by rw [← hAe]; exact Or.inr h
  have hS : va_S A s.heap s.heap [] := va_S.rf
  have hl := lv_entry ([.ref (ad 0), .int p1, .int p2, .int p3, .int p4]) (n := 6) (Nat.le_of_ble_eq_true rfl)
  rw [lg_entry_eq]
  generalize (lg_sl ([.ref (ad 0), .int p1, .int p2, .int p3, .int p4]) ++ List.replicate (6 - (lg_sl ([.ref (ad 0), .int p1, .int p2, .int p3, .int p4])).length) Slot.unset).toArray = ls at hl ⊢
  have hl : lv_has ls 6 [(0, .ref (ad 0)), (1, .int p1), (2, .int p2), (3, .int p3), (4, .int p4)] := hl
  unfold F_X10_addQuotient at hF
  refine lv_aload_n hx hb dX10_addQuotient_0 rfl (lv_at hl 0 rfl) ?_
  refine va_get (D := gD g) (ci := 6) (v := .ref (ad 11)) (C := RX10) (T := TX10) (N := 9) hx hb hts inX10 hown hK hP 0 rfl rfl 3 (by decide) (hts _ mU_280) (fun _ h9 => h9) rfl dX10_addQuotient_1 ?_
  refine lv_aload_n hx hb dX10_addQuotient_4 rfl (lv_at hl 0 rfl) ?_
  refine va_get (D := gD g) (ci := 6) (v := .ref (ad 1)) (C := RX10) (T := TX10) (N := 9) hx hb hts inX10 hown hK hP 0 rfl rfl 0 (by decide) (hts _ mU_277) (fun _ h9 => h9) rfl dX10_addQuotient_5 ?_
  obtain ⟨zo1, hzo1, hF⟩ := z_bind hF
  refine z_callvE (fun (u : (Nat → SS)) => (wRoot g ad st sv isS u spare undo seen dbef drec ptx plen ppos pcnt cmds stE stF lch llen)) (va_runV (As := [.ref (ad 1)]) (rest := []) ⟨hx, hb, hml, hown, hts⟩ (c_X2_remember l g ad st sv isS hst spare undo seen dbef drec ptx plen ppos pcnt cmds stE stF lch llen _ _ hzo1) (cwV 1 hts (gdV mU_443 mU_444 mU_445 mU_68 mU_446) rfl rfl rfl (by decide +kernel) ⟨Nat.le_of_ble_eq_true rfl, Nat.le_of_ble_eq_true rfl⟩) ⟨z_blind _ _ _ _, va_recv hK hP (ci := 1) (q0 := 11) rfl rfl, fun U hU hW => z_preE hP hD hK hB hS hA hU hW⟩ rfl rfl hl.1 rfl (lv_room (Nat.le_of_ble_eq_true rfl)) dX10_addQuotient_8 ⟨Nat.le_of_ble_eq_true rfl, Nat.le_of_ble_eq_true rfl⟩) hD hS hA (fun _ => rfl) (fun u H locs hw hP hD hS => ?_)
  subst hw
  have hP : va_P (gD g) zCl (wRoot g ad st sv isS zo1 spare undo seen dbef drec ptx plen ppos pcnt cmds stE stF lch llen) H := hP
  have hD : va_D A (wRoot g ad st sv isS zo1 spare undo seen dbef drec ptx plen ppos pcnt cmds stE stF lch llen) := hD
  refine lv_aload_n hx hb dX10_addQuotient_11 rfl (lv_at hl 0 rfl) ?_
  refine lv_iload_n hx hb dX10_addQuotient_12 rfl (lv_at hl 1 rfl) ?_
  refine lv_iload_n hx hb dX10_addQuotient_13 rfl (lv_at hl 2 rfl) ?_
  refine lv_iload_n hx hb dX10_addQuotient_14 rfl (lv_at hl 3 rfl) ?_
  refine lv_iload hx hb dX10_addQuotient_15 (lv_at hl 4 rfl) ?_
  obtain ⟨zo2, hzo2, hF⟩ := z_bind hF
  refine z_calliXE (fun (u : SS) => (wRoot g ad u sv isS zo1 spare undo seen dbef drec ptx plen ppos pcnt cmds stE stF lch llen)) (fun (x : Nat × (SS)) => (wRoot g ad x.2 sv isS zo1 spare undo seen dbef drec ptx plen ppos pcnt cmds stE stF lch llen)) (fun (x : Nat × (SS)) => xN x.1) (vx_runV (As := [.int p1, .int p2, .int p3, .int p4]) (rest := []) ⟨hx, hb, hml, hown, hts⟩ (c_X10_enterQuotient l hl0 g ad st sv isS zo1 spare undo seen dbef drec ptx plen ppos pcnt cmds stE stF lch llen _ p1 p2 p3 p4 fu _ hzo2) (cwV 4 hts (gdV mU_676 mU_678 mU_5 mU_66 mU_679) rfl rfl rfl (by decide +kernel) ⟨Nat.le_of_ble_eq_true rfl, Nat.le_of_ble_eq_true rfl⟩) ⟨z_blind _ _ _ _, va_recv hK hP (ci := 6) (q0 := 0) rfl rfl, fun U hU hW => z_preE hP hD hK hB hS hA hU hW⟩ rfl rfl hl.1 rfl (lv_room (Nat.le_of_ble_eq_true rfl)) dX10_addQuotient_17 ⟨Nat.le_of_ble_eq_true rfl, Nat.le_of_ble_eq_true rfl⟩) hD hS hA (fun _ => rfl) (fun _ => rfl) (fun zw2 ce q9 H locs hw hP hD hS hq1 hq2 hq3 => ?_) (fun r u H locs hw hP hD hS => ?_)
  · subst hw
    have hF : _ = some o := hF
    have hP : va_P (gD g) zCl (wRoot g ad zw2.2 sv isS zo1 spare undo seen dbef drec ptx plen ppos pcnt cmds stE stF lch llen) H := hP
    have hD : va_D A (wRoot g ad zw2.2 sv isS zo1 spare undo seen dbef drec ptx plen ppos pcnt cmds stE stF lch llen) := hD
    have hF := z_err hF
    have ho := (Option.some.inj hF).symm
    exact vx_out (fun x hx => (hnx x hx).elim) hlocks hq1 hq2 hq3 (fun t ht hvm => ⟨(zw2.1, (zw2.2, zo1, spare, undo)), ho, ⟨rfl, z_end ht hP⟩, hS.F ht⟩) hS.2.2 (Nat.le_of_ble_eq_true rfl) (Nat.le_of_ble_eq_true rfl)
  · obtain ⟨za2, rfl, rfl, rfl⟩ := hw
    have hF := z_okk hF
    have hP : va_P (gD g) zCl (wRoot g ad za2.2 sv isS zo1 spare undo seen dbef drec ptx plen ppos pcnt cmds stE stF lch llen) H := hP
    have hD : va_D A (wRoot g ad za2.2 sv isS zo1 spare undo seen dbef drec ptx plen ppos pcnt cmds stE stF lch llen) := hD
    refine lv_istore (lv' := [(5, .int za2.1), (0, .ref (ad 0)), (1, .int p1), (2, .int p2), (3, .int p3), (4, .int p4)]) hx hb dX10_addQuotient_20 hl (by decide) rfl (fun ls hl => ?_)
    refine lv_aload_n hx hb dX10_addQuotient_22 rfl (lv_at hl 1 rfl) ?_
    refine va_get (D := gD g) (ci := 6) (v := .ref (ad 11)) (C := RX10) (T := TX10) (N := 9) hx hb hts inX10 hown hK hP 0 rfl rfl 3 (by decide) (hts _ mU_280) (fun _ h9 => h9) rfl dX10_addQuotient_23 ?_
    obtain ⟨zo3, hzo3, hF⟩ := z_bind hF
    refine z_callvE (fun (u : Int32 × Int32) => (wRoot g ad za2.2 sv isS zo1 u.1 u.2 seen dbef drec ptx plen ppos pcnt cmds stE stF lch llen)) (va_runV (As := []) (rest := []) ⟨hx, hb, hml, hown, hts⟩ (c_X2_keep l g ad za2.2 sv isS zo1 spare undo seen dbef drec ptx plen ppos pcnt cmds stE stF lch llen _ _ hzo3) (cwV 0 hts (gdV mU_664 mU_665 mU_666 mU_68 mU_667) rfl rfl rfl (by decide +kernel) ⟨Nat.le_of_ble_eq_true rfl, Nat.le_of_ble_eq_true rfl⟩) ⟨z_blind _ _ _ _, va_recv hK hP (ci := 1) (q0 := 11) rfl rfl, fun U hU hW => z_preE hP hD hK hB hS hA hU hW⟩ rfl rfl hl.1 rfl (lv_room (Nat.le_of_ble_eq_true rfl)) dX10_addQuotient_26 ⟨Nat.le_of_ble_eq_true rfl, Nat.le_of_ble_eq_true rfl⟩) hD hS hA (fun _ => rfl) (fun u H locs hw hP hD hS => ?_)
    subst hw
    have hP : va_P (gD g) zCl (wRoot g ad za2.2 sv isS zo1 zo3.1 zo3.2 seen dbef drec ptx plen ppos pcnt cmds stE stF lch llen) H := hP
    have hD : va_D A (wRoot g ad za2.2 sv isS zo1 zo3.1 zo3.2 seen dbef drec ptx plen ppos pcnt cmds stE stF lch llen) := hD
    refine lv_iload hx hb dX10_addQuotient_29 (lv_at hl 0 rfl) ?_
    have ho := (Option.some.inj hF).symm
    refine vx_ret ?_
    exact W.iret (v := za2.1) hx hb hr (fun t ht hW => ⟨⟨za2.1, (za2.2, zo1, zo3.1, zo3.2), rfl, ⟨_, ho, rfl, rfl⟩, z_end ht hP⟩, hS.F ht⟩) hS.2.2 dX10_addQuotient_31
abbrev w_X10_remove : List Cond := .code yX10_remove cX10_remove 4 (some .long) :: wU
abbrev r_X10_remove : Room := { frames := 8, cells := 1, slots := 6, locals := 125 }
abbrev q_X10_remove (g : GG) (ad : Nat → Nat) (st : SS) (sv : SS) (isS : Int32) (hst : Nat → SS) (spare : Int32) (undo : Int32) (seen : Nat → Int32) (dbef : Int32) (drec : Int32) (ptx : Nat → Int32) (plen : Int32) (ppos : Int32) (pcnt : Int32) (cmds : Nat → CC) (stE : Int32) (stF : Int32) (lch : Nat → Int32) (llen : Int32) (o : Except (Nat × (SS × (Nat → SS) × Int32 × Int32)) (Int64 × SS × (Nat → SS) × Int32 × Int32)) (A : Nat → Prop) := va_Ql (fun (r : Int64) (u : SS × (Nat → SS) × Int32 × Int32) => ∃ a : Int64 × SS × (Nat → SS) × Int32 × Int32, o = .ok a ∧ a.1 = r ∧ a.2 = u) (fun u t => va_P (gD g) zCl (wRoot g ad u.1 sv isS u.2.1 u.2.2.1 u.2.2.2 seen dbef drec ptx plen ppos pcnt cmds stE stF lch llen) t.heap) A
abbrev x_X10_remove (g : GG) (ad : Nat → Nat) (st : SS) (sv : SS) (isS : Int32) (hst : Nat → SS) (spare : Int32) (undo : Int32) (seen : Nat → Int32) (dbef : Int32) (drec : Int32) (ptx : Nat → Int32) (plen : Int32) (ppos : Int32) (pcnt : Int32) (cmds : Nat → CC) (stE : Int32) (stF : Int32) (lch : Nat → Int32) (llen : Int32) (o : Except (Nat × (SS × (Nat → SS) × Int32 × Int32)) (Int64 × SS × (Nat → SS) × Int32 × Int32)) (A : Nat → Prop) := vx_X (fun (x : Nat × (SS × (Nat → SS) × Int32 × Int32)) => o = .error x) (fun E x t => E = xN x.1 ∧ va_P (gD g) zCl (wRoot g ad x.2.1 sv isS x.2.2.1 x.2.2.2.1 x.2.2.2.2 seen dbef drec ptx plen ppos pcnt cmds stE stF lch llen) t.heap) A
set_option maxHeartbeats 4000000 in
set_option maxRecDepth 100000 in
theorem c_X10_remove (l : Launch) (hl0 : l.stackTraces = false) (g : GG) (ad : Nat → Nat) (st : SS) (sv : SS) (isS : Int32) (hst : Nat → SS) (spare : Int32) (undo : Int32) (seen : Nat → Int32) (dbef : Int32) (drec : Int32) (ptx : Nat → Int32) (plen : Int32) (ppos : Int32) (pcnt : Int32) (cmds : Nat → CC) (stE : Int32) (stF : Int32) (lch : Nat → Int32) (llen : Int32) (sz : Nat) (p1 : Int32) (fu : Nat) (o : Except (Nat × (SS × (Nat → SS) × Int32 × Int32)) (Int64 × SS × (Nat → SS) × Int32 × Int32)) (hF : F_X10_remove fu st hst spare undo p1 = some o) : vx_Met l yX10_remove w_X10_remove r_X10_remove (va_Pc [.ref (ad 0), .int p1] (zP g (wRoot g ad st sv isS hst spare undo seen dbef drec ptx plen ppos pcnt cmds stE stF lch llen) sz)) (q_X10_remove g ad st sv isS hst spare undo seen dbef drec ptx plen ppos pcnt cmds stE stF lch llen o (va_A (wRoot g ad st sv isS hst spare undo seen dbef drec ptx plen ppos pcnt cmds stE stF lch llen) sz)) (x_X10_remove g ad st sv isS hst spare undo seen dbef drec ptx plen ppos pcnt cmds stE stF lch llen o (va_A (wRoot g ad st sv isS hst spare undo seen dbef drec ptx plen ppos pcnt cmds stE stF lch llen) sz)) 1 6 (va_A (wRoot g ad st sv isS hst spare undo seen dbef drec ptx plen ppos pcnt cmds stE stF lch llen) sz) := by
  refine vx_ofW (cc := cX10_remove) (maxL := 4) (ret := (some .long)) (by decide) rfl ?_
  intro p e s m args below meth c s₁ B hml hnx hv
  obtain ⟨rfl, rfl, hP, hK, hD0, hB⟩ := hv
  have hx := B.exec
  have hb := B.bytes
  have hr := B.returns
  have hts : ∀ w ∈ wU, w.before _ s = true := fun w h => atoms_spec (ws := w_X10_remove) B.pre w (List.mem_cons_of_mem _ h)
  have hown : s.vm.findClass RX10 = some m.cls := findClass_of_methodNamed B.named
  have hlocks := B.notSynchronized
  have hD := hD0.self (sz := s.heap.size)
  generalize hAe : va_A (wRoot g ad st sv isS hst spare undo seen dbef drec ptx plen ppos pcnt cmds stE stF lch llen) s.heap.size = A at hD hB ⊢
  have hA : ∀ q : Nat, s.heap.size ≤ q → A q := fun q h => by rw [← hAe]; exact Or.inr h
  have hS : va_S A s.heap s.heap [] := va_S.rf
  have hl := lv_entry ([.ref (ad 0), .int p1]) (n := 4) (Nat.le_of_ble_eq_true rfl)
  rw [lg_entry_eq]
  generalize (lg_sl ([.ref (ad 0), .int p1]) ++ List.replicate (4 - (lg_sl ([.ref (ad 0), .int p1])).length) Slot.unset).toArray = ls at hl ⊢
  have hl : lv_has ls 4 [(0, .ref (ad 0)), (1, .int p1)] := hl
  unfold F_X10_remove at hF
  refine lv_aload_n hx hb dX10_remove_0 rfl (lv_at hl 0 rfl) ?_
  refine va_get (D := gD g) (ci := 6) (v := .ref (ad 11)) (C := RX10) (T := TX10) (N := 9) hx hb hts inX10 hown hK hP 0 rfl rfl 3 (by decide) (hts _ mU_280) (fun _ h9 => h9) rfl dX10_remove_1 ?_
  refine lv_aload_n hx hb dX10_remove_4 rfl (lv_at hl 0 rfl) ?_
  refine va_get (D := gD g) (ci := 6) (v := .ref (ad 1)) (C := RX10) (T := TX10) (N := 9) hx hb hts inX10 hown hK hP 0 rfl rfl 0 (by decide) (hts _ mU_277) (fun _ h9 => h9) rfl dX10_remove_5 ?_
  obtain ⟨zo1, hzo1, hF⟩ := z_bind hF
  refine z_callvE (fun (u : (Nat → SS)) => (wRoot g ad st sv isS u spare undo seen dbef drec ptx plen ppos pcnt cmds stE stF lch llen)) (va_runV (As := [.ref (ad 1)]) (rest := []) ⟨hx, hb, hml, hown, hts⟩ (c_X2_remember l g ad st sv isS hst spare undo seen dbef drec ptx plen ppos pcnt cmds stE stF lch llen _ _ hzo1) (cwV 1 hts (gdV mU_443 mU_444 mU_445 mU_68 mU_446) rfl rfl rfl (by decide +kernel) ⟨Nat.le_of_ble_eq_true rfl, Nat.le_of_ble_eq_true rfl⟩) ⟨z_blind _ _ _ _, va_recv hK hP (ci := 1) (q0 := 11) rfl rfl, fun U hU hW => z_preE hP hD hK hB hS hA hU hW⟩ rfl rfl hl.1 rfl (lv_room (Nat.le_of_ble_eq_true rfl)) dX10_remove_8 ⟨Nat.le_of_ble_eq_true rfl, Nat.le_of_ble_eq_true rfl⟩) hD hS hA (fun _ => rfl) (fun u H locs hw hP hD hS => ?_)
  subst hw
  have hP : va_P (gD g) zCl (wRoot g ad st sv isS zo1 spare undo seen dbef drec ptx plen ppos pcnt cmds stE stF lch llen) H := hP
  have hD : va_D A (wRoot g ad st sv isS zo1 spare undo seen dbef drec ptx plen ppos pcnt cmds stE stF lch llen) := hD
  refine lv_aload_n hx hb dX10_remove_11 rfl (lv_at hl 0 rfl) ?_
  refine lv_iload_n hx hb dX10_remove_12 rfl (lv_at hl 1 rfl) ?_
  obtain ⟨zo2, hzo2, hF⟩ := z_bind hF
  refine z_calllXE (fun (u : SS) => (wRoot g ad u sv isS zo1 spare undo seen dbef drec ptx plen ppos pcnt cmds stE stF lch llen)) (fun (x : Nat × (SS)) => (wRoot g ad x.2 sv isS zo1 spare undo seen dbef drec ptx plen ppos pcnt cmds stE stF lch llen)) (fun (x : Nat × (SS)) => xN x.1) (vx_runV (As := [.int p1]) (rest := []) ⟨hx, hb, hml, hown, hts⟩ (c_X10_releaseNumber l hl0 g ad st sv isS zo1 spare undo seen dbef drec ptx plen ppos pcnt cmds stE stF lch llen _ p1 fu _ hzo2) (cwV 1 hts (gdV mU_695 mU_697 mU_6 mU_66 mU_698) rfl rfl rfl (by decide +kernel) ⟨Nat.le_of_ble_eq_true rfl, Nat.le_of_ble_eq_true rfl⟩) ⟨z_blind _ _ _ _, va_recv hK hP (ci := 6) (q0 := 0) rfl rfl, fun U hU hW => z_preE hP hD hK hB hS hA hU hW⟩ rfl rfl hl.1 rfl (lv_room (Nat.le_of_ble_eq_true rfl)) dX10_remove_13 ⟨Nat.le_of_ble_eq_true rfl, Nat.le_of_ble_eq_true rfl⟩) hD hS hA (fun _ => rfl) (fun _ => rfl) (fun zw2 ce q9 H locs hw hP hD hS hq1 hq2 hq3 => ?_) (fun r u H locs hw hP hD hS => ?_)
  · subst hw
    have hF : _ = some o := hF
    have hP : va_P (gD g) zCl (wRoot g ad zw2.2 sv isS zo1 spare undo seen dbef drec ptx plen ppos pcnt cmds stE stF lch llen) H := hP
    have hD : va_D A (wRoot g ad zw2.2 sv isS zo1 spare undo seen dbef drec ptx plen ppos pcnt cmds stE stF lch llen) := hD
    have hF := z_err hF
    have ho := (Option.some.inj hF).symm
    exact vx_out (fun x hx => (hnx x hx).elim) hlocks hq1 hq2 hq3 (fun t ht hvm => ⟨(zw2.1, (zw2.2, zo1, spare, undo)), ho, ⟨rfl, z_end ht hP⟩, hS.F ht⟩) hS.2.2 (Nat.le_of_ble_eq_true rfl) (Nat.le_of_ble_eq_true rfl)
  · obtain ⟨za2, rfl, rfl, rfl⟩ := hw
    have hF := z_okk hF
    have hP : va_P (gD g) zCl (wRoot g ad za2.2 sv isS zo1 spare undo seen dbef drec ptx plen ppos pcnt cmds stE stF lch llen) H := hP
    have hD : va_D A (wRoot g ad za2.2 sv isS zo1 spare undo seen dbef drec ptx plen ppos pcnt cmds stE stF lch llen) := hD
    refine lv_lstore_n (lv' := [(2, .long za2.1), (0, .ref (ad 0)), (1, .int p1)]) hx hb dX10_remove_16 rfl hl (by decide) rfl (fun ls hl => ?_)
    refine lv_aload_n hx hb dX10_remove_17 rfl (lv_at hl 1 rfl) ?_
    refine va_get (D := gD g) (ci := 6) (v := .ref (ad 11)) (C := RX10) (T := TX10) (N := 9) hx hb hts inX10 hown hK hP 0 rfl rfl 3 (by decide) (hts _ mU_280) (fun _ h9 => h9) rfl dX10_remove_18 ?_
    obtain ⟨zo3, hzo3, hF⟩ := z_bind hF
    refine z_callvE (fun (u : Int32 × Int32) => (wRoot g ad za2.2 sv isS zo1 u.1 u.2 seen dbef drec ptx plen ppos pcnt cmds stE stF lch llen)) (va_runV (As := []) (rest := []) ⟨hx, hb, hml, hown, hts⟩ (c_X2_keep l g ad za2.2 sv isS zo1 spare undo seen dbef drec ptx plen ppos pcnt cmds stE stF lch llen _ _ hzo3) (cwV 0 hts (gdV mU_664 mU_665 mU_666 mU_68 mU_667) rfl rfl rfl (by decide +kernel) ⟨Nat.le_of_ble_eq_true rfl, Nat.le_of_ble_eq_true rfl⟩) ⟨z_blind _ _ _ _, va_recv hK hP (ci := 1) (q0 := 11) rfl rfl, fun U hU hW => z_preE hP hD hK hB hS hA hU hW⟩ rfl rfl hl.1 rfl (lv_room (Nat.le_of_ble_eq_true rfl)) dX10_remove_21 ⟨Nat.le_of_ble_eq_true rfl, Nat.le_of_ble_eq_true rfl⟩) hD hS hA (fun _ => rfl) (fun u H locs hw hP hD hS => ?_)
    subst hw
    have hP : va_P (gD g) zCl (wRoot g ad za2.2 sv isS zo1 zo3.1 zo3.2 seen dbef drec ptx plen ppos pcnt cmds stE stF lch llen) H := hP
    have hD : va_D A (wRoot g ad za2.2 sv isS zo1 zo3.1 zo3.2 seen dbef drec ptx plen ppos pcnt cmds stE stF lch llen) := hD
    refine lv_lload_n hx hb dX10_remove_24 rfl (lv_at hl 0 rfl) ?_
    have ho := (Option.some.inj hF).symm
    refine vx_ret ?_
    exact W.lret (v := za2.1) hx hb hr (fun t ht hW => ⟨⟨za2.1, (za2.2, zo1, zo3.1, zo3.2), rfl, ⟨_, ho, rfl, rfl⟩, z_end ht hP⟩, hS.F ht⟩) hS.2.2 dX10_remove_25
abbrev w_X10_feed : List Cond := .code yX10_feed cX10_feed 6 (some .long) :: wU
abbrev r_X10_feed : Room := { frames := 8, cells := 2, slots := 12, locals := 130 }
abbrev q_X10_feed (g : GG) (ad : Nat → Nat) (st : SS) (sv : SS) (isS : Int32) (hst : Nat → SS) (spare : Int32) (undo : Int32) (seen : Nat → Int32) (dbef : Int32) (drec : Int32) (ptx : Nat → Int32) (plen : Int32) (ppos : Int32) (pcnt : Int32) (cmds : Nat → CC) (stE : Int32) (stF : Int32) (lch : Nat → Int32) (llen : Int32) (o : Except (Nat × (SS × (Nat → SS) × Int32 × Int32)) (Int64 × SS × (Nat → SS) × Int32 × Int32)) (A : Nat → Prop) := va_Ql (fun (r : Int64) (u : SS × (Nat → SS) × Int32 × Int32) => ∃ a : Int64 × SS × (Nat → SS) × Int32 × Int32, o = .ok a ∧ a.1 = r ∧ a.2 = u) (fun u t => va_P (gD g) zCl (wRoot g ad u.1 sv isS u.2.1 u.2.2.1 u.2.2.2 seen dbef drec ptx plen ppos pcnt cmds stE stF lch llen) t.heap) A
abbrev x_X10_feed (g : GG) (ad : Nat → Nat) (st : SS) (sv : SS) (isS : Int32) (hst : Nat → SS) (spare : Int32) (undo : Int32) (seen : Nat → Int32) (dbef : Int32) (drec : Int32) (ptx : Nat → Int32) (plen : Int32) (ppos : Int32) (pcnt : Int32) (cmds : Nat → CC) (stE : Int32) (stF : Int32) (lch : Nat → Int32) (llen : Int32) (o : Except (Nat × (SS × (Nat → SS) × Int32 × Int32)) (Int64 × SS × (Nat → SS) × Int32 × Int32)) (A : Nat → Prop) := vx_X (fun (x : Nat × (SS × (Nat → SS) × Int32 × Int32)) => o = .error x) (fun E x t => E = xN x.1 ∧ va_P (gD g) zCl (wRoot g ad x.2.1 sv isS x.2.2.1 x.2.2.2.1 x.2.2.2.2 seen dbef drec ptx plen ppos pcnt cmds stE stF lch llen) t.heap) A
set_option maxHeartbeats 4000000 in
set_option maxRecDepth 100000 in
theorem c_X10_feed (l : Launch) (hl0 : l.stackTraces = false) (g : GG) (ad : Nat → Nat) (st : SS) (sv : SS) (isS : Int32) (hst : Nat → SS) (spare : Int32) (undo : Int32) (seen : Nat → Int32) (dbef : Int32) (drec : Int32) (ptx : Nat → Int32) (plen : Int32) (ppos : Int32) (pcnt : Int32) (cmds : Nat → CC) (stE : Int32) (stF : Int32) (lch : Nat → Int32) (llen : Int32) (sz : Nat) (p1 : Int32) (p2 : Int32) (p3 : Int32) (fu : Nat) (o : Except (Nat × (SS × (Nat → SS) × Int32 × Int32)) (Int64 × SS × (Nat → SS) × Int32 × Int32)) (hF : F_X10_feed fu st hst spare undo p1 p2 p3 = some o) : vx_Met l yX10_feed w_X10_feed r_X10_feed (va_Pc [.ref (ad 0), .int p1, .int p2, .int p3] (zP g (wRoot g ad st sv isS hst spare undo seen dbef drec ptx plen ppos pcnt cmds stE stF lch llen) sz)) (q_X10_feed g ad st sv isS hst spare undo seen dbef drec ptx plen ppos pcnt cmds stE stF lch llen o (va_A (wRoot g ad st sv isS hst spare undo seen dbef drec ptx plen ppos pcnt cmds stE stF lch llen) sz)) (x_X10_feed g ad st sv isS hst spare undo seen dbef drec ptx plen ppos pcnt cmds stE stF lch llen o (va_A (wRoot g ad st sv isS hst spare undo seen dbef drec ptx plen ppos pcnt cmds stE stF lch llen) sz)) 2 12 (va_A (wRoot g ad st sv isS hst spare undo seen dbef drec ptx plen ppos pcnt cmds stE stF lch llen) sz) := by
  refine vx_ofW (cc := cX10_feed) (maxL := 6) (ret := (some .long)) (by decide) rfl ?_
  intro p e s m args below meth c s₁ B hml hnx hv
  obtain ⟨rfl, rfl, hP, hK, hD0, hB⟩ := hv
  have hx := B.exec
  have hb := B.bytes
  have hr := B.returns
  have hts : ∀ w ∈ wU, w.before _ s = true := fun w h => atoms_spec (ws := w_X10_feed) B.pre w (List.mem_cons_of_mem _ h)
  have hown : s.vm.findClass RX10 = some m.cls := findClass_of_methodNamed B.named
  have hlocks := B.notSynchronized
  have hD := hD0.self (sz := s.heap.size)
  generalize hAe : va_A (wRoot g ad st sv isS hst spare undo seen dbef drec ptx plen ppos pcnt cmds stE stF lch llen) s.heap.size = A at hD hB ⊢
  have hA : ∀ q : Nat, s.heap.size ≤ q → A q := fun q h => by rw [← hAe]; exact Or.inr h
  have hS : va_S A s.heap s.heap [] := va_S.rf
  have hl := lv_entry ([.ref (ad 0), .int p1, .int p2, .int p3]) (n := 6) (Nat.le_of_ble_eq_true rfl)
  rw [lg_entry_eq]
  generalize (lg_sl ([.ref (ad 0), .int p1, .int p2, .int p3]) ++ List.replicate (6 - (lg_sl ([.ref (ad 0), .int p1, .int p2, .int p3])).length) Slot.unset).toArray = ls at hl ⊢
  have hl : lv_has ls 6 [(0, .ref (ad 0)), (1, .int p1), (2, .int p2), (3, .int p3)] := hl
  unfold F_X10_feed at hF
  refine lv_aload_n hx hb dX10_feed_0 rfl (lv_at hl 0 rfl) ?_
  refine va_get (D := gD g) (ci := 6) (v := .ref (ad 11)) (C := RX10) (T := TX10) (N := 9) hx hb hts inX10 hown hK hP 0 rfl rfl 3 (by decide) (hts _ mU_280) (fun _ h9 => h9) rfl dX10_feed_1 ?_
  refine lv_aload_n hx hb dX10_feed_4 rfl (lv_at hl 0 rfl) ?_
  refine va_get (D := gD g) (ci := 6) (v := .ref (ad 1)) (C := RX10) (T := TX10) (N := 9) hx hb hts inX10 hown hK hP 0 rfl rfl 0 (by decide) (hts _ mU_277) (fun _ h9 => h9) rfl dX10_feed_5 ?_
  obtain ⟨zo1, hzo1, hF⟩ := z_bind hF
  refine z_callvE (fun (u : (Nat → SS)) => (wRoot g ad st sv isS u spare undo seen dbef drec ptx plen ppos pcnt cmds stE stF lch llen)) (va_runV (As := [.ref (ad 1)]) (rest := []) ⟨hx, hb, hml, hown, hts⟩ (c_X2_remember l g ad st sv isS hst spare undo seen dbef drec ptx plen ppos pcnt cmds stE stF lch llen _ _ hzo1) (cwV 1 hts (gdV mU_443 mU_444 mU_445 mU_68 mU_446) rfl rfl rfl (by decide +kernel) ⟨Nat.le_of_ble_eq_true rfl, Nat.le_of_ble_eq_true rfl⟩) ⟨z_blind _ _ _ _, va_recv hK hP (ci := 1) (q0 := 11) rfl rfl, fun U hU hW => z_preE hP hD hK hB hS hA hU hW⟩ rfl rfl hl.1 rfl (lv_room (Nat.le_of_ble_eq_true rfl)) dX10_feed_8 ⟨Nat.le_of_ble_eq_true rfl, Nat.le_of_ble_eq_true rfl⟩) hD hS hA (fun _ => rfl) (fun u H locs hw hP hD hS => ?_)
  subst hw
  have hP : va_P (gD g) zCl (wRoot g ad st sv isS zo1 spare undo seen dbef drec ptx plen ppos pcnt cmds stE stF lch llen) H := hP
  have hD : va_D A (wRoot g ad st sv isS zo1 spare undo seen dbef drec ptx plen ppos pcnt cmds stE stF lch llen) := hD
  refine lv_aload_n hx hb dX10_feed_11 rfl (lv_at hl 0 rfl) ?_
  refine lv_iload_n hx hb dX10_feed_12 rfl (lv_at hl 1 rfl) ?_
  refine lv_iload_n hx hb dX10_feed_13 rfl (lv_at hl 2 rfl) ?_
  refine lv_iload_n hx hb dX10_feed_14 rfl (lv_at hl 3 rfl) ?_
  obtain ⟨zo2, hzo2, hF⟩ := z_bind hF
  refine z_calllXE (fun (u : SS) => (wRoot g ad u sv isS zo1 spare undo seen dbef drec ptx plen ppos pcnt cmds stE stF lch llen)) (fun (x : Nat × (SS)) => (wRoot g ad x.2 sv isS zo1 spare undo seen dbef drec ptx plen ppos pcnt cmds stE stF lch llen)) (fun (x : Nat × (SS)) => xN x.1) (vx_runV (As := [.int p1, .int p2, .int p3]) (rest := []) ⟨hx, hb, hml, hown, hts⟩ (c_X10_feedNumber l hl0 g ad st sv isS zo1 spare undo seen dbef drec ptx plen ppos pcnt cmds stE stF lch llen _ p1 p2 p3 fu _ hzo2) (cwV 3 hts (gdV mU_730 mU_732 mU_8 mU_66 mU_733) rfl rfl rfl (by decide +kernel) ⟨Nat.le_of_ble_eq_true rfl, Nat.le_of_ble_eq_true rfl⟩) ⟨z_blind _ _ _ _, va_recv hK hP (ci := 6) (q0 := 0) rfl rfl, fun U hU hW => z_preE hP hD hK hB hS hA hU hW⟩ rfl rfl hl.1 rfl (lv_room (Nat.le_of_ble_eq_true rfl)) dX10_feed_15 ⟨Nat.le_of_ble_eq_true rfl, Nat.le_of_ble_eq_true rfl⟩) hD hS hA (fun _ => rfl) (fun _ => rfl) (fun zw2 ce q9 H locs hw hP hD hS hq1 hq2 hq3 => ?_) (fun r u H locs hw hP hD hS => ?_)
  · subst hw
    have hF : _ = some o := hF
    have hP : va_P (gD g) zCl (wRoot g ad zw2.2 sv isS zo1 spare undo seen dbef drec ptx plen ppos pcnt cmds stE stF lch llen) H := hP
    have hD : va_D A (wRoot g ad zw2.2 sv isS zo1 spare undo seen dbef drec ptx plen ppos pcnt cmds stE stF lch llen) := hD
    have hF := z_err hF
    have ho := (Option.some.inj hF).symm
    exact vx_out (fun x hx => (hnx x hx).elim) hlocks hq1 hq2 hq3 (fun t ht hvm => ⟨(zw2.1, (zw2.2, zo1, spare, undo)), ho, ⟨rfl, z_end ht hP⟩, hS.F ht⟩) hS.2.2 (Nat.le_of_ble_eq_true rfl) (Nat.le_of_ble_eq_true rfl)
  · obtain ⟨za2, rfl, rfl, rfl⟩ := hw
    have hF := z_okk hF
    have hP : va_P (gD g) zCl (wRoot g ad za2.2 sv isS zo1 spare undo seen dbef drec ptx plen ppos pcnt cmds stE stF lch llen) H := hP
    have hD : va_D A (wRoot g ad za2.2 sv isS zo1 spare undo seen dbef drec ptx plen ppos pcnt cmds stE stF lch llen) := hD
    refine lv_lstore (lv' := [(4, .long za2.1), (0, .ref (ad 0)), (1, .int p1), (2, .int p2), (3, .int p3)]) hx hb dX10_feed_18 hl (by decide) rfl (fun ls hl => ?_)
    refine lv_aload_n hx hb dX10_feed_20 rfl (lv_at hl 1 rfl) ?_
    refine va_get (D := gD g) (ci := 6) (v := .ref (ad 11)) (C := RX10) (T := TX10) (N := 9) hx hb hts inX10 hown hK hP 0 rfl rfl 3 (by decide) (hts _ mU_280) (fun _ h9 => h9) rfl dX10_feed_21 ?_
    obtain ⟨zo3, hzo3, hF⟩ := z_bind hF
    refine z_callvE (fun (u : Int32 × Int32) => (wRoot g ad za2.2 sv isS zo1 u.1 u.2 seen dbef drec ptx plen ppos pcnt cmds stE stF lch llen)) (va_runV (As := []) (rest := []) ⟨hx, hb, hml, hown, hts⟩ (c_X2_keep l g ad za2.2 sv isS zo1 spare undo seen dbef drec ptx plen ppos pcnt cmds stE stF lch llen _ _ hzo3) (cwV 0 hts (gdV mU_664 mU_665 mU_666 mU_68 mU_667) rfl rfl rfl (by decide +kernel) ⟨Nat.le_of_ble_eq_true rfl, Nat.le_of_ble_eq_true rfl⟩) ⟨z_blind _ _ _ _, va_recv hK hP (ci := 1) (q0 := 11) rfl rfl, fun U hU hW => z_preE hP hD hK hB hS hA hU hW⟩ rfl rfl hl.1 rfl (lv_room (Nat.le_of_ble_eq_true rfl)) dX10_feed_24 ⟨Nat.le_of_ble_eq_true rfl, Nat.le_of_ble_eq_true rfl⟩) hD hS hA (fun _ => rfl) (fun u H locs hw hP hD hS => ?_)
    subst hw
    have hP : va_P (gD g) zCl (wRoot g ad za2.2 sv isS zo1 zo3.1 zo3.2 seen dbef drec ptx plen ppos pcnt cmds stE stF lch llen) H := hP
    have hD : va_D A (wRoot g ad za2.2 sv isS zo1 zo3.1 zo3.2 seen dbef drec ptx plen ppos pcnt cmds stE stF lch llen) := hD
    refine lv_lload hx hb dX10_feed_27 (lv_at hl 0 rfl) ?_
    have ho := (Option.some.inj hF).symm
    refine vx_ret ?_
    exact W.lret (v := za2.1) hx hb hr (fun t ht hW => ⟨⟨za2.1, (za2.2, zo1, zo3.1, zo3.2), rfl, ⟨_, ho, rfl, rfl⟩, z_end ht hP⟩, hS.F ht⟩) hS.2.2 dX10_feed_29
abbrev w_X10_trade : List Cond := .code yX10_trade cX10_trade 7 (some .long) :: wU
abbrev r_X10_trade : Room := { frames := 8, cells := 4, slots := 24, locals := 132 }
abbrev q_X10_trade (g : GG) (ad : Nat → Nat) (st : SS) (sv : SS) (isS : Int32) (hst : Nat → SS) (spare : Int32) (undo : Int32) (seen : Nat → Int32) (dbef : Int32) (drec : Int32) (ptx : Nat → Int32) (plen : Int32) (ppos : Int32) (pcnt : Int32) (cmds : Nat → CC) (stE : Int32) (stF : Int32) (lch : Nat → Int32) (llen : Int32) (o : Except (Nat × (SS × (Nat → SS) × Int32 × Int32)) (Int64 × SS × (Nat → SS) × Int32 × Int32)) (A : Nat → Prop) := va_Ql (fun (r : Int64) (u : SS × (Nat → SS) × Int32 × Int32) => ∃ a : Int64 × SS × (Nat → SS) × Int32 × Int32, o = .ok a ∧ a.1 = r ∧ a.2 = u) (fun u t => va_P (gD g) zCl (wRoot g ad u.1 sv isS u.2.1 u.2.2.1 u.2.2.2 seen dbef drec ptx plen ppos pcnt cmds stE stF lch llen) t.heap) A
abbrev x_X10_trade (g : GG) (ad : Nat → Nat) (st : SS) (sv : SS) (isS : Int32) (hst : Nat → SS) (spare : Int32) (undo : Int32) (seen : Nat → Int32) (dbef : Int32) (drec : Int32) (ptx : Nat → Int32) (plen : Int32) (ppos : Int32) (pcnt : Int32) (cmds : Nat → CC) (stE : Int32) (stF : Int32) (lch : Nat → Int32) (llen : Int32) (o : Except (Nat × (SS × (Nat → SS) × Int32 × Int32)) (Int64 × SS × (Nat → SS) × Int32 × Int32)) (A : Nat → Prop) := vx_X (fun (x : Nat × (SS × (Nat → SS) × Int32 × Int32)) => o = .error x) (fun E x t => E = xN x.1 ∧ va_P (gD g) zCl (wRoot g ad x.2.1 sv isS x.2.2.1 x.2.2.2.1 x.2.2.2.2 seen dbef drec ptx plen ppos pcnt cmds stE stF lch llen) t.heap) A
set_option maxHeartbeats 4000000 in
set_option maxRecDepth 100000 in
theorem c_X10_trade (l : Launch) (hl0 : l.stackTraces = false) (g : GG) (ad : Nat → Nat) (st : SS) (sv : SS) (isS : Int32) (hst : Nat → SS) (spare : Int32) (undo : Int32) (seen : Nat → Int32) (dbef : Int32) (drec : Int32) (ptx : Nat → Int32) (plen : Int32) (ppos : Int32) (pcnt : Int32) (cmds : Nat → CC) (stE : Int32) (stF : Int32) (lch : Nat → Int32) (llen : Int32) (sz : Nat) (p1 : Int32) (p2 : Int32) (p3 : Int32) (p4 : Int32) (fu : Nat) (o : Except (Nat × (SS × (Nat → SS) × Int32 × Int32)) (Int64 × SS × (Nat → SS) × Int32 × Int32)) (hF : F_X10_trade fu st hst spare undo p1 p2 p3 p4 = some o) : vx_Met l yX10_trade w_X10_trade r_X10_trade (va_Pc [.ref (ad 0), .int p1, .int p2, .int p3, .int p4] (zP g (wRoot g ad st sv isS hst spare undo seen dbef drec ptx plen ppos pcnt cmds stE stF lch llen) sz)) (q_X10_trade g ad st sv isS hst spare undo seen dbef drec ptx plen ppos pcnt cmds stE stF lch llen o (va_A (wRoot g ad st sv isS hst spare undo seen dbef drec ptx plen ppos pcnt cmds stE stF lch llen) sz)) (x_X10_trade g ad st sv isS hst spare undo seen dbef drec ptx plen ppos pcnt cmds stE stF lch llen o (va_A (wRoot g ad st sv isS hst spare undo seen dbef drec ptx plen ppos pcnt cmds stE stF lch llen) sz)) 4 24 (va_A (wRoot g ad st sv isS hst spare undo seen dbef drec ptx plen ppos pcnt cmds stE stF lch llen) sz) := by
  refine vx_ofW (cc := cX10_trade) (maxL := 7) (ret := (some .long)) (by decide) rfl ?_
  intro p e s m args below meth c s₁ B hml hnx hv
  obtain ⟨rfl, rfl, hP, hK, hD0, hB⟩ := hv
  have hx := B.exec
  have hb := B.bytes
  have hr := B.returns
  have hts : ∀ w ∈ wU, w.before _ s = true := fun w h => atoms_spec (ws := w_X10_trade) B.pre w (List.mem_cons_of_mem _ h)
  have hown : s.vm.findClass RX10 = some m.cls := findClass_of_methodNamed B.named
  have hlocks := B.notSynchronized
  have hD := hD0.self (sz := s.heap.size)
  generalize hAe : va_A (wRoot g ad st sv isS hst spare undo seen dbef drec ptx plen ppos pcnt cmds stE stF lch llen) s.heap.size = A at hD hB ⊢
  have hA : ∀ q : Nat, s.heap.size ≤ q → A q := fun q h => by rw [← hAe]; exact Or.inr h
  have hS : va_S A s.heap s.heap [] := va_S.rf
  have hl := lv_entry ([.ref (ad 0), .int p1, .int p2, .int p3, .int p4]) (n := 7) (Nat.le_of_ble_eq_true rfl)
  rw [lg_entry_eq]
  generalize (lg_sl ([.ref (ad 0), .int p1, .int p2, .int p3, .int p4]) ++ List.replicate (7 - (lg_sl ([.ref (ad 0), .int p1, .int p2, .int p3, .int p4])).length) Slot.unset).toArray = ls at hl ⊢
  have hl : lv_has ls 7 [(0, .ref (ad 0)), (1, .int p1), (2, .int p2), (3, .int p3), (4, .int p4)] := hl
  unfold F_X10_trade at hF
  refine lv_aload_n hx hb dX10_trade_0 rfl (lv_at hl 0 rfl) ?_
  refine va_get (D := gD g) (ci := 6) (v := .ref (ad 11)) (C := RX10) (T := TX10) (N := 9) hx hb hts inX10 hown hK hP 0 rfl rfl 3 (by decide) (hts _ mU_280) (fun _ h9 => h9) rfl dX10_trade_1 ?_
  refine lv_aload_n hx hb dX10_trade_4 rfl (lv_at hl 0 rfl) ?_
  refine va_get (D := gD g) (ci := 6) (v := .ref (ad 1)) (C := RX10) (T := TX10) (N := 9) hx hb hts inX10 hown hK hP 0 rfl rfl 0 (by decide) (hts _ mU_277) (fun _ h9 => h9) rfl dX10_trade_5 ?_
  obtain ⟨zo1, hzo1, hF⟩ := z_bind hF
  refine z_callvE (fun (u : (Nat → SS)) => (wRoot g ad st sv isS u spare undo seen dbef drec ptx plen ppos pcnt cmds stE stF lch llen)) (va_runV (As := [.ref (ad 1)]) (rest := []) ⟨hx, hb, hml, hown, hts⟩ (c_X2_remember l g ad st sv isS hst spare undo seen dbef drec ptx plen ppos pcnt cmds stE stF lch llen _ _ hzo1) (cwV 1 hts (gdV mU_443 mU_444 mU_445 mU_68 mU_446) rfl rfl rfl (by decide +kernel) ⟨Nat.le_of_ble_eq_true rfl, Nat.le_of_ble_eq_true rfl⟩) ⟨z_blind _ _ _ _, va_recv hK hP (ci := 1) (q0 := 11) rfl rfl, fun U hU hW => z_preE hP hD hK hB hS hA hU hW⟩ rfl rfl hl.1 rfl (lv_room (Nat.le_of_ble_eq_true rfl)) dX10_trade_8 ⟨Nat.le_of_ble_eq_true rfl, Nat.le_of_ble_eq_true rfl⟩) hD hS hA (fun _ => rfl) (fun u H locs hw hP hD hS => ?_)
  subst hw
  have hP : va_P (gD g) zCl (wRoot g ad st sv isS zo1 spare undo seen dbef drec ptx plen ppos pcnt cmds stE stF lch llen) H := hP
  have hD : va_D A (wRoot g ad st sv isS zo1 spare undo seen dbef drec ptx plen ppos pcnt cmds stE stF lch llen) := hD
  refine lv_aload_n hx hb dX10_trade_11 rfl (lv_at hl 0 rfl) ?_
  refine lv_iload_n hx hb dX10_trade_12 rfl (lv_at hl 1 rfl) ?_
  refine lv_iload_n hx hb dX10_trade_13 rfl (lv_at hl 2 rfl) ?_
  refine lv_iload_n hx hb dX10_trade_14 rfl (lv_at hl 3 rfl) ?_
  refine lv_iload hx hb dX10_trade_15 (lv_at hl 4 rfl) ?_
  obtain ⟨zo2, hzo2, hF⟩ := z_bind hF
  refine z_calllXE (fun (u : SS) => (wRoot g ad u sv isS zo1 spare undo seen dbef drec ptx plen ppos pcnt cmds stE stF lch llen)) (fun (x : Nat × (SS)) => (wRoot g ad x.2 sv isS zo1 spare undo seen dbef drec ptx plen ppos pcnt cmds stE stF lch llen)) (fun (x : Nat × (SS)) => xN x.1) (vx_runV (As := [.int p1, .int p2, .int p3, .int p4]) (rest := []) ⟨hx, hb, hml, hown, hts⟩ (c_X10_tradeAmount l hl0 g ad st sv isS zo1 spare undo seen dbef drec ptx plen ppos pcnt cmds stE stF lch llen _ p1 p2 p3 p4 fu _ hzo2) (cwV 4 hts (gdV mU_750 mU_752 mU_9 mU_66 mU_753) rfl rfl rfl (by decide +kernel) ⟨Nat.le_of_ble_eq_true rfl, Nat.le_of_ble_eq_true rfl⟩) ⟨z_blind _ _ _ _, va_recv hK hP (ci := 6) (q0 := 0) rfl rfl, fun U hU hW => z_preE hP hD hK hB hS hA hU hW⟩ rfl rfl hl.1 rfl (lv_room (Nat.le_of_ble_eq_true rfl)) dX10_trade_17 ⟨Nat.le_of_ble_eq_true rfl, Nat.le_of_ble_eq_true rfl⟩) hD hS hA (fun _ => rfl) (fun _ => rfl) (fun zw2 ce q9 H locs hw hP hD hS hq1 hq2 hq3 => ?_) (fun r u H locs hw hP hD hS => ?_)
  · subst hw
    have hF : _ = some o := hF
    have hP : va_P (gD g) zCl (wRoot g ad zw2.2 sv isS zo1 spare undo seen dbef drec ptx plen ppos pcnt cmds stE stF lch llen) H := hP
    have hD : va_D A (wRoot g ad zw2.2 sv isS zo1 spare undo seen dbef drec ptx plen ppos pcnt cmds stE stF lch llen) := hD
    have hF := z_err hF
    have ho := (Option.some.inj hF).symm
    exact vx_out (fun x hx => (hnx x hx).elim) hlocks hq1 hq2 hq3 (fun t ht hvm => ⟨(zw2.1, (zw2.2, zo1, spare, undo)), ho, ⟨rfl, z_end ht hP⟩, hS.F ht⟩) hS.2.2 (Nat.le_of_ble_eq_true rfl) (Nat.le_of_ble_eq_true rfl)
  · obtain ⟨za2, rfl, rfl, rfl⟩ := hw
    have hF := z_okk hF
    have hP : va_P (gD g) zCl (wRoot g ad za2.2 sv isS zo1 spare undo seen dbef drec ptx plen ppos pcnt cmds stE stF lch llen) H := hP
    have hD : va_D A (wRoot g ad za2.2 sv isS zo1 spare undo seen dbef drec ptx plen ppos pcnt cmds stE stF lch llen) := hD
    refine lv_lstore (lv' := [(5, .long za2.1), (0, .ref (ad 0)), (1, .int p1), (2, .int p2), (3, .int p3), (4, .int p4)]) hx hb dX10_trade_20 hl (by decide) rfl (fun ls hl => ?_)
    refine lv_aload_n hx hb dX10_trade_22 rfl (lv_at hl 1 rfl) ?_
    refine va_get (D := gD g) (ci := 6) (v := .ref (ad 11)) (C := RX10) (T := TX10) (N := 9) hx hb hts inX10 hown hK hP 0 rfl rfl 3 (by decide) (hts _ mU_280) (fun _ h9 => h9) rfl dX10_trade_23 ?_
    obtain ⟨zo3, hzo3, hF⟩ := z_bind hF
    refine z_callvE (fun (u : Int32 × Int32) => (wRoot g ad za2.2 sv isS zo1 u.1 u.2 seen dbef drec ptx plen ppos pcnt cmds stE stF lch llen)) (va_runV (As := []) (rest := []) ⟨hx, hb, hml, hown, hts⟩ (c_X2_keep l g ad za2.2 sv isS zo1 spare undo seen dbef drec ptx plen ppos pcnt cmds stE stF lch llen _ _ hzo3) (cwV 0 hts (gdV mU_664 mU_665 mU_666 mU_68 mU_667) rfl rfl rfl (by decide +kernel) ⟨Nat.le_of_ble_eq_true rfl, Nat.le_of_ble_eq_true rfl⟩) ⟨z_blind _ _ _ _, va_recv hK hP (ci := 1) (q0 := 11) rfl rfl, fun U hU hW => z_preE hP hD hK hB hS hA hU hW⟩ rfl rfl hl.1 rfl (lv_room (Nat.le_of_ble_eq_true rfl)) dX10_trade_26 ⟨Nat.le_of_ble_eq_true rfl, Nat.le_of_ble_eq_true rfl⟩) hD hS hA (fun _ => rfl) (fun u H locs hw hP hD hS => ?_)
    subst hw
    have hP : va_P (gD g) zCl (wRoot g ad za2.2 sv isS zo1 zo3.1 zo3.2 seen dbef drec ptx plen ppos pcnt cmds stE stF lch llen) H := hP
    have hD : va_D A (wRoot g ad za2.2 sv isS zo1 zo3.1 zo3.2 seen dbef drec ptx plen ppos pcnt cmds stE stF lch llen) := hD
    refine lv_lload hx hb dX10_trade_29 (lv_at hl 0 rfl) ?_
    have ho := (Option.some.inj hF).symm
    refine vx_ret ?_
    exact W.lret (v := za2.1) hx hb hr (fun t ht hW => ⟨⟨za2.1, (za2.2, zo1, zo3.1, zo3.2), rfl, ⟨_, ho, rfl, rfl⟩, z_end ht hP⟩, hS.F ht⟩) hS.2.2 dX10_trade_31
abbrev w_X10_setScale : List Cond := .code yX10_setScale cX10_setScale 4 (some .int) :: wU
abbrev r_X10_setScale : Room := { frames := 8, cells := 2, slots := 12, locals := 128 }
abbrev q_X10_setScale (g : GG) (ad : Nat → Nat) (st : SS) (sv : SS) (isS : Int32) (hst : Nat → SS) (spare : Int32) (undo : Int32) (seen : Nat → Int32) (dbef : Int32) (drec : Int32) (ptx : Nat → Int32) (plen : Int32) (ppos : Int32) (pcnt : Int32) (cmds : Nat → CC) (stE : Int32) (stF : Int32) (lch : Nat → Int32) (llen : Int32) (o : Except (Nat × (SS × (Nat → SS) × Int32 × Int32)) (Int32 × SS × (Nat → SS) × Int32 × Int32)) (A : Nat → Prop) := va_Qi (fun (r : Int32) (u : SS × (Nat → SS) × Int32 × Int32) => ∃ a : Int32 × SS × (Nat → SS) × Int32 × Int32, o = .ok a ∧ a.1 = r ∧ a.2 = u) (fun u t => va_P (gD g) zCl (wRoot g ad u.1 sv isS u.2.1 u.2.2.1 u.2.2.2 seen dbef drec ptx plen ppos pcnt cmds stE stF lch llen) t.heap) A
abbrev x_X10_setScale (g : GG) (ad : Nat → Nat) (st : SS) (sv : SS) (isS : Int32) (hst : Nat → SS) (spare : Int32) (undo : Int32) (seen : Nat → Int32) (dbef : Int32) (drec : Int32) (ptx : Nat → Int32) (plen : Int32) (ppos : Int32) (pcnt : Int32) (cmds : Nat → CC) (stE : Int32) (stF : Int32) (lch : Nat → Int32) (llen : Int32) (o : Except (Nat × (SS × (Nat → SS) × Int32 × Int32)) (Int32 × SS × (Nat → SS) × Int32 × Int32)) (A : Nat → Prop) := vx_X (fun (x : Nat × (SS × (Nat → SS) × Int32 × Int32)) => o = .error x) (fun E x t => E = xN x.1 ∧ va_P (gD g) zCl (wRoot g ad x.2.1 sv isS x.2.2.1 x.2.2.2.1 x.2.2.2.2 seen dbef drec ptx plen ppos pcnt cmds stE stF lch llen) t.heap) A
set_option maxHeartbeats 4000000 in
set_option maxRecDepth 100000 in
theorem c_X10_setScale (l : Launch) (hl0 : l.stackTraces = false) (g : GG) (ad : Nat → Nat) (st : SS) (sv : SS) (isS : Int32) (hst : Nat → SS) (spare : Int32) (undo : Int32) (seen : Nat → Int32) (dbef : Int32) (drec : Int32) (ptx : Nat → Int32) (plen : Int32) (ppos : Int32) (pcnt : Int32) (cmds : Nat → CC) (stE : Int32) (stF : Int32) (lch : Nat → Int32) (llen : Int32) (sz : Nat) (p1 : Int32) (p2 : Int32) (fu : Nat) (o : Except (Nat × (SS × (Nat → SS) × Int32 × Int32)) (Int32 × SS × (Nat → SS) × Int32 × Int32)) (hF : F_X10_setScale fu st hst spare undo p1 p2 = some o) : vx_Met l yX10_setScale w_X10_setScale r_X10_setScale (va_Pc [.ref (ad 0), .int p1, .int p2] (zP g (wRoot g ad st sv isS hst spare undo seen dbef drec ptx plen ppos pcnt cmds stE stF lch llen) sz)) (q_X10_setScale g ad st sv isS hst spare undo seen dbef drec ptx plen ppos pcnt cmds stE stF lch llen o (va_A (wRoot g ad st sv isS hst spare undo seen dbef drec ptx plen ppos pcnt cmds stE stF lch llen) sz)) (x_X10_setScale g ad st sv isS hst spare undo seen dbef drec ptx plen ppos pcnt cmds stE stF lch llen o (va_A (wRoot g ad st sv isS hst spare undo seen dbef drec ptx plen ppos pcnt cmds stE stF lch llen) sz)) 2 12 (va_A (wRoot g ad st sv isS hst spare undo seen dbef drec ptx plen ppos pcnt cmds stE stF lch llen) sz) := by
  refine vx_ofW (cc := cX10_setScale) (maxL := 4) (ret := (some .int)) (by decide) rfl ?_
  intro p e s m args below meth c s₁ B hml hnx hv
  obtain ⟨rfl, rfl, hP, hK, hD0, hB⟩ := hv
  have hx := B.exec
  have hb := B.bytes
  have hr := B.returns
  have hts : ∀ w ∈ wU, w.before _ s = true := fun w h => atoms_spec (ws := w_X10_setScale) B.pre w (List.mem_cons_of_mem _ h)
  have hown : s.vm.findClass RX10 = some m.cls := findClass_of_methodNamed B.named
  have hlocks := B.notSynchronized
  have hD := hD0.self (sz := s.heap.size)
  generalize hAe : va_A (wRoot g ad st sv isS hst spare undo seen dbef drec ptx plen ppos pcnt cmds stE stF lch llen) s.heap.size = A at hD hB ⊢
  have hA : ∀ q : Nat, s.heap.size ≤ q → A q := fun q h => by rw [← hAe]; exact Or.inr h
  have hS : va_S A s.heap s.heap [] := va_S.rf
  have hl := lv_entry ([.ref (ad 0), .int p1, .int p2]) (n := 4) (Nat.le_of_ble_eq_true rfl)
  rw [lg_entry_eq]
  generalize (lg_sl ([.ref (ad 0), .int p1, .int p2]) ++ List.replicate (4 - (lg_sl ([.ref (ad 0), .int p1, .int p2])).length) Slot.unset).toArray = ls at hl ⊢
  have hl : lv_has ls 4 [(0, .ref (ad 0)), (1, .int p1), (2, .int p2)] := hl
  unfold F_X10_setScale at hF
  refine lv_aload_n hx hb dX10_setScale_0 rfl (lv_at hl 0 rfl) ?_
  refine va_get (D := gD g) (ci := 6) (v := .ref (ad 11)) (C := RX10) (T := TX10) (N := 9) hx hb hts inX10 hown hK hP 0 rfl rfl 3 (by decide) (hts _ mU_280) (fun _ h9 => h9) rfl dX10_setScale_1 ?_
  refine lv_aload_n hx hb dX10_setScale_4 rfl (lv_at hl 0 rfl) ?_
  refine va_get (D := gD g) (ci := 6) (v := .ref (ad 1)) (C := RX10) (T := TX10) (N := 9) hx hb hts inX10 hown hK hP 0 rfl rfl 0 (by decide) (hts _ mU_277) (fun _ h9 => h9) rfl dX10_setScale_5 ?_
  obtain ⟨zo1, hzo1, hF⟩ := z_bind hF
  refine z_callvE (fun (u : (Nat → SS)) => (wRoot g ad st sv isS u spare undo seen dbef drec ptx plen ppos pcnt cmds stE stF lch llen)) (va_runV (As := [.ref (ad 1)]) (rest := []) ⟨hx, hb, hml, hown, hts⟩ (c_X2_remember l g ad st sv isS hst spare undo seen dbef drec ptx plen ppos pcnt cmds stE stF lch llen _ _ hzo1) (cwV 1 hts (gdV mU_443 mU_444 mU_445 mU_68 mU_446) rfl rfl rfl (by decide +kernel) ⟨Nat.le_of_ble_eq_true rfl, Nat.le_of_ble_eq_true rfl⟩) ⟨z_blind _ _ _ _, va_recv hK hP (ci := 1) (q0 := 11) rfl rfl, fun U hU hW => z_preE hP hD hK hB hS hA hU hW⟩ rfl rfl hl.1 rfl (lv_room (Nat.le_of_ble_eq_true rfl)) dX10_setScale_8 ⟨Nat.le_of_ble_eq_true rfl, Nat.le_of_ble_eq_true rfl⟩) hD hS hA (fun _ => rfl) (fun u H locs hw hP hD hS => ?_)
  subst hw
  have hP : va_P (gD g) zCl (wRoot g ad st sv isS zo1 spare undo seen dbef drec ptx plen ppos pcnt cmds stE stF lch llen) H := hP
  have hD : va_D A (wRoot g ad st sv isS zo1 spare undo seen dbef drec ptx plen ppos pcnt cmds stE stF lch llen) := hD
  refine lv_aload_n hx hb dX10_setScale_11 rfl (lv_at hl 0 rfl) ?_
  refine lv_iload_n hx hb dX10_setScale_12 rfl (lv_at hl 1 rfl) ?_
  refine lv_iload_n hx hb dX10_setScale_13 rfl (lv_at hl 2 rfl) ?_
  obtain ⟨zo2, hzo2, hF⟩ := z_bind hF
  refine z_calliXE (fun (u : SS) => (wRoot g ad u sv isS zo1 spare undo seen dbef drec ptx plen ppos pcnt cmds stE stF lch llen)) (fun (x : Nat × (SS)) => (wRoot g ad x.2 sv isS zo1 spare undo seen dbef drec ptx plen ppos pcnt cmds stE stF lch llen)) (fun (x : Nat × (SS)) => xN x.1) (vx_runV (As := [.int p1, .int p2]) (rest := []) ⟨hx, hb, hml, hown, hts⟩ (c_X10_changeScale l hl0 g ad st sv isS zo1 spare undo seen dbef drec ptx plen ppos pcnt cmds stE stF lch llen _ p1 p2 fu _ hzo2) (cwV 2 hts (gdV mU_764 mU_766 mU_10 mU_66 mU_767) rfl rfl rfl (by decide +kernel) ⟨Nat.le_of_ble_eq_true rfl, Nat.le_of_ble_eq_true rfl⟩) ⟨z_blind _ _ _ _, va_recv hK hP (ci := 6) (q0 := 0) rfl rfl, fun U hU hW => z_preE hP hD hK hB hS hA hU hW⟩ rfl rfl hl.1 rfl (lv_room (Nat.le_of_ble_eq_true rfl)) dX10_setScale_14 ⟨Nat.le_of_ble_eq_true rfl, Nat.le_of_ble_eq_true rfl⟩) hD hS hA (fun _ => rfl) (fun _ => rfl) (fun zw2 ce q9 H locs hw hP hD hS hq1 hq2 hq3 => ?_) (fun r u H locs hw hP hD hS => ?_)
  · subst hw
    have hF : _ = some o := hF
    have hP : va_P (gD g) zCl (wRoot g ad zw2.2 sv isS zo1 spare undo seen dbef drec ptx plen ppos pcnt cmds stE stF lch llen) H := hP
    have hD : va_D A (wRoot g ad zw2.2 sv isS zo1 spare undo seen dbef drec ptx plen ppos pcnt cmds stE stF lch llen) := hD
    have hF := z_err hF
    have ho := (Option.some.inj hF).symm
    exact vx_out (fun x hx => (hnx x hx).elim) hlocks hq1 hq2 hq3 (fun t ht hvm => ⟨(zw2.1, (zw2.2, zo1, spare, undo)), ho, ⟨rfl, z_end ht hP⟩, hS.F ht⟩) hS.2.2 (Nat.le_of_ble_eq_true rfl) (Nat.le_of_ble_eq_true rfl)
  · obtain ⟨za2, rfl, rfl, rfl⟩ := hw
    have hF := z_okk hF
    have hP : va_P (gD g) zCl (wRoot g ad za2.2 sv isS zo1 spare undo seen dbef drec ptx plen ppos pcnt cmds stE stF lch llen) H := hP
    have hD : va_D A (wRoot g ad za2.2 sv isS zo1 spare undo seen dbef drec ptx plen ppos pcnt cmds stE stF lch llen) := hD
    refine lv_istore_n (lv' := [(3, .int za2.1), (0, .ref (ad 0)), (1, .int p1), (2, .int p2)]) hx hb dX10_setScale_17 rfl hl (by decide) rfl (fun ls hl => ?_)
    refine lv_aload_n hx hb dX10_setScale_18 rfl (lv_at hl 1 rfl) ?_
    refine va_get (D := gD g) (ci := 6) (v := .ref (ad 11)) (C := RX10) (T := TX10) (N := 9) hx hb hts inX10 hown hK hP 0 rfl rfl 3 (by decide) (hts _ mU_280) (fun _ h9 => h9) rfl dX10_setScale_19 ?_
    obtain ⟨zo3, hzo3, hF⟩ := z_bind hF
    refine z_callvE (fun (u : Int32 × Int32) => (wRoot g ad za2.2 sv isS zo1 u.1 u.2 seen dbef drec ptx plen ppos pcnt cmds stE stF lch llen)) (va_runV (As := []) (rest := []) ⟨hx, hb, hml, hown, hts⟩ (c_X2_keep l g ad za2.2 sv isS zo1 spare undo seen dbef drec ptx plen ppos pcnt cmds stE stF lch llen _ _ hzo3) (cwV 0 hts (gdV mU_664 mU_665 mU_666 mU_68 mU_667) rfl rfl rfl (by decide +kernel) ⟨Nat.le_of_ble_eq_true rfl, Nat.le_of_ble_eq_true rfl⟩) ⟨z_blind _ _ _ _, va_recv hK hP (ci := 1) (q0 := 11) rfl rfl, fun U hU hW => z_preE hP hD hK hB hS hA hU hW⟩ rfl rfl hl.1 rfl (lv_room (Nat.le_of_ble_eq_true rfl)) dX10_setScale_22 ⟨Nat.le_of_ble_eq_true rfl, Nat.le_of_ble_eq_true rfl⟩) hD hS hA (fun _ => rfl) (fun u H locs hw hP hD hS => ?_)
    subst hw
    have hP : va_P (gD g) zCl (wRoot g ad za2.2 sv isS zo1 zo3.1 zo3.2 seen dbef drec ptx plen ppos pcnt cmds stE stF lch llen) H := hP
    have hD : va_D A (wRoot g ad za2.2 sv isS zo1 zo3.1 zo3.2 seen dbef drec ptx plen ppos pcnt cmds stE stF lch llen) := hD
    refine lv_iload_n hx hb dX10_setScale_25 rfl (lv_at hl 0 rfl) ?_
    have ho := (Option.some.inj hF).symm
    refine vx_ret ?_
    exact W.iret (v := za2.1) hx hb hr (fun t ht hW => ⟨⟨za2.1, (za2.2, zo1, zo3.1, zo3.2), rfl, ⟨_, ho, rfl, rfl⟩, z_end ht hP⟩, hS.F ht⟩) hS.2.2 dX10_setScale_26
abbrev w_X10_setMode : List Cond := .code yX10_setMode cX10_setMode 4 (some .char) :: wU
abbrev r_X10_setMode : Room := { frames := 8, cells := 2, slots := 12, locals := 150 }
abbrev q_X10_setMode (g : GG) (ad : Nat → Nat) (st : SS) (sv : SS) (isS : Int32) (hst : Nat → SS) (spare : Int32) (undo : Int32) (seen : Nat → Int32) (dbef : Int32) (drec : Int32) (ptx : Nat → Int32) (plen : Int32) (ppos : Int32) (pcnt : Int32) (cmds : Nat → CC) (stE : Int32) (stF : Int32) (lch : Nat → Int32) (llen : Int32) (o : Except (Nat × (SS × (Nat → SS) × Int32 × Int32)) (Int32 × SS × (Nat → SS) × Int32 × Int32)) (A : Nat → Prop) := va_Qi (fun (r : Int32) (u : SS × (Nat → SS) × Int32 × Int32) => ∃ a : Int32 × SS × (Nat → SS) × Int32 × Int32, o = .ok a ∧ a.1 = r ∧ a.2 = u) (fun u t => va_P (gD g) zCl (wRoot g ad u.1 sv isS u.2.1 u.2.2.1 u.2.2.2 seen dbef drec ptx plen ppos pcnt cmds stE stF lch llen) t.heap) A
abbrev x_X10_setMode (g : GG) (ad : Nat → Nat) (st : SS) (sv : SS) (isS : Int32) (hst : Nat → SS) (spare : Int32) (undo : Int32) (seen : Nat → Int32) (dbef : Int32) (drec : Int32) (ptx : Nat → Int32) (plen : Int32) (ppos : Int32) (pcnt : Int32) (cmds : Nat → CC) (stE : Int32) (stF : Int32) (lch : Nat → Int32) (llen : Int32) (o : Except (Nat × (SS × (Nat → SS) × Int32 × Int32)) (Int32 × SS × (Nat → SS) × Int32 × Int32)) (A : Nat → Prop) := vx_X (fun (x : Nat × (SS × (Nat → SS) × Int32 × Int32)) => o = .error x) (fun E x t => E = xN x.1 ∧ va_P (gD g) zCl (wRoot g ad x.2.1 sv isS x.2.2.1 x.2.2.2.1 x.2.2.2.2 seen dbef drec ptx plen ppos pcnt cmds stE stF lch llen) t.heap) A
set_option maxHeartbeats 4000000 in
set_option maxRecDepth 100000 in
theorem c_X10_setMode (l : Launch) (hl0 : l.stackTraces = false) (g : GG) (ad : Nat → Nat) (st : SS) (sv : SS) (isS : Int32) (hst : Nat → SS) (spare : Int32) (undo : Int32) (seen : Nat → Int32) (dbef : Int32) (drec : Int32) (ptx : Nat → Int32) (plen : Int32) (ppos : Int32) (pcnt : Int32) (cmds : Nat → CC) (stE : Int32) (stF : Int32) (lch : Nat → Int32) (llen : Int32) (sz : Nat) (p1 : Int32) (p2 : Int32) (fu : Nat) (o : Except (Nat × (SS × (Nat → SS) × Int32 × Int32)) (Int32 × SS × (Nat → SS) × Int32 × Int32)) (hF : F_X10_setMode fu st hst spare undo p1 p2 = some o) : vx_Met l yX10_setMode w_X10_setMode r_X10_setMode (va_Pc [.ref (ad 0), .int p1, .int p2] (zP g (wRoot g ad st sv isS hst spare undo seen dbef drec ptx plen ppos pcnt cmds stE stF lch llen) sz)) (q_X10_setMode g ad st sv isS hst spare undo seen dbef drec ptx plen ppos pcnt cmds stE stF lch llen o (va_A (wRoot g ad st sv isS hst spare undo seen dbef drec ptx plen ppos pcnt cmds stE stF lch llen) sz)) (x_X10_setMode g ad st sv isS hst spare undo seen dbef drec ptx plen ppos pcnt cmds stE stF lch llen o (va_A (wRoot g ad st sv isS hst spare undo seen dbef drec ptx plen ppos pcnt cmds stE stF lch llen) sz)) 2 12 (va_A (wRoot g ad st sv isS hst spare undo seen dbef drec ptx plen ppos pcnt cmds stE stF lch llen) sz) := by
  refine vx_ofW (cc := cX10_setMode) (maxL := 4) (ret := (some .char)) (by decide) rfl ?_
  intro p e s m args below meth c s₁ B hml hnx hv
  obtain ⟨rfl, rfl, hP, hK, hD0, hB⟩ := hv
  have hx := B.exec
  have hb := B.bytes
  have hr := B.returns
  have hts : ∀ w ∈ wU, w.before _ s = true := fun w h => atoms_spec (ws := w_X10_setMode) B.pre w (List.mem_cons_of_mem _ h)
  have hown : s.vm.findClass RX10 = some m.cls := findClass_of_methodNamed B.named
  have hlocks := B.notSynchronized
  have hD := hD0.self (sz := s.heap.size)
  generalize hAe : va_A (wRoot g ad st sv isS hst spare undo seen dbef drec ptx plen ppos pcnt cmds stE stF lch llen) s.heap.size = A at hD hB ⊢
  have hA : ∀ q : Nat, s.heap.size ≤ q → A q := fun q h => by rw [← hAe]; exact Or.inr h
  have hS : va_S A s.heap s.heap [] := va_S.rf
  have hl := lv_entry ([.ref (ad 0), .int p1, .int p2]) (n := 4) (Nat.le_of_ble_eq_true rfl)
  rw [lg_entry_eq]
  generalize (lg_sl ([.ref (ad 0), .int p1, .int p2]) ++ List.replicate (4 - (lg_sl ([.ref (ad 0), .int p1, .int p2])).length) Slot.unset).toArray = ls at hl ⊢
  have hl : lv_has ls 4 [(0, .ref (ad 0)), (1, .int p1), (2, .int p2)] := hl
  unfold F_X10_setMode at hF
  refine lv_aload_n hx hb dX10_setMode_0 rfl (lv_at hl 0 rfl) ?_
  refine va_get (D := gD g) (ci := 6) (v := .ref (ad 11)) (C := RX10) (T := TX10) (N := 9) hx hb hts inX10 hown hK hP 0 rfl rfl 3 (by decide) (hts _ mU_280) (fun _ h9 => h9) rfl dX10_setMode_1 ?_
  refine lv_aload_n hx hb dX10_setMode_4 rfl (lv_at hl 0 rfl) ?_
  refine va_get (D := gD g) (ci := 6) (v := .ref (ad 1)) (C := RX10) (T := TX10) (N := 9) hx hb hts inX10 hown hK hP 0 rfl rfl 0 (by decide) (hts _ mU_277) (fun _ h9 => h9) rfl dX10_setMode_5 ?_
  obtain ⟨zo1, hzo1, hF⟩ := z_bind hF
  refine z_callvE (fun (u : (Nat → SS)) => (wRoot g ad st sv isS u spare undo seen dbef drec ptx plen ppos pcnt cmds stE stF lch llen)) (va_runV (As := [.ref (ad 1)]) (rest := []) ⟨hx, hb, hml, hown, hts⟩ (c_X2_remember l g ad st sv isS hst spare undo seen dbef drec ptx plen ppos pcnt cmds stE stF lch llen _ _ hzo1) (cwV 1 hts (gdV mU_443 mU_444 mU_445 mU_68 mU_446) rfl rfl rfl (by decide +kernel) ⟨Nat.le_of_ble_eq_true rfl, Nat.le_of_ble_eq_true rfl⟩) ⟨z_blind _ _ _ _, va_recv hK hP (ci := 1) (q0 := 11) rfl rfl, fun U hU hW => z_preE hP hD hK hB hS hA hU hW⟩ rfl rfl hl.1 rfl (lv_room (Nat.le_of_ble_eq_true rfl)) dX10_setMode_8 ⟨Nat.le_of_ble_eq_true rfl, Nat.le_of_ble_eq_true rfl⟩) hD hS hA (fun _ => rfl) (fun u H locs hw hP hD hS => ?_)
  subst hw
  have hP : va_P (gD g) zCl (wRoot g ad st sv isS zo1 spare undo seen dbef drec ptx plen ppos pcnt cmds stE stF lch llen) H := hP
  have hD : va_D A (wRoot g ad st sv isS zo1 spare undo seen dbef drec ptx plen ppos pcnt cmds stE stF lch llen) := hD
  refine lv_aload_n hx hb dX10_setMode_11 rfl (lv_at hl 0 rfl) ?_
  refine lv_iload_n hx hb dX10_setMode_12 rfl (lv_at hl 1 rfl) ?_
  refine lv_iload_n hx hb dX10_setMode_13 rfl (lv_at hl 2 rfl) ?_
  obtain ⟨zo2, hzo2, hF⟩ := z_bind hF
  refine z_calliXE (fun (u : SS) => (wRoot g ad u sv isS zo1 spare undo seen dbef drec ptx plen ppos pcnt cmds stE stF lch llen)) (fun (x : Nat × (SS)) => (wRoot g ad x.2 sv isS zo1 spare undo seen dbef drec ptx plen ppos pcnt cmds stE stF lch llen)) (fun (x : Nat × (SS)) => xN x.1) (vx_runV (As := [.int p1, .int p2]) (rest := []) ⟨hx, hb, hml, hown, hts⟩ (c_X10_changeMode l hl0 g ad st sv isS zo1 spare undo seen dbef drec ptx plen ppos pcnt cmds stE stF lch llen _ p1 p2 fu _ hzo2) (cwV 2 hts (gdV mU_775 mU_777 mU_11 mU_66 mU_778) rfl rfl rfl (by decide +kernel) ⟨Nat.le_of_ble_eq_true rfl, Nat.le_of_ble_eq_true rfl⟩) ⟨z_blind _ _ _ _, va_recv hK hP (ci := 6) (q0 := 0) rfl rfl, fun U hU hW => z_preE hP hD hK hB hS hA hU hW⟩ rfl rfl hl.1 rfl (lv_room (Nat.le_of_ble_eq_true rfl)) dX10_setMode_14 ⟨Nat.le_of_ble_eq_true rfl, Nat.le_of_ble_eq_true rfl⟩) hD hS hA (fun _ => rfl) (fun _ => rfl) (fun zw2 ce q9 H locs hw hP hD hS hq1 hq2 hq3 => ?_) (fun r u H locs hw hP hD hS => ?_)
  · subst hw
    have hF : _ = some o := hF
    have hP : va_P (gD g) zCl (wRoot g ad zw2.2 sv isS zo1 spare undo seen dbef drec ptx plen ppos pcnt cmds stE stF lch llen) H := hP
    have hD : va_D A (wRoot g ad zw2.2 sv isS zo1 spare undo seen dbef drec ptx plen ppos pcnt cmds stE stF lch llen) := hD
    have hF := z_err hF
    have ho := (Option.some.inj hF).symm
    exact vx_out (fun x hx => (hnx x hx).elim) hlocks hq1 hq2 hq3 (fun t ht hvm => ⟨(zw2.1, (zw2.2, zo1, spare, undo)), ho, ⟨rfl, z_end ht hP⟩, hS.F ht⟩) hS.2.2 (Nat.le_of_ble_eq_true rfl) (Nat.le_of_ble_eq_true rfl)
  · obtain ⟨za2, rfl, rfl, rfl⟩ := hw
    have hF := z_okk hF
    have hP : va_P (gD g) zCl (wRoot g ad za2.2 sv isS zo1 spare undo seen dbef drec ptx plen ppos pcnt cmds stE stF lch llen) H := hP
    have hD : va_D A (wRoot g ad za2.2 sv isS zo1 spare undo seen dbef drec ptx plen ppos pcnt cmds stE stF lch llen) := hD
    refine lv_istore_n (lv' := [(3, .int za2.1), (0, .ref (ad 0)), (1, .int p1), (2, .int p2)]) hx hb dX10_setMode_17 rfl hl (by decide) rfl (fun ls hl => ?_)
    refine lv_aload_n hx hb dX10_setMode_18 rfl (lv_at hl 1 rfl) ?_
    refine va_get (D := gD g) (ci := 6) (v := .ref (ad 11)) (C := RX10) (T := TX10) (N := 9) hx hb hts inX10 hown hK hP 0 rfl rfl 3 (by decide) (hts _ mU_280) (fun _ h9 => h9) rfl dX10_setMode_19 ?_
    obtain ⟨zo3, hzo3, hF⟩ := z_bind hF
    refine z_callvE (fun (u : Int32 × Int32) => (wRoot g ad za2.2 sv isS zo1 u.1 u.2 seen dbef drec ptx plen ppos pcnt cmds stE stF lch llen)) (va_runV (As := []) (rest := []) ⟨hx, hb, hml, hown, hts⟩ (c_X2_keep l g ad za2.2 sv isS zo1 spare undo seen dbef drec ptx plen ppos pcnt cmds stE stF lch llen _ _ hzo3) (cwV 0 hts (gdV mU_664 mU_665 mU_666 mU_68 mU_667) rfl rfl rfl (by decide +kernel) ⟨Nat.le_of_ble_eq_true rfl, Nat.le_of_ble_eq_true rfl⟩) ⟨z_blind _ _ _ _, va_recv hK hP (ci := 1) (q0 := 11) rfl rfl, fun U hU hW => z_preE hP hD hK hB hS hA hU hW⟩ rfl rfl hl.1 rfl (lv_room (Nat.le_of_ble_eq_true rfl)) dX10_setMode_22 ⟨Nat.le_of_ble_eq_true rfl, Nat.le_of_ble_eq_true rfl⟩) hD hS hA (fun _ => rfl) (fun u H locs hw hP hD hS => ?_)
    subst hw
    have hP : va_P (gD g) zCl (wRoot g ad za2.2 sv isS zo1 zo3.1 zo3.2 seen dbef drec ptx plen ppos pcnt cmds stE stF lch llen) H := hP
    have hD : va_D A (wRoot g ad za2.2 sv isS zo1 zo3.1 zo3.2 seen dbef drec ptx plen ppos pcnt cmds stE stF lch llen) := hD
    refine lv_iload_n hx hb dX10_setMode_25 rfl (lv_at hl 0 rfl) ?_
    obtain ⟨zg4, hF⟩ := z_grd hF
    have ho := (Option.some.inj hF).symm
    refine vx_ret ?_
    exact W.zret (v := za2.1) hx hb hr (z_narc (Classical.not_not.mp zg4)).1 (fun t ht hW => ⟨⟨za2.1, (za2.2, zo1, zo3.1, zo3.2), rfl, ⟨_, ho, rfl, rfl⟩, z_end ht hP⟩, hS.F ht⟩) hS.2.2 dX10_setMode_26
abbrev w_X10_roundTogether : List Cond := .code yX10_roundTogether cX10_roundTogether 3 (some .int) :: wU
abbrev r_X10_roundTogether : Room := { frames := 8, cells := 1, slots := 6, locals := 127 }
abbrev q_X10_roundTogether (g : GG) (ad : Nat → Nat) (st : SS) (sv : SS) (isS : Int32) (hst : Nat → SS) (spare : Int32) (undo : Int32) (seen : Nat → Int32) (dbef : Int32) (drec : Int32) (ptx : Nat → Int32) (plen : Int32) (ppos : Int32) (pcnt : Int32) (cmds : Nat → CC) (stE : Int32) (stF : Int32) (lch : Nat → Int32) (llen : Int32) (o : Except (Nat × (SS × (Nat → SS) × Int32 × Int32)) (Int32 × SS × (Nat → SS) × Int32 × Int32)) (A : Nat → Prop) := va_Qi (fun (r : Int32) (u : SS × (Nat → SS) × Int32 × Int32) => ∃ a : Int32 × SS × (Nat → SS) × Int32 × Int32, o = .ok a ∧ a.1 = r ∧ a.2 = u) (fun u t => va_P (gD g) zCl (wRoot g ad u.1 sv isS u.2.1 u.2.2.1 u.2.2.2 seen dbef drec ptx plen ppos pcnt cmds stE stF lch llen) t.heap) A
abbrev x_X10_roundTogether (g : GG) (ad : Nat → Nat) (st : SS) (sv : SS) (isS : Int32) (hst : Nat → SS) (spare : Int32) (undo : Int32) (seen : Nat → Int32) (dbef : Int32) (drec : Int32) (ptx : Nat → Int32) (plen : Int32) (ppos : Int32) (pcnt : Int32) (cmds : Nat → CC) (stE : Int32) (stF : Int32) (lch : Nat → Int32) (llen : Int32) (o : Except (Nat × (SS × (Nat → SS) × Int32 × Int32)) (Int32 × SS × (Nat → SS) × Int32 × Int32)) (A : Nat → Prop) := vx_X (fun (x : Nat × (SS × (Nat → SS) × Int32 × Int32)) => o = .error x) (fun E x t => E = xN x.1 ∧ va_P (gD g) zCl (wRoot g ad x.2.1 sv isS x.2.2.1 x.2.2.2.1 x.2.2.2.2 seen dbef drec ptx plen ppos pcnt cmds stE stF lch llen) t.heap) A
set_option maxHeartbeats 4000000 in
set_option maxRecDepth 100000 in
theorem c_X10_roundTogether (l : Launch) (hl0 : l.stackTraces = false) (g : GG) (ad : Nat → Nat) (st : SS) (sv : SS) (isS : Int32) (hst : Nat → SS) (spare : Int32) (undo : Int32) (seen : Nat → Int32) (dbef : Int32) (drec : Int32) (ptx : Nat → Int32) (plen : Int32) (ppos : Int32) (pcnt : Int32) (cmds : Nat → CC) (stE : Int32) (stF : Int32) (lch : Nat → Int32) (llen : Int32) (sz : Nat) (p1 : Int32) (fu : Nat) (o : Except (Nat × (SS × (Nat → SS) × Int32 × Int32)) (Int32 × SS × (Nat → SS) × Int32 × Int32)) (hF : F_X10_roundTogether fu st hst spare undo p1 = some o) : vx_Met l yX10_roundTogether w_X10_roundTogether r_X10_roundTogether (va_Pc [.ref (ad 0), .int p1] (zP g (wRoot g ad st sv isS hst spare undo seen dbef drec ptx plen ppos pcnt cmds stE stF lch llen) sz)) (q_X10_roundTogether g ad st sv isS hst spare undo seen dbef drec ptx plen ppos pcnt cmds stE stF lch llen o (va_A (wRoot g ad st sv isS hst spare undo seen dbef drec ptx plen ppos pcnt cmds stE stF lch llen) sz)) (x_X10_roundTogether g ad st sv isS hst spare undo seen dbef drec ptx plen ppos pcnt cmds stE stF lch llen o (va_A (wRoot g ad st sv isS hst spare undo seen dbef drec ptx plen ppos pcnt cmds stE stF lch llen) sz)) 1 6 (va_A (wRoot g ad st sv isS hst spare undo seen dbef drec ptx plen ppos pcnt cmds stE stF lch llen) sz) := by
  refine vx_ofW (cc := cX10_roundTogether) (maxL := 3) (ret := (some .int)) (by decide) rfl ?_
  intro p e s m args below meth c s₁ B hml hnx hv
  obtain ⟨rfl, rfl, hP, hK, hD0, hB⟩ := hv
  have hx := B.exec
  have hb := B.bytes
  have hr := B.returns
  have hts : ∀ w ∈ wU, w.before _ s = true := fun w h => atoms_spec (ws := w_X10_roundTogether) B.pre w (List.mem_cons_of_mem _ h)
  have hown : s.vm.findClass RX10 = some m.cls := findClass_of_methodNamed B.named
  have hlocks := B.notSynchronized
  have hD := hD0.self (sz := s.heap.size)
  generalize hAe : va_A (wRoot g ad st sv isS hst spare undo seen dbef drec ptx plen ppos pcnt cmds stE stF lch llen) s.heap.size = A at hD hB ⊢
  have hA : ∀ q : Nat, s.heap.size ≤ q → A q := fun q h => by rw [← hAe]; exact Or.inr h
  have hS : va_S A s.heap s.heap [] := va_S.rf
  have hl := lv_entry ([.ref (ad 0), .int p1]) (n := 3) (Nat.le_of_ble_eq_true rfl)
  rw [lg_entry_eq]
  generalize (lg_sl ([.ref (ad 0), .int p1]) ++ List.replicate (3 - (lg_sl ([.ref (ad 0), .int p1])).length) Slot.unset).toArray = ls at hl ⊢
  have hl : lv_has ls 3 [(0, .ref (ad 0)), (1, .int p1)] := hl
  unfold F_X10_roundTogether at hF
  refine lv_aload_n hx hb dX10_roundTogether_0 rfl (lv_at hl 0 rfl) ?_
  refine va_get (D := gD g) (ci := 6) (v := .ref (ad 11)) (C := RX10) (T := TX10) (N := 9) hx hb hts inX10 hown hK hP 0 rfl rfl 3 (by decide) (hts _ mU_280) (fun _ h9 => h9) rfl dX10_roundTogether_1 ?_
  refine lv_aload_n hx hb dX10_roundTogether_4 rfl (lv_at hl 0 rfl) ?_
  refine va_get (D := gD g) (ci := 6) (v := .ref (ad 1)) (C := RX10) (T := TX10) (N := 9) hx hb hts inX10 hown hK hP 0 rfl rfl 0 (by decide) (hts _ mU_277) (fun _ h9 => h9) rfl dX10_roundTogether_5 ?_
  obtain ⟨zo1, hzo1, hF⟩ := z_bind hF
  refine z_callvE (fun (u : (Nat → SS)) => (wRoot g ad st sv isS u spare undo seen dbef drec ptx plen ppos pcnt cmds stE stF lch llen)) (va_runV (As := [.ref (ad 1)]) (rest := []) ⟨hx, hb, hml, hown, hts⟩ (c_X2_remember l g ad st sv isS hst spare undo seen dbef drec ptx plen ppos pcnt cmds stE stF lch llen _ _ hzo1) (cwV 1 hts (gdV mU_443 mU_444 mU_445 mU_68 mU_446) rfl rfl rfl (by decide +kernel) ⟨Nat.le_of_ble_eq_true rfl, Nat.le_of_ble_eq_true rfl⟩) ⟨z_blind _ _ _ _, va_recv hK hP (ci := 1) (q0 := 11) rfl rfl, fun U hU hW => z_preE hP hD hK hB hS hA hU hW⟩ rfl rfl hl.1 rfl (lv_room (Nat.le_of_ble_eq_true rfl)) dX10_roundTogether_8 ⟨Nat.le_of_ble_eq_true rfl, Nat.le_of_ble_eq_true rfl⟩) hD hS hA (fun _ => rfl) (fun u H locs hw hP hD hS => ?_)
  subst hw
  have hP : va_P (gD g) zCl (wRoot g ad st sv isS zo1 spare undo seen dbef drec ptx plen ppos pcnt cmds stE stF lch llen) H := hP
  have hD : va_D A (wRoot g ad st sv isS zo1 spare undo seen dbef drec ptx plen ppos pcnt cmds stE stF lch llen) := hD
  refine lv_aload_n hx hb dX10_roundTogether_11 rfl (lv_at hl 0 rfl) ?_
  refine lv_iload_n hx hb dX10_roundTogether_12 rfl (lv_at hl 1 rfl) ?_
  obtain ⟨zo2, hzo2, hF⟩ := z_bind hF
  refine z_calliXE (fun (u : SS) => (wRoot g ad u sv isS zo1 spare undo seen dbef drec ptx plen ppos pcnt cmds stE stF lch llen)) (fun (x : Nat × (SS)) => (wRoot g ad x.2 sv isS zo1 spare undo seen dbef drec ptx plen ppos pcnt cmds stE stF lch llen)) (fun (x : Nat × (SS)) => xN x.1) (vx_runV (As := [.int p1]) (rest := []) ⟨hx, hb, hml, hown, hts⟩ (c_X10_roundAll l hl0 g ad st sv isS zo1 spare undo seen dbef drec ptx plen ppos pcnt cmds stE stF lch llen _ p1 fu _ hzo2) (cwV 1 hts (gdV mU_786 mU_788 mU_12 mU_66 mU_789) rfl rfl rfl (by decide +kernel) ⟨Nat.le_of_ble_eq_true rfl, Nat.le_of_ble_eq_true rfl⟩) ⟨z_blind _ _ _ _, va_recv hK hP (ci := 6) (q0 := 0) rfl rfl, fun U hU hW => z_preE hP hD hK hB hS hA hU hW⟩ rfl rfl hl.1 rfl (lv_room (Nat.le_of_ble_eq_true rfl)) dX10_roundTogether_13 ⟨Nat.le_of_ble_eq_true rfl, Nat.le_of_ble_eq_true rfl⟩) hD hS hA (fun _ => rfl) (fun _ => rfl) (fun zw2 ce q9 H locs hw hP hD hS hq1 hq2 hq3 => ?_) (fun r u H locs hw hP hD hS => ?_)
  · subst hw
    have hF : _ = some o := hF
    have hP : va_P (gD g) zCl (wRoot g ad zw2.2 sv isS zo1 spare undo seen dbef drec ptx plen ppos pcnt cmds stE stF lch llen) H := hP
    have hD : va_D A (wRoot g ad zw2.2 sv isS zo1 spare undo seen dbef drec ptx plen ppos pcnt cmds stE stF lch llen) := hD
    have hF := z_err hF
    have ho := (Option.some.inj hF).symm
    exact vx_out (fun x hx => (hnx x hx).elim) hlocks hq1 hq2 hq3 (fun t ht hvm => ⟨(zw2.1, (zw2.2, zo1, spare, undo)), ho, ⟨rfl, z_end ht hP⟩, hS.F ht⟩) hS.2.2 (Nat.le_of_ble_eq_true rfl) (Nat.le_of_ble_eq_true rfl)
  · obtain ⟨za2, rfl, rfl, rfl⟩ := hw
    have hF := z_okk hF
    have hP : va_P (gD g) zCl (wRoot g ad za2.2 sv isS zo1 spare undo seen dbef drec ptx plen ppos pcnt cmds stE stF lch llen) H := hP
    have hD : va_D A (wRoot g ad za2.2 sv isS zo1 spare undo seen dbef drec ptx plen ppos pcnt cmds stE stF lch llen) := hD
    refine lv_istore_n (lv' := [(2, .int za2.1), (0, .ref (ad 0)), (1, .int p1)]) hx hb dX10_roundTogether_16 rfl hl (by decide) rfl (fun ls hl => ?_)
    refine lv_aload_n hx hb dX10_roundTogether_17 rfl (lv_at hl 1 rfl) ?_
    refine va_get (D := gD g) (ci := 6) (v := .ref (ad 11)) (C := RX10) (T := TX10) (N := 9) hx hb hts inX10 hown hK hP 0 rfl rfl 3 (by decide) (hts _ mU_280) (fun _ h9 => h9) rfl dX10_roundTogether_18 ?_
    obtain ⟨zo3, hzo3, hF⟩ := z_bind hF
    refine z_callvE (fun (u : Int32 × Int32) => (wRoot g ad za2.2 sv isS zo1 u.1 u.2 seen dbef drec ptx plen ppos pcnt cmds stE stF lch llen)) (va_runV (As := []) (rest := []) ⟨hx, hb, hml, hown, hts⟩ (c_X2_keep l g ad za2.2 sv isS zo1 spare undo seen dbef drec ptx plen ppos pcnt cmds stE stF lch llen _ _ hzo3) (cwV 0 hts (gdV mU_664 mU_665 mU_666 mU_68 mU_667) rfl rfl rfl (by decide +kernel) ⟨Nat.le_of_ble_eq_true rfl, Nat.le_of_ble_eq_true rfl⟩) ⟨z_blind _ _ _ _, va_recv hK hP (ci := 1) (q0 := 11) rfl rfl, fun U hU hW => z_preE hP hD hK hB hS hA hU hW⟩ rfl rfl hl.1 rfl (lv_room (Nat.le_of_ble_eq_true rfl)) dX10_roundTogether_21 ⟨Nat.le_of_ble_eq_true rfl, Nat.le_of_ble_eq_true rfl⟩) hD hS hA (fun _ => rfl) (fun u H locs hw hP hD hS => ?_)
    subst hw
    have hP : va_P (gD g) zCl (wRoot g ad za2.2 sv isS zo1 zo3.1 zo3.2 seen dbef drec ptx plen ppos pcnt cmds stE stF lch llen) H := hP
    have hD : va_D A (wRoot g ad za2.2 sv isS zo1 zo3.1 zo3.2 seen dbef drec ptx plen ppos pcnt cmds stE stF lch llen) := hD
    refine lv_iload_n hx hb dX10_roundTogether_24 rfl (lv_at hl 0 rfl) ?_
    have ho := (Option.some.inj hF).symm
    refine vx_ret ?_
    exact W.iret (v := za2.1) hx hb hr (fun t ht hW => ⟨⟨za2.1, (za2.2, zo1, zo3.1, zo3.2), rfl, ⟨_, ho, rfl, rfl⟩, z_end ht hP⟩, hS.F ht⟩) hS.2.2 dX10_roundTogether_25
abbrev w_X10_undo : List Cond := .code yX10_undo cX10_undo 1 (some .int) :: wU
abbrev r_X10_undo : Room := { frames := 6, cells := 1, slots := 6, locals := 123 }
abbrev q_X10_undo (g : GG) (ad : Nat → Nat) (st : SS) (sv : SS) (isS : Int32) (hst : Nat → SS) (spare : Int32) (undo : Int32) (seen : Nat → Int32) (dbef : Int32) (drec : Int32) (ptx : Nat → Int32) (plen : Int32) (ppos : Int32) (pcnt : Int32) (cmds : Nat → CC) (stE : Int32) (stF : Int32) (lch : Nat → Int32) (llen : Int32) (o : Except (Nat × (SS × Int32 × Int32)) (Int32 × SS × Int32 × Int32)) (A : Nat → Prop) := va_Qi (fun (r : Int32) (u : SS × Int32 × Int32) => ∃ a : Int32 × SS × Int32 × Int32, o = .ok a ∧ a.1 = r ∧ a.2 = u) (fun u t => va_P (gD g) zCl (wRoot g ad u.1 sv isS hst u.2.1 u.2.2 seen dbef drec ptx plen ppos pcnt cmds stE stF lch llen) t.heap) A
abbrev x_X10_undo (g : GG) (ad : Nat → Nat) (st : SS) (sv : SS) (isS : Int32) (hst : Nat → SS) (spare : Int32) (undo : Int32) (seen : Nat → Int32) (dbef : Int32) (drec : Int32) (ptx : Nat → Int32) (plen : Int32) (ppos : Int32) (pcnt : Int32) (cmds : Nat → CC) (stE : Int32) (stF : Int32) (lch : Nat → Int32) (llen : Int32) (o : Except (Nat × (SS × Int32 × Int32)) (Int32 × SS × Int32 × Int32)) (A : Nat → Prop) := vx_X (fun (x : Nat × (SS × Int32 × Int32)) => o = .error x) (fun E x t => E = xN x.1 ∧ va_P (gD g) zCl (wRoot g ad x.2.1 sv isS hst x.2.2.1 x.2.2.2 seen dbef drec ptx plen ppos pcnt cmds stE stF lch llen) t.heap) A
set_option maxHeartbeats 4000000 in
set_option maxRecDepth 100000 in
theorem c_X10_undo (l : Launch) (hl0 : l.stackTraces = false) (g : GG) (ad : Nat → Nat) (st : SS) (sv : SS) (isS : Int32) (hst : Nat → SS) (spare : Int32) (undo : Int32) (seen : Nat → Int32) (dbef : Int32) (drec : Int32) (ptx : Nat → Int32) (plen : Int32) (ppos : Int32) (pcnt : Int32) (cmds : Nat → CC) (stE : Int32) (stF : Int32) (lch : Nat → Int32) (llen : Int32) (sz : Nat) (o : Except (Nat × (SS × Int32 × Int32)) (Int32 × SS × Int32 × Int32)) (hF : F_X10_undo st hst spare undo = some o) : vx_Met l yX10_undo w_X10_undo r_X10_undo (va_Pc [.ref (ad 0)] (zP g (wRoot g ad st sv isS hst spare undo seen dbef drec ptx plen ppos pcnt cmds stE stF lch llen) sz)) (q_X10_undo g ad st sv isS hst spare undo seen dbef drec ptx plen ppos pcnt cmds stE stF lch llen o (va_A (wRoot g ad st sv isS hst spare undo seen dbef drec ptx plen ppos pcnt cmds stE stF lch llen) sz)) (x_X10_undo g ad st sv isS hst spare undo seen dbef drec ptx plen ppos pcnt cmds stE stF lch llen o (va_A (wRoot g ad st sv isS hst spare undo seen dbef drec ptx plen ppos pcnt cmds stE stF lch llen) sz)) 1 6 (va_A (wRoot g ad st sv isS hst spare undo seen dbef drec ptx plen ppos pcnt cmds stE stF lch llen) sz) := by
  refine vx_ofW (cc := cX10_undo) (maxL := 1) (ret := (some .int)) (by decide) rfl ?_
  intro p e s m args below meth c s₁ B hml hnx hv
  obtain ⟨rfl, rfl, hP, hK, hD0, hB⟩ := hv
  have hx := B.exec
  have hb := B.bytes
  have hr := B.returns
  have hts : ∀ w ∈ wU, w.before _ s = true := fun w h => atoms_spec (ws := w_X10_undo) B.pre w (List.mem_cons_of_mem _ h)
  have hown : s.vm.findClass RX10 = some m.cls := findClass_of_methodNamed B.named
  have hlocks := B.notSynchronized
  have hD := hD0.self (sz := s.heap.size)
  generalize hAe : va_A (wRoot g ad st sv isS hst spare undo seen dbef drec ptx plen ppos pcnt cmds stE stF lch llen) s.heap.size = A at hD hB ⊢
  have hA : ∀ q : Nat, s.heap.size ≤ q → A q := fun q h => by rw [← hAe]; exact Or.inr h
  have hS : va_S A s.heap s.heap [] := va_S.rf
  have hl := lv_entry ([.ref (ad 0)]) (n := 1) (Nat.le_of_ble_eq_true rfl)
  rw [lg_entry_eq]
  generalize (lg_sl ([.ref (ad 0)]) ++ List.replicate (1 - (lg_sl ([.ref (ad 0)])).length) Slot.unset).toArray = ls at hl ⊢
  have hl : lv_has ls 1 [(0, .ref (ad 0))] := hl
  unfold F_X10_undo at hF
  refine lv_aload_n hx hb dX10_undo_0 rfl (lv_at hl 0 rfl) ?_
  refine va_get (D := gD g) (ci := 6) (v := .ref (ad 11)) (C := RX10) (T := TX10) (N := 9) hx hb hts inX10 hown hK hP 0 rfl rfl 3 (by decide) (hts _ mU_280) (fun _ h9 => h9) rfl dX10_undo_1 ?_
  refine va_getN (D := gD g) (ci := 1) (v := .int undo) (C := RX2) (T := TX2) (N := 3) hx hb hts inX2 hown hK hP 11 rfl rfl 2 (by decide) (va_Nw.use rfl (hB.2.1.1 _ zn_171)) (fun _ h9 => h9) rfl dX10_undo_4 ?_
  refine lv_if_ne (tgt := 21) hx hb dX10_undo_7 (by decide) (fun zc1 => ?_) (fun zc1 => ?_)
  · have hF := z_neg hF zc1
    refine lv_aload_n hx hb dX10_undo_21 rfl (lv_at hl 0 rfl) ?_
    refine va_get (D := gD g) (ci := 6) (v := .ref (ad 11)) (C := RX10) (T := TX10) (N := 9) hx hb hts inX10 hown hK hP 0 rfl rfl 3 (by decide) (hts _ mU_280) (fun _ h9 => h9) rfl dX10_undo_22 ?_
    refine lv_aload_n hx hb dX10_undo_25 rfl (lv_at hl 0 rfl) ?_
    refine va_get (D := gD g) (ci := 6) (v := .ref (ad 1)) (C := RX10) (T := TX10) (N := 9) hx hb hts inX10 hown hK hP 0 rfl rfl 0 (by decide) (hts _ mU_277) (fun _ h9 => h9) rfl dX10_undo_26 ?_
    obtain ⟨zo2, hzo2, hF⟩ := z_bind hF
    refine z_callvE (fun (u : SS × Int32 × Int32) => (wRoot g ad u.1 sv isS hst u.2.1 u.2.2 seen dbef drec ptx plen ppos pcnt cmds stE stF lch llen)) (va_runV (As := [.ref (ad 1)]) (rest := []) ⟨hx, hb, hml, hown, hts⟩ (c_X2_goBack l g ad st sv isS hst spare undo seen dbef drec ptx plen ppos pcnt cmds stE stF lch llen _ _ hzo2) (cwV 1 hts (gdV mU_1225 mU_1226 mU_1227 mU_68 mU_1228) rfl rfl rfl (by decide +kernel) ⟨Nat.le_of_ble_eq_true rfl, Nat.le_of_ble_eq_true rfl⟩) ⟨z_blind _ _ _ _, va_recv hK hP (ci := 1) (q0 := 11) rfl rfl, fun U hU hW => z_preE hP hD hK hB hS hA hU hW⟩ rfl rfl hl.1 rfl (lv_room (Nat.le_of_ble_eq_true rfl)) dX10_undo_29 ⟨Nat.le_of_ble_eq_true rfl, Nat.le_of_ble_eq_true rfl⟩) hD hS hA (fun _ => rfl) (fun u H locs hw hP hD hS => ?_)
    subst hw
    have hP : va_P (gD g) zCl (wRoot g ad zo2.1 sv isS hst zo2.2.1 zo2.2.2 seen dbef drec ptx plen ppos pcnt cmds stE stF lch llen) H := hP
    have hD : va_D A (wRoot g ad zo2.1 sv isS hst zo2.2.1 zo2.2.2 seen dbef drec ptx plen ppos pcnt cmds stE stF lch llen) := hD
    refine lv_aload_n hx hb dX10_undo_32 rfl (lv_at hl 0 rfl) ?_
    refine va_get (D := gD g) (ci := 6) (v := .ref (ad 11)) (C := RX10) (T := TX10) (N := 9) hx hb hts inX10 hown hK hP 0 rfl rfl 3 (by decide) (hts _ mU_280) (fun _ h9 => h9) rfl dX10_undo_33 ?_
    refine va_getN (D := gD g) (ci := 1) (v := .int zo2.2.2) (C := RX2) (T := TX2) (N := 3) hx hb hts inX2 hown hK hP 11 rfl rfl 2 (by decide) (va_Nw.use rfl (hB.2.1.1 _ zn_171)) (fun _ h9 => h9) rfl dX10_undo_36 ?_
    have ho := (Option.some.inj hF).symm
    refine vx_ret ?_
    refine W.widen (k := 1) (n := 6) (Nat.le_of_ble_eq_true rfl) (Nat.le_of_ble_eq_true rfl) ?_
    exact W.iret (v := zo2.2.2) hx hb hr (fun t ht hW => ⟨⟨zo2.2.2, (zo2.1, zo2.2.1, zo2.2.2), rfl, ⟨_, ho, rfl, rfl⟩, z_end ht hP⟩, hS.F ht⟩) hS.2.2 dX10_undo_39
  · have hF := z_pos hF zc1
    have ho := (Option.some.inj hF).symm
    obtain ⟨sa, hsa⟩ := hB.2.1.2.2.1 (406, "no call can be undone") (by decide +kernel)
    exact vx_throwSW hx hb hl0 (own := RX10) (cls := "java/lang/IllegalStateException") (text := "no call can be undone") (names := ["java/lang/RuntimeException", "java/lang/Exception"]) hown (by decide +kernel) (by decide +kernel) (hts _ mU_627) (hts _ mU_87) hsa (zat_161 hts hB) zgo_161 hB.1.1 hB.1.2 hS (hl.1.trans hml.symm) dX10_undo_10 dX10_undo_13 dX10_undo_14 dX10_undo_17 dX10_undo_20 (fun x hx => (hnx x hx).elim) (Nat.le_of_ble_eq_true rfl) (Nat.le_of_ble_eq_true rfl) (Nat.le_of_ble_eq_true rfl) (Nat.le_of_ble_eq_true rfl) hlocks (fun t ha hz hk => ⟨(1, (st, spare, undo)), ho, ⟨rfl, (z_thr hP hS hz hk).1⟩, (z_thr hP hS hz hk).2⟩) hS.2.2 (Nat.le_of_ble_eq_true rfl) (Nat.le_of_ble_eq_true rfl)
abbrev w_X10_restore : List Cond := .code yX10_restore cX10_restore 1 none :: wU
abbrev r_X10_restore : Room := { frames := 6, cells := 1, slots := 6, locals := 82 }
abbrev q_X10_restore (g : GG) (ad : Nat → Nat) (st : SS) (sv : SS) (isS : Int32) (hst : Nat → SS) (spare : Int32) (undo : Int32) (seen : Nat → Int32) (dbef : Int32) (drec : Int32) (ptx : Nat → Int32) (plen : Int32) (ppos : Int32) (pcnt : Int32) (cmds : Nat → CC) (stE : Int32) (stF : Int32) (lch : Nat → Int32) (llen : Int32) (o : Except (Nat × (SS × Int32)) (SS × Int32)) (A : Nat → Prop) := va_Qv (fun (u : SS × Int32) => ∃ a : SS × Int32, o = .ok a ∧ a = u) (fun u t => va_P (gD g) zCl (wRoot g ad u.1 sv isS hst spare u.2 seen dbef drec ptx plen ppos pcnt cmds stE stF lch llen) t.heap) A
abbrev x_X10_restore (g : GG) (ad : Nat → Nat) (st : SS) (sv : SS) (isS : Int32) (hst : Nat → SS) (spare : Int32) (undo : Int32) (seen : Nat → Int32) (dbef : Int32) (drec : Int32) (ptx : Nat → Int32) (plen : Int32) (ppos : Int32) (pcnt : Int32) (cmds : Nat → CC) (stE : Int32) (stF : Int32) (lch : Nat → Int32) (llen : Int32) (o : Except (Nat × (SS × Int32)) (SS × Int32)) (A : Nat → Prop) := vx_X (fun (x : Nat × (SS × Int32)) => o = .error x) (fun E x t => E = xN x.1 ∧ va_P (gD g) zCl (wRoot g ad x.2.1 sv isS hst spare x.2.2 seen dbef drec ptx plen ppos pcnt cmds stE stF lch llen) t.heap) A
set_option maxHeartbeats 4000000 in
set_option maxRecDepth 100000 in
theorem c_X10_restore (l : Launch) (hl0 : l.stackTraces = false) (g : GG) (ad : Nat → Nat) (st : SS) (sv : SS) (isS : Int32) (hst : Nat → SS) (spare : Int32) (undo : Int32) (seen : Nat → Int32) (dbef : Int32) (drec : Int32) (ptx : Nat → Int32) (plen : Int32) (ppos : Int32) (pcnt : Int32) (cmds : Nat → CC) (stE : Int32) (stF : Int32) (lch : Nat → Int32) (llen : Int32) (sz : Nat) (o : Except (Nat × (SS × Int32)) (SS × Int32)) (hF : F_X10_restore st sv isS undo = some o) : vx_Met l yX10_restore w_X10_restore r_X10_restore (va_Pc [.ref (ad 0)] (zP g (wRoot g ad st sv isS hst spare undo seen dbef drec ptx plen ppos pcnt cmds stE stF lch llen) sz)) (q_X10_restore g ad st sv isS hst spare undo seen dbef drec ptx plen ppos pcnt cmds stE stF lch llen o (va_A (wRoot g ad st sv isS hst spare undo seen dbef drec ptx plen ppos pcnt cmds stE stF lch llen) sz)) (x_X10_restore g ad st sv isS hst spare undo seen dbef drec ptx plen ppos pcnt cmds stE stF lch llen o (va_A (wRoot g ad st sv isS hst spare undo seen dbef drec ptx plen ppos pcnt cmds stE stF lch llen) sz)) 1 6 (va_A (wRoot g ad st sv isS hst spare undo seen dbef drec ptx plen ppos pcnt cmds stE stF lch llen) sz) := by
  refine vx_ofW (cc := cX10_restore) (maxL := 1) (ret := none) (by decide) rfl ?_
  intro p e s m args below meth c s₁ B hml hnx hv
  obtain ⟨rfl, rfl, hP, hK, hD0, hB⟩ := hv
  have hx := B.exec
  have hb := B.bytes
  have hr := B.returns
  have hts : ∀ w ∈ wU, w.before _ s = true := fun w h => atoms_spec (ws := w_X10_restore) B.pre w (List.mem_cons_of_mem _ h)
  have hown : s.vm.findClass RX10 = some m.cls := findClass_of_methodNamed B.named
  have hlocks := B.notSynchronized
  have hD := hD0.self (sz := s.heap.size)
  generalize hAe : va_A (wRoot g ad st sv isS hst spare undo seen dbef drec ptx plen ppos pcnt cmds stE stF lch llen) s.heap.size = A at hD hB ⊢
  have hA : ∀ q : Nat, s.heap.size ≤ q → A q := fun q h => by rw [← hAe]; exact Or.inr h
  have hS : va_S A s.heap s.heap [] := va_S.rf
  have hl := lv_entry ([.ref (ad 0)]) (n := 1) (Nat.le_of_ble_eq_true rfl)
  rw [lg_entry_eq]
  generalize (lg_sl ([.ref (ad 0)]) ++ List.replicate (1 - (lg_sl ([.ref (ad 0)])).length) Slot.unset).toArray = ls at hl ⊢
  have hl : lv_has ls 1 [(0, .ref (ad 0))] := hl
  unfold F_X10_restore at hF
  refine lv_aload_n hx hb dX10_restore_0 rfl (lv_at hl 0 rfl) ?_
  refine va_get (D := gD g) (ci := 6) (v := .int isS) (C := RX10) (T := TX10) (N := 9) hx hb hts inX10 hown hK hP 0 rfl rfl 2 (by decide) (hts _ mU_279) (fun _ h9 => h9) rfl dX10_restore_1 ?_
  refine lv_if_ne (tgt := 18) hx hb dX10_restore_4 (by decide) (fun zc1 => ?_) (fun zc1 => ?_)
  · have hF := z_neg hF zc1
    refine lv_aload_n hx hb dX10_restore_18 rfl (lv_at hl 0 rfl) ?_
    refine va_get (D := gD g) (ci := 6) (v := .ref (ad 1)) (C := RX10) (T := TX10) (N := 9) hx hb hts inX10 hown hK hP 0 rfl rfl 0 (by decide) (hts _ mU_277) (fun _ h9 => h9) rfl dX10_restore_19 ?_
    refine lv_aload_n hx hb dX10_restore_22 rfl (lv_at hl 0 rfl) ?_
    refine va_get (D := gD g) (ci := 6) (v := .ref (ad 6)) (C := RX10) (T := TX10) (N := 9) hx hb hts inX10 hown hK hP 0 rfl rfl 1 (by decide) (hts _ mU_278) (fun _ h9 => h9) rfl dX10_restore_23 ?_
    obtain ⟨zo2, hzo2, hF⟩ := z_bind hF
    refine z_callv (fun (u : SS) => (wState2 g (ad 1) (ad 2) (ad 3) (ad 4) (ad 5) (ad 6) (ad 7) (ad 8) (ad 9) (ad 10) u sv)) [1, 2, 3, 4, 5, 6, 7, 8, 9, 10] (va_runV (As := [.ref (ad 6)]) (rest := []) ⟨hx, hb, hml, hown, hts⟩ (c_X8_copyFrom l g (ad 1) (ad 2) (ad 3) (ad 4) (ad 5) (ad 6) (ad 7) (ad 8) (ad 9) (ad 10) st sv _ _ hzo2) (cwV 1 hts (gdV mU_426 mU_427 mU_428 mU_67 mU_429) rfl rfl rfl (by decide +kernel) ⟨Nat.le_of_ble_eq_true rfl, Nat.le_of_ble_eq_true rfl⟩) ⟨z_blind _ _ _ _, va_recv hK hP (ci := 5) (q0 := 1) rfl rfl, fun U hU hW => z_pre [1, 2, 3, 4, 5, 6, 7, 8, 9, 10] hP hD hK hB hS hA rfl rfl hU hW⟩ rfl rfl hl.1 rfl (lv_room (Nat.le_of_ble_eq_true rfl)) dX10_restore_26 ⟨Nat.le_of_ble_eq_true rfl, Nat.le_of_ble_eq_true rfl⟩) hP hD hS hA rfl (fun _ => rfl) (fun u H locs hw hP hD hS => ?_)
    subst hw
    have hP : va_P (gD g) zCl (wRoot g ad zo2 sv isS hst spare undo seen dbef drec ptx plen ppos pcnt cmds stE stF lch llen) H := hP
    have hD : va_D A (wRoot g ad zo2 sv isS hst spare undo seen dbef drec ptx plen ppos pcnt cmds stE stF lch llen) := hD
    refine lv_aload_n hx hb dX10_restore_29 rfl (lv_at hl 0 rfl) ?_
    refine va_get (D := gD g) (ci := 6) (v := .ref (ad 11)) (C := RX10) (T := TX10) (N := 9) hx hb hts inX10 hown hK hP 0 rfl rfl 3 (by decide) (hts _ mU_280) (fun _ h9 => h9) rfl dX10_restore_30 ?_
    refine lv_iconst (v := 0) hx hb dX10_restore_33 (by decide) ?_
    refine va_putN (D := gD g) (ci := 1) (v := .int 0) (ty := .int) (C := RX2) (T := TX2) (N := 3) hx hb hts inX2 tyX2 tyX2_ok nmX2 hown hK hP hD hS 11 rfl rfl 2 (by decide) (va_Nw.use rfl (hB.2.1.1 _ zn_171)) (fun _ h9 => h9) rfl (by decide +kernel) rfl rfl (Nat.le_of_ble_eq_true rfl) dX10_restore_34 (fun H locs hP hD hS => ?_)
    have hP : va_P (gD g) zCl (wRoot g ad zo2 sv isS hst spare 0 seen dbef drec ptx plen ppos pcnt cmds stE stF lch llen) H := hP
    have hD : va_D A (wRoot g ad zo2 sv isS hst spare 0 seen dbef drec ptx plen ppos pcnt cmds stE stF lch llen) := hD
    have ho := (Option.some.inj hF).symm
    refine vx_ret ?_
    refine W.widen (k := 1) (n := 6) (Nat.le_of_ble_eq_true rfl) (Nat.le_of_ble_eq_true rfl) ?_
    exact W.vret hx hb hr (fun t ht hW => ⟨⟨(zo2, 0), rfl, ⟨_, ho, rfl⟩, z_end ht hP⟩, hS.F ht⟩) hS.2.2 dX10_restore_37
  · have hF := z_pos hF zc1
    have ho := (Option.some.inj hF).symm
    obtain ⟨sa, hsa⟩ := hB.2.1.2.2.1 (418, "no state was saved") (by decide +kernel)
    exact vx_throwSW hx hb hl0 (own := RX10) (cls := "java/lang/IllegalStateException") (text := "no state was saved") (names := ["java/lang/RuntimeException", "java/lang/Exception"]) hown (by decide +kernel) (by decide +kernel) (hts _ mU_627) (hts _ mU_87) hsa (zat_161 hts hB) zgo_161 hB.1.1 hB.1.2 hS (hl.1.trans hml.symm) dX10_restore_7 dX10_restore_10 dX10_restore_11 dX10_restore_14 dX10_restore_17 (fun x hx => (hnx x hx).elim) (Nat.le_of_ble_eq_true rfl) (Nat.le_of_ble_eq_true rfl) (Nat.le_of_ble_eq_true rfl) (Nat.le_of_ble_eq_true rfl) hlocks (fun t ha hz hk => ⟨(1, (st, undo)), ho, ⟨rfl, (z_thr hP hS hz hk).1⟩, (z_thr hP hS hz hk).2⟩) hS.2.2 (Nat.le_of_ble_eq_true rfl) (Nat.le_of_ble_eq_true rfl)
