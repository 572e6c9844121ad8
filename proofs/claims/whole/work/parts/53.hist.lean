abbrev w_X2_remember : List Cond := .code yX2_remember cX2_remember 2 none :: wU
abbrev r_X2_remember : Room := { frames := 2, cells := 0, slots := 0, locals := 81 }
abbrev q_X2_remember (g : GG) (ad : Nat → Nat) (st : SS) (sv : SS) (isS : Int32) (hst : Nat → SS) (spare : Int32) (undo : Int32) (seen : Nat → Int32) (dbef : Int32) (drec : Int32) (ptx : Nat → Int32) (plen : Int32) (ppos : Int32) (pcnt : Int32) (cmds : Nat → CC) (stE : Int32) (stF : Int32) (lch : Nat → Int32) (llen : Int32) (o : (Nat → SS)) (A : Nat → Prop) := va_Qv (fun (u : (Nat → SS)) => o = u) (fun u t => va_P (gD g) zCl (wRoot g ad st sv isS u spare undo seen dbef drec ptx plen ppos pcnt cmds stE stF lch llen) t.heap) A
set_option maxHeartbeats 4000000 in
set_option maxRecDepth 100000 in
theorem c_X2_remember (l : Launch) (g : GG) (ad : Nat → Nat) (st : SS) (sv : SS) (isS : Int32) (hst : Nat → SS) (spare : Int32) (undo : Int32) (seen : Nat → Int32) (dbef : Int32) (drec : Int32) (ptx : Nat → Int32) (plen : Int32) (ppos : Int32) (pcnt : Int32) (cmds : Nat → CC) (stE : Int32) (stF : Int32) (lch : Nat → Int32) (llen : Int32) (sz : Nat) (o : (Nat → SS)) (hF : F_X2_remember st hst spare = some o) : Met l yX2_remember w_X2_remember r_X2_remember (va_Pc [.ref (ad 11), .ref (ad 1)] (zP g (wRoot g ad st sv isS hst spare undo seen dbef drec ptx plen ppos pcnt cmds stE stF lch llen) sz)) (q_X2_remember g ad st sv isS hst spare undo seen dbef drec ptx plen ppos pcnt cmds stE stF lch llen o (va_A (wRoot g ad st sv isS hst spare undo seen dbef drec ptx plen ppos pcnt cmds stE stF lch llen) sz)) 0 0 (va_A (wRoot g ad st sv isS hst spare undo seen dbef drec ptx plen ppos pcnt cmds stE stF lch llen) sz) := by
  refine Met.ofW (cc := cX2_remember) (maxL := 2) (ret := none) (by decide) rfl ?_
  intro p e s m args below meth c s₁ B hml hv
  obtain ⟨rfl, rfl, hP, hK, hD0, hB⟩ := hv
  have hx := B.exec
  have hb := B.bytes
  have hr := B.returns
  have hts : ∀ w ∈ wU, w.before _ s = true := fun w h => atoms_spec (ws := w_X2_remember) B.pre w (List.mem_cons_of_mem _ h)
  have hown : s.vm.findClass RX2 = some m.cls := findClass_of_methodNamed B.named
  have hlocks := B.notSynchronized
  have hD := hD0.self (sz := s.heap.size)
  generalize hAe : va_A (wRoot g ad st sv isS hst spare undo seen dbef drec ptx plen ppos pcnt cmds stE stF lch llen) s.heap.size = A at hD hB ⊢
  have hA : ∀ q : Nat, s.heap.size ≤ q → A q := fun q h => by rw [← hAe]; exact Or.inr h
  have hS : va_S A s.heap s.heap [] := va_S.rf
  have hl := lv_entry ([.ref (ad 11), .ref (ad 1)]) (n := 2) (Nat.le_of_ble_eq_true rfl)
  rw [lg_entry_eq]
  generalize (lg_sl ([.ref (ad 11), .ref (ad 1)]) ++ List.replicate (2 - (lg_sl ([.ref (ad 11), .ref (ad 1)])).length) Slot.unset).toArray = ls at hl ⊢
  have hl : lv_has ls 2 [(0, .ref (ad 11)), (1, .ref (ad 1))] := hl
  unfold F_X2_remember at hF
  refine lv_aload_n hx hb dX2_remember_0 rfl (lv_at hl 0 rfl) ?_
  refine va_get (D := gD g) (ci := 1) (v := .ref (ad 12)) (C := RX2) (T := TX2) (N := 3) hx hb hts inX2 hown hK hP 11 rfl rfl 0 (by decide) (hts _ mU_168) (fun _ h9 => h9) rfl dX2_remember_1 ?_
  refine lv_aload_n hx hb dX2_remember_4 rfl (lv_at hl 0 rfl) ?_
  refine va_get (D := gD g) (ci := 1) (v := .int spare) (C := RX2) (T := TX2) (N := 3) hx hb hts inX2 hown hK hP 11 rfl rfl 1 (by decide) (hts _ mU_169) (fun _ h9 => h9) rfl dX2_remember_5 ?_
  obtain ⟨zg1, hF⟩ := z_grd hF
  refine va_aldq hx hb hK hP 12 4 rfl rfl zg1 dX2_remember_8 ?_
  refine lv_aload_n hx hb dX2_remember_9 rfl (lv_at hl 1 rfl) ?_
  obtain ⟨zo2, hzo2, hF⟩ := z_bind hF
  refine z_callv (fun (u : SS) => wState2 g (ad (13 + 5 * (Int32.toNatClampNeg spare))) (ad (14 + 5 * (Int32.toNatClampNeg spare))) (ad (15 + 5 * (Int32.toNatClampNeg spare))) (ad (16 + 5 * (Int32.toNatClampNeg spare))) (ad (17 + 5 * (Int32.toNatClampNeg spare))) (ad 1) (ad 2) (ad 3) (ad 4) (ad 5) u st) [13 + 5 * (Int32.toNatClampNeg spare), 14 + 5 * (Int32.toNatClampNeg spare), 15 + 5 * (Int32.toNatClampNeg spare), 16 + 5 * (Int32.toNatClampNeg spare), 17 + 5 * (Int32.toNatClampNeg spare), 1, 2, 3, 4, 5] (va_runV (As := [.ref (ad 1)]) (rest := []) ⟨hx, hb, hml, hown, hts⟩ (c_X8_copyFrom l g (ad (13 + 5 * (Int32.toNatClampNeg spare))) (ad (14 + 5 * (Int32.toNatClampNeg spare))) (ad (15 + 5 * (Int32.toNatClampNeg spare))) (ad (16 + 5 * (Int32.toNatClampNeg spare))) (ad (17 + 5 * (Int32.toNatClampNeg spare))) (ad 1) (ad 2) (ad 3) (ad 4) (ad 5) (hst (Int32.toNatClampNeg spare)) st _ _ hzo2) (cwV 1 hts (gdV mU_447 mU_427 mU_428 mU_67 mU_429) rfl rfl rfl (by decide +kernel) ⟨Nat.le_of_ble_eq_true rfl, Nat.le_of_ble_eq_true rfl⟩) ⟨z_blind _ _ _ _, va_recv hK hP (ci := 5) (q0 := 13 + 5 * (Int32.toNatClampNeg spare)) rfl (wRoot_slot (Nat.lt_of_not_le (fun h => zg1 (Or.inr h)))), fun U hU hW => z_pre [13 + 5 * (Int32.toNatClampNeg spare), 14 + 5 * (Int32.toNatClampNeg spare), 15 + 5 * (Int32.toNatClampNeg spare), 16 + 5 * (Int32.toNatClampNeg spare), 17 + 5 * (Int32.toNatClampNeg spare), 1, 2, 3, 4, 5] hP hD hK hB hS hA (wRoot_slC (Nat.lt_of_not_le (fun h => zg1 (Or.inr h)))) (wRoot_slN (Nat.lt_of_not_le (fun h => zg1 (Or.inr h)))) hU hW⟩ rfl rfl hl.1 rfl (lv_room (Nat.le_of_ble_eq_true rfl)) dX2_remember_10 ⟨Nat.le_of_ble_eq_true rfl, Nat.le_of_ble_eq_true rfl⟩) hP hD hS hA (wRoot_slC (Nat.lt_of_not_le (fun h => zg1 (Or.inr h)))) (fun _ => rfl) (fun u H locs hw hP hD hS => ?_)
  subst hw
  have hP : va_P (gD g) zCl (wRoot g ad st sv isS (fun i => if i = (Int32.toNatClampNeg spare) then zo2 else hst i) spare undo seen dbef drec ptx plen ppos pcnt cmds stE stF lch llen) H := Eq.mp (congrArg (fun w => va_P (gD g) zCl w H) (wRoot_slS (Nat.lt_of_not_le (fun h => zg1 (Or.inr h))) _)) hP
  have hD : va_D A (wRoot g ad st sv isS (fun i => if i = (Int32.toNatClampNeg spare) then zo2 else hst i) spare undo seen dbef drec ptx plen ppos pcnt cmds stE stF lch llen) := Eq.mp (congrArg (fun w => va_D A w) (wRoot_slS (Nat.lt_of_not_le (fun h => zg1 (Or.inr h))) _)) hD
  have ho := (Option.some.inj hF).symm
  exact W.vret hx hb hr (fun t ht hW => ⟨⟨(fun i => if i = (Int32.toNatClampNeg spare) then zo2 else hst i), rfl, ho, z_end ht hP⟩, hS.F ht⟩) hS.2.2 dX2_remember_13
abbrev w_X2_takeBack : List Cond := .code yX2_takeBack cX2_takeBack 2 none :: wU
abbrev r_X2_takeBack : Room := { frames := 2, cells := 0, slots := 0, locals := 81 }
abbrev q_X2_takeBack (g : GG) (ad : Nat → Nat) (st : SS) (sv : SS) (isS : Int32) (hst : Nat → SS) (spare : Int32) (undo : Int32) (seen : Nat → Int32) (dbef : Int32) (drec : Int32) (ptx : Nat → Int32) (plen : Int32) (ppos : Int32) (pcnt : Int32) (cmds : Nat → CC) (stE : Int32) (stF : Int32) (lch : Nat → Int32) (llen : Int32) (o : SS) (A : Nat → Prop) := va_Qv (fun (u : SS) => o = u) (fun u t => va_P (gD g) zCl (wRoot g ad u sv isS hst spare undo seen dbef drec ptx plen ppos pcnt cmds stE stF lch llen) t.heap) A
set_option maxHeartbeats 4000000 in
set_option maxRecDepth 100000 in
theorem c_X2_takeBack (l : Launch) (g : GG) (ad : Nat → Nat) (st : SS) (sv : SS) (isS : Int32) (hst : Nat → SS) (spare : Int32) (undo : Int32) (seen : Nat → Int32) (dbef : Int32) (drec : Int32) (ptx : Nat → Int32) (plen : Int32) (ppos : Int32) (pcnt : Int32) (cmds : Nat → CC) (stE : Int32) (stF : Int32) (lch : Nat → Int32) (llen : Int32) (sz : Nat) (o : SS) (hF : F_X2_takeBack st hst spare = some o) : Met l yX2_takeBack w_X2_takeBack r_X2_takeBack (va_Pc [.ref (ad 11), .ref (ad 1)] (zP g (wRoot g ad st sv isS hst spare undo seen dbef drec ptx plen ppos pcnt cmds stE stF lch llen) sz)) (q_X2_takeBack g ad st sv isS hst spare undo seen dbef drec ptx plen ppos pcnt cmds stE stF lch llen o (va_A (wRoot g ad st sv isS hst spare undo seen dbef drec ptx plen ppos pcnt cmds stE stF lch llen) sz)) 0 0 (va_A (wRoot g ad st sv isS hst spare undo seen dbef drec ptx plen ppos pcnt cmds stE stF lch llen) sz) := by
  refine Met.ofW (cc := cX2_takeBack) (maxL := 2) (ret := none) (by decide) rfl ?_
  intro p e s m args below meth c s₁ B hml hv
  obtain ⟨rfl, rfl, hP, hK, hD0, hB⟩ := hv
  have hx := B.exec
  have hb := B.bytes
  have hr := B.returns
  have hts : ∀ w ∈ wU, w.before _ s = true := fun w h => atoms_spec (ws := w_X2_takeBack) B.pre w (List.mem_cons_of_mem _ h)
  have hown : s.vm.findClass RX2 = some m.cls := findClass_of_methodNamed B.named
  have hlocks := B.notSynchronized
  have hD := hD0.self (sz := s.heap.size)
  generalize hAe : va_A (wRoot g ad st sv isS hst spare undo seen dbef drec ptx plen ppos pcnt cmds stE stF lch llen) s.heap.size = A at hD hB ⊢
  have hA : ∀ q : Nat, s.heap.size ≤ q → A q := fun q h => by rw [← hAe]; exact Or.inr h
  have hS : va_S A s.heap s.heap [] := va_S.rf
  have hl := lv_entry ([.ref (ad 11), .ref (ad 1)]) (n := 2) (Nat.le_of_ble_eq_true rfl)
  rw [lg_entry_eq]
  generalize (lg_sl ([.ref (ad 11), .ref (ad 1)]) ++ List.replicate (2 - (lg_sl ([.ref (ad 11), .ref (ad 1)])).length) Slot.unset).toArray = ls at hl ⊢
  have hl : lv_has ls 2 [(0, .ref (ad 11)), (1, .ref (ad 1))] := hl
  unfold F_X2_takeBack at hF
  refine lv_aload_n hx hb dX2_takeBack_0 rfl (lv_at hl 1 rfl) ?_
  refine lv_aload_n hx hb dX2_takeBack_1 rfl (lv_at hl 0 rfl) ?_
  refine va_get (D := gD g) (ci := 1) (v := .ref (ad 12)) (C := RX2) (T := TX2) (N := 3) hx hb hts inX2 hown hK hP 11 rfl rfl 0 (by decide) (hts _ mU_168) (fun _ h9 => h9) rfl dX2_takeBack_2 ?_
  refine lv_aload_n hx hb dX2_takeBack_5 rfl (lv_at hl 0 rfl) ?_
  refine va_get (D := gD g) (ci := 1) (v := .int spare) (C := RX2) (T := TX2) (N := 3) hx hb hts inX2 hown hK hP 11 rfl rfl 1 (by decide) (hts _ mU_169) (fun _ h9 => h9) rfl dX2_takeBack_6 ?_
  obtain ⟨zg1, hF⟩ := z_grd hF
  refine va_aldq hx hb hK hP 12 4 rfl rfl zg1 dX2_takeBack_9 ?_
  obtain ⟨zo2, hzo2, hF⟩ := z_bind hF
  refine z_callv (fun (u : SS) => wState2 g (ad 1) (ad 2) (ad 3) (ad 4) (ad 5) (ad (13 + 5 * (Int32.toNatClampNeg spare))) (ad (14 + 5 * (Int32.toNatClampNeg spare))) (ad (15 + 5 * (Int32.toNatClampNeg spare))) (ad (16 + 5 * (Int32.toNatClampNeg spare))) (ad (17 + 5 * (Int32.toNatClampNeg spare))) u (hst (Int32.toNatClampNeg spare))) [1, 2, 3, 4, 5, 13 + 5 * (Int32.toNatClampNeg spare), 14 + 5 * (Int32.toNatClampNeg spare), 15 + 5 * (Int32.toNatClampNeg spare), 16 + 5 * (Int32.toNatClampNeg spare), 17 + 5 * (Int32.toNatClampNeg spare)] (va_runV (As := [.ref (ad (13 + 5 * (Int32.toNatClampNeg spare)))]) (rest := []) ⟨hx, hb, hml, hown, hts⟩ (c_X8_copyFrom l g (ad 1) (ad 2) (ad 3) (ad 4) (ad 5) (ad (13 + 5 * (Int32.toNatClampNeg spare))) (ad (14 + 5 * (Int32.toNatClampNeg spare))) (ad (15 + 5 * (Int32.toNatClampNeg spare))) (ad (16 + 5 * (Int32.toNatClampNeg spare))) (ad (17 + 5 * (Int32.toNatClampNeg spare))) st (hst (Int32.toNatClampNeg spare)) _ _ hzo2) (cwV 1 hts (gdV mU_447 mU_427 mU_428 mU_67 mU_429) rfl rfl rfl (by decide +kernel) ⟨Nat.le_of_ble_eq_true rfl, Nat.le_of_ble_eq_true rfl⟩) ⟨z_blind _ _ _ _, va_recv hK hP (ci := 5) (q0 := 1) rfl rfl, fun U hU hW => z_pre [1, 2, 3, 4, 5, 13 + 5 * (Int32.toNatClampNeg spare), 14 + 5 * (Int32.toNatClampNeg spare), 15 + 5 * (Int32.toNatClampNeg spare), 16 + 5 * (Int32.toNatClampNeg spare), 17 + 5 * (Int32.toNatClampNeg spare)] hP hD hK hB hS hA (wRoot_tbC (Nat.lt_of_not_le (fun h => zg1 (Or.inr h)))) (wRoot_tbN (Nat.lt_of_not_le (fun h => zg1 (Or.inr h)))) hU hW⟩ rfl rfl hl.1 rfl (lv_room (Nat.le_of_ble_eq_true rfl)) dX2_takeBack_10 ⟨Nat.le_of_ble_eq_true rfl, Nat.le_of_ble_eq_true rfl⟩) hP hD hS hA (wRoot_tbC (Nat.lt_of_not_le (fun h => zg1 (Or.inr h)))) (fun _ => rfl) (fun u H locs hw hP hD hS => ?_)
  subst hw
  have hP : va_P (gD g) zCl (wRoot g ad zo2 sv isS hst spare undo seen dbef drec ptx plen ppos pcnt cmds stE stF lch llen) H := Eq.mp (congrArg (fun w => va_P (gD g) zCl w H) (wRoot_tbS (Nat.lt_of_not_le (fun h => zg1 (Or.inr h))) _)) hP
  have hD : va_D A (wRoot g ad zo2 sv isS hst spare undo seen dbef drec ptx plen ppos pcnt cmds stE stF lch llen) := Eq.mp (congrArg (fun w => va_D A w) (wRoot_tbS (Nat.lt_of_not_le (fun h => zg1 (Or.inr h))) _)) hD
  have ho := (Option.some.inj hF).symm
  exact W.vret hx hb hr (fun t ht hW => ⟨⟨zo2, rfl, ho, z_end ht hP⟩, hS.F ht⟩) hS.2.2 dX2_takeBack_13
abbrev w_X2_keep : List Cond := .code yX2_keep cX2_keep 1 none :: wU
abbrev r_X2_keep : Room := { frames := 1, cells := 0, slots := 0, locals := 40 }
abbrev q_X2_keep (g : GG) (ad : Nat → Nat) (st : SS) (sv : SS) (isS : Int32) (hst : Nat → SS) (spare : Int32) (undo : Int32) (seen : Nat → Int32) (dbef : Int32) (drec : Int32) (ptx : Nat → Int32) (plen : Int32) (ppos : Int32) (pcnt : Int32) (cmds : Nat → CC) (stE : Int32) (stF : Int32) (lch : Nat → Int32) (llen : Int32) (o : Int32 × Int32) (A : Nat → Prop) := va_Qv (fun (u : Int32 × Int32) => o = u) (fun u t => va_P (gD g) zCl (wRoot g ad st sv isS hst u.1 u.2 seen dbef drec ptx plen ppos pcnt cmds stE stF lch llen) t.heap) A
set_option maxHeartbeats 4000000 in
set_option maxRecDepth 100000 in
theorem c_X2_keep (l : Launch) (g : GG) (ad : Nat → Nat) (st : SS) (sv : SS) (isS : Int32) (hst : Nat → SS) (spare : Int32) (undo : Int32) (seen : Nat → Int32) (dbef : Int32) (drec : Int32) (ptx : Nat → Int32) (plen : Int32) (ppos : Int32) (pcnt : Int32) (cmds : Nat → CC) (stE : Int32) (stF : Int32) (lch : Nat → Int32) (llen : Int32) (sz : Nat) (o : Int32 × Int32) (hF : F_X2_keep spare undo = some o) : Met l yX2_keep w_X2_keep r_X2_keep (va_Pc [.ref (ad 11)] (zP g (wRoot g ad st sv isS hst spare undo seen dbef drec ptx plen ppos pcnt cmds stE stF lch llen) sz)) (q_X2_keep g ad st sv isS hst spare undo seen dbef drec ptx plen ppos pcnt cmds stE stF lch llen o (va_A (wRoot g ad st sv isS hst spare undo seen dbef drec ptx plen ppos pcnt cmds stE stF lch llen) sz)) 0 0 (va_A (wRoot g ad st sv isS hst spare undo seen dbef drec ptx plen ppos pcnt cmds stE stF lch llen) sz) := by
  refine Met.ofW (cc := cX2_keep) (maxL := 1) (ret := none) (by decide) rfl ?_
  intro p e s m args below meth c s₁ B hml hv
  obtain ⟨rfl, rfl, hP, hK, hD0, hB⟩ := hv
  have hx := B.exec
  have hb := B.bytes
  have hr := B.returns
  have hts : ∀ w ∈ wU, w.before _ s = true := fun w h => atoms_spec (ws := w_X2_keep) B.pre w (List.mem_cons_of_mem _ h)
  have hown : s.vm.findClass RX2 = some m.cls := findClass_of_methodNamed B.named
  have hlocks := B.notSynchronized
  have hD := hD0.self (sz := s.heap.size)
  generalize hAe : va_A (wRoot g ad st sv isS hst spare undo seen dbef drec ptx plen ppos pcnt cmds stE stF lch llen) s.heap.size = A at hD hB ⊢
  have hA : ∀ q : Nat, s.heap.size ≤ q → A q := fun q h => by rw [← hAe]; exact Or.inr h
  have hS : va_S A s.heap s.heap [] := va_S.rf
  have hl := lv_entry ([.ref (ad 11)]) (n := 1) (Nat.le_of_ble_eq_true rfl)
  rw [lg_entry_eq]
  generalize (lg_sl ([.ref (ad 11)]) ++ List.replicate (1 - (lg_sl ([.ref (ad 11)])).length) Slot.unset).toArray = ls at hl ⊢
  have hl : lv_has ls 1 [(0, .ref (ad 11))] := hl
  unfold F_X2_keep at hF
  refine lv_aload_n hx hb dX2_keep_0 rfl (lv_at hl 0 rfl) ?_
  refine lv_aload_n hx hb dX2_keep_1 rfl (lv_at hl 0 rfl) ?_
  refine va_get (D := gD g) (ci := 1) (v := .int spare) (C := RX2) (T := TX2) (N := 3) hx hb hts inX2 hown hK hP 11 rfl rfl 1 (by decide) (hts _ mU_169) (fun _ h9 => h9) rfl dX2_keep_2 ?_
  refine lv_bipush (v := 8) hx hb dX2_keep_5 (by decide) ?_
  refine lv_icmp_ne (tgt := 14) hx hb dX2_keep_7 (by decide) (fun zc1 => ?_) (fun zc1 => ?_)
  · have hF := z_neg hF zc1
    refine lv_aload_n hx hb dX2_keep_14 rfl (lv_at hl 0 rfl) ?_
    refine va_get (D := gD g) (ci := 1) (v := .int spare) (C := RX2) (T := TX2) (N := 3) hx hb hts inX2 hown hK hP 11 rfl rfl 1 (by decide) (hts _ mU_169) (fun _ h9 => h9) rfl dX2_keep_15 ?_
    refine lv_iconst (v := 1) hx hb dX2_keep_18 (by decide) ?_
    refine lv_iadd hx hb dX2_keep_19 ?_
    refine va_put (D := gD g) (ci := 1) (v := .int (spare + 1)) (ty := .int) (C := RX2) (T := TX2) (N := 3) hx hb hts inX2 tyX2 tyX2_ok nmX2 hown hK hP hD hS 11 rfl rfl 1 (by decide) (hts _ mU_169) (fun _ h9 => h9) rfl (by decide +kernel) rfl rfl (Nat.le_of_ble_eq_true rfl) dX2_keep_20 (fun H locs hP hD hS => ?_)
    have hP : va_P (gD g) zCl (wRoot g ad st sv isS hst (spare + 1) undo seen dbef drec ptx plen ppos pcnt cmds stE stF lch llen) H := hP
    have hD : va_D A (wRoot g ad st sv isS hst (spare + 1) undo seen dbef drec ptx plen ppos pcnt cmds stE stF lch llen) := hD
    refine lv_aload_n hx hb dX2_keep_23 rfl (lv_at hl 0 rfl) ?_
    refine lv_aload_n hx hb dX2_keep_24 rfl (lv_at hl 0 rfl) ?_
    refine va_get (D := gD g) (ci := 1) (v := .int undo) (C := RX2) (T := TX2) (N := 3) hx hb hts inX2 hown hK hP 11 rfl rfl 2 (by decide) (hts _ mU_170) (fun _ h9 => h9) rfl dX2_keep_25 ?_
    refine lv_iconst (v := 1) hx hb dX2_keep_28 (by decide) ?_
    refine lv_iadd hx hb dX2_keep_29 ?_
    refine lv_bipush (v := 8) hx hb dX2_keep_30 (by decide) ?_
    refine va_mmin hx hb (hml.trans hl.1.symm) hown (hts _ mU_668) (hts _ mU_568) (hts _ mU_83) (hts _ mU_569) (Nat.le_of_ble_eq_true rfl) (Nat.le_of_ble_eq_true rfl) (Nat.le_of_ble_eq_true rfl) (Nat.le_of_ble_eq_true rfl) dX2_keep_32 ?_
    refine va_put (D := gD g) (ci := 1) (v := .int (if 8 < (undo + 1) then 8 else (undo + 1))) (ty := .int) (C := RX2) (T := TX2) (N := 3) hx hb hts inX2 tyX2 tyX2_ok nmX2 hown hK hP hD hS 11 rfl rfl 2 (by decide) (hts _ mU_170) (fun _ h9 => h9) rfl (by decide +kernel) rfl rfl (Nat.le_of_ble_eq_true rfl) dX2_keep_35 (fun H locs hP hD hS => ?_)
    have hP : va_P (gD g) zCl (wRoot g ad st sv isS hst (spare + 1) (if 8 < (undo + 1) then 8 else (undo + 1)) seen dbef drec ptx plen ppos pcnt cmds stE stF lch llen) H := hP
    have hD : va_D A (wRoot g ad st sv isS hst (spare + 1) (if 8 < (undo + 1) then 8 else (undo + 1)) seen dbef drec ptx plen ppos pcnt cmds stE stF lch llen) := hD
    have ho := (Option.some.inj hF).symm
    exact W.vret hx hb hr (fun t ht hW => ⟨⟨((spare + 1), (if 8 < (undo + 1) then 8 else (undo + 1))), rfl, ho, z_end ht hP⟩, hS.F ht⟩) hS.2.2 dX2_keep_38
  · have hF := z_pos hF zc1
    refine lv_iconst (v := 0) hx hb dX2_keep_10 (by decide) ?_
    refine lv_goto (tgt := 20) hx hb dX2_keep_11 (by decide) ?_
    refine va_put (D := gD g) (ci := 1) (v := .int 0) (ty := .int) (C := RX2) (T := TX2) (N := 3) hx hb hts inX2 tyX2 tyX2_ok nmX2 hown hK hP hD hS 11 rfl rfl 1 (by decide) (hts _ mU_169) (fun _ h9 => h9) rfl (by decide +kernel) rfl rfl (Nat.le_of_ble_eq_true rfl) dX2_keep_20 (fun H locs hP hD hS => ?_)
    have hP : va_P (gD g) zCl (wRoot g ad st sv isS hst 0 undo seen dbef drec ptx plen ppos pcnt cmds stE stF lch llen) H := hP
    have hD : va_D A (wRoot g ad st sv isS hst 0 undo seen dbef drec ptx plen ppos pcnt cmds stE stF lch llen) := hD
    refine lv_aload_n hx hb dX2_keep_23 rfl (lv_at hl 0 rfl) ?_
    refine lv_aload_n hx hb dX2_keep_24 rfl (lv_at hl 0 rfl) ?_
    refine va_get (D := gD g) (ci := 1) (v := .int undo) (C := RX2) (T := TX2) (N := 3) hx hb hts inX2 hown hK hP 11 rfl rfl 2 (by decide) (hts _ mU_170) (fun _ h9 => h9) rfl dX2_keep_25 ?_
    refine lv_iconst (v := 1) hx hb dX2_keep_28 (by decide) ?_
    refine lv_iadd hx hb dX2_keep_29 ?_
    refine lv_bipush (v := 8) hx hb dX2_keep_30 (by decide) ?_
    refine va_mmin hx hb (hml.trans hl.1.symm) hown (hts _ mU_668) (hts _ mU_568) (hts _ mU_83) (hts _ mU_569) (Nat.le_of_ble_eq_true rfl) (Nat.le_of_ble_eq_true rfl) (Nat.le_of_ble_eq_true rfl) (Nat.le_of_ble_eq_true rfl) dX2_keep_32 ?_
    refine va_put (D := gD g) (ci := 1) (v := .int (if 8 < (undo + 1) then 8 else (undo + 1))) (ty := .int) (C := RX2) (T := TX2) (N := 3) hx hb hts inX2 tyX2 tyX2_ok nmX2 hown hK hP hD hS 11 rfl rfl 2 (by decide) (hts _ mU_170) (fun _ h9 => h9) rfl (by decide +kernel) rfl rfl (Nat.le_of_ble_eq_true rfl) dX2_keep_35 (fun H locs hP hD hS => ?_)
    have hP : va_P (gD g) zCl (wRoot g ad st sv isS hst 0 (if 8 < (undo + 1) then 8 else (undo + 1)) seen dbef drec ptx plen ppos pcnt cmds stE stF lch llen) H := hP
    have hD : va_D A (wRoot g ad st sv isS hst 0 (if 8 < (undo + 1) then 8 else (undo + 1)) seen dbef drec ptx plen ppos pcnt cmds stE stF lch llen) := hD
    have ho := (Option.some.inj hF).symm
    exact W.vret hx hb hr (fun t ht hW => ⟨⟨(0, (if 8 < (undo + 1) then 8 else (undo + 1))), rfl, ho, z_end ht hP⟩, hS.F ht⟩) hS.2.2 dX2_keep_38
abbrev w_X2_goBack : List Cond := .code yX2_goBack cX2_goBack 2 none :: wU
abbrev r_X2_goBack : Room := { frames := 3, cells := 0, slots := 0, locals := 102 }
abbrev q_X2_goBack (g : GG) (ad : Nat → Nat) (st : SS) (sv : SS) (isS : Int32) (hst : Nat → SS) (spare : Int32) (undo : Int32) (seen : Nat → Int32) (dbef : Int32) (drec : Int32) (ptx : Nat → Int32) (plen : Int32) (ppos : Int32) (pcnt : Int32) (cmds : Nat → CC) (stE : Int32) (stF : Int32) (lch : Nat → Int32) (llen : Int32) (o : SS × Int32 × Int32) (A : Nat → Prop) := va_Qv (fun (u : SS × Int32 × Int32) => o = u) (fun u t => va_P (gD g) zCl (wRoot g ad u.1 sv isS hst u.2.1 u.2.2 seen dbef drec ptx plen ppos pcnt cmds stE stF lch llen) t.heap) A
set_option maxHeartbeats 4000000 in
set_option maxRecDepth 100000 in
theorem c_X2_goBack (l : Launch) (g : GG) (ad : Nat → Nat) (st : SS) (sv : SS) (isS : Int32) (hst : Nat → SS) (spare : Int32) (undo : Int32) (seen : Nat → Int32) (dbef : Int32) (drec : Int32) (ptx : Nat → Int32) (plen : Int32) (ppos : Int32) (pcnt : Int32) (cmds : Nat → CC) (stE : Int32) (stF : Int32) (lch : Nat → Int32) (llen : Int32) (sz : Nat) (o : SS × Int32 × Int32) (hF : F_X2_goBack st hst spare undo = some o) : Met l yX2_goBack w_X2_goBack r_X2_goBack (va_Pc [.ref (ad 11), .ref (ad 1)] (zP g (wRoot g ad st sv isS hst spare undo seen dbef drec ptx plen ppos pcnt cmds stE stF lch llen) sz)) (q_X2_goBack g ad st sv isS hst spare undo seen dbef drec ptx plen ppos pcnt cmds stE stF lch llen o (va_A (wRoot g ad st sv isS hst spare undo seen dbef drec ptx plen ppos pcnt cmds stE stF lch llen) sz)) 0 0 (va_A (wRoot g ad st sv isS hst spare undo seen dbef drec ptx plen ppos pcnt cmds stE stF lch llen) sz) := by
  refine Met.ofW (cc := cX2_goBack) (maxL := 2) (ret := none) (by decide) rfl ?_
  intro p e s m args below meth c s₁ B hml hv
  obtain ⟨rfl, rfl, hP, hK, hD0, hB⟩ := hv
  have hx := B.exec
  have hb := B.bytes
  have hr := B.returns
  have hts : ∀ w ∈ wU, w.before _ s = true := fun w h => atoms_spec (ws := w_X2_goBack) B.pre w (List.mem_cons_of_mem _ h)
  have hown : s.vm.findClass RX2 = some m.cls := findClass_of_methodNamed B.named
  have hlocks := B.notSynchronized
  have hD := hD0.self (sz := s.heap.size)
  generalize hAe : va_A (wRoot g ad st sv isS hst spare undo seen dbef drec ptx plen ppos pcnt cmds stE stF lch llen) s.heap.size = A at hD hB ⊢
  have hA : ∀ q : Nat, s.heap.size ≤ q → A q := fun q h => by rw [← hAe]; exact Or.inr h
  have hS : va_S A s.heap s.heap [] := va_S.rf
  have hl := lv_entry ([.ref (ad 11), .ref (ad 1)]) (n := 2) (Nat.le_of_ble_eq_true rfl)
  rw [lg_entry_eq]
  generalize (lg_sl ([.ref (ad 11), .ref (ad 1)]) ++ List.replicate (2 - (lg_sl ([.ref (ad 11), .ref (ad 1)])).length) Slot.unset).toArray = ls at hl ⊢
  have hl : lv_has ls 2 [(0, .ref (ad 11)), (1, .ref (ad 1))] := hl
  unfold F_X2_goBack at hF
  have K19 : ∀ (_ : Unit) (st : SS) (spare : Int32) (undo : Int32) (y1 : Int32), F_X2_goBack_19 st hst spare undo y1 = some o → ∀ (H : Heap) (locs : List Loc) (ls : Array Slot), lv_has ls 2 [(0, .ref (ad 11)), (1, .ref (ad 1))] → va_P (gD g) zCl (wRoot g ad st sv isS hst spare undo seen dbef drec ptx plen ppos pcnt cmds stE stF lch llen) H → va_D A (wRoot g ad st sv isS hst spare undo seen dbef drec ptx plen ppos pcnt cmds stE stF lch llen) → va_S A s.heap H locs → W p l e (headSpec w_X2_goBack r_X2_goBack).room s m ([.ref (ad 11), .ref (ad 1)] : List Value).toArray below meth c H locs 0 0 (MQ below (q_X2_goBack g ad st sv isS hst spare undo seen dbef drec ptx plen ppos pcnt cmds stE stF lch llen o A) ([.ref (ad 11), .ref (ad 1)] : List Value).toArray s 0 0 A) (F0 m 19 ls [.int y1, .ref (ad 11)]) := by
    intro _ st spare undo y1 hF H locs ls hl hP hD hS
    unfold F_X2_goBack_19 at hF
    refine va_put (D := gD g) (ci := 1) (v := .int y1) (ty := .int) (C := RX2) (T := TX2) (N := 3) hx hb hts inX2 tyX2 tyX2_ok nmX2 hown hK hP hD hS 11 rfl rfl 1 (by decide) (hts _ mU_169) (fun _ h9 => h9) rfl (by decide +kernel) rfl rfl (Nat.le_of_ble_eq_true rfl) dX2_goBack_19 (fun H locs hP hD hS => ?_)
    have hP : va_P (gD g) zCl (wRoot g ad st sv isS hst y1 undo seen dbef drec ptx plen ppos pcnt cmds stE stF lch llen) H := hP
    have hD : va_D A (wRoot g ad st sv isS hst y1 undo seen dbef drec ptx plen ppos pcnt cmds stE stF lch llen) := hD
    refine lv_aload_n hx hb dX2_goBack_22 rfl (lv_at hl 0 rfl) ?_
    refine lv_dup hx hb dX2_goBack_23 rfl ?_
    refine va_get (D := gD g) (ci := 1) (v := .int undo) (C := RX2) (T := TX2) (N := 3) hx hb hts inX2 hown hK hP 11 rfl rfl 2 (by decide) (hts _ mU_170) (fun _ h9 => h9) rfl dX2_goBack_24 ?_
    refine lv_iconst (v := 1) hx hb dX2_goBack_27 (by decide) ?_
    refine lv_isub hx hb dX2_goBack_28 ?_
    refine va_put (D := gD g) (ci := 1) (v := .int (undo - 1)) (ty := .int) (C := RX2) (T := TX2) (N := 3) hx hb hts inX2 tyX2 tyX2_ok nmX2 hown hK hP hD hS 11 rfl rfl 2 (by decide) (hts _ mU_170) (fun _ h9 => h9) rfl (by decide +kernel) rfl rfl (Nat.le_of_ble_eq_true rfl) dX2_goBack_29 (fun H locs hP hD hS => ?_)
    have hP : va_P (gD g) zCl (wRoot g ad st sv isS hst y1 (undo - 1) seen dbef drec ptx plen ppos pcnt cmds stE stF lch llen) H := hP
    have hD : va_D A (wRoot g ad st sv isS hst y1 (undo - 1) seen dbef drec ptx plen ppos pcnt cmds stE stF lch llen) := hD
    refine lv_aload_n hx hb dX2_goBack_32 rfl (lv_at hl 0 rfl) ?_
    refine lv_aload_n hx hb dX2_goBack_33 rfl (lv_at hl 1 rfl) ?_
    obtain ⟨zo1, hzo1, hF⟩ := z_bind hF
    refine z_callvE (fun (u : SS) => (wRoot g ad u sv isS hst y1 (undo - 1) seen dbef drec ptx plen ppos pcnt cmds stE stF lch llen)) (va_runV (As := [.ref (ad 1)]) (rest := []) ⟨hx, hb, hml, hown, hts⟩ (c_X2_takeBack l g ad st sv isS hst y1 (undo - 1) seen dbef drec ptx plen ppos pcnt cmds stE stF lch llen _ _ hzo1) (cwV 1 hts (gdV mU_1229 mU_1156 mU_1157 mU_68 mU_1158) rfl rfl rfl (by decide +kernel) ⟨Nat.le_of_ble_eq_true rfl, Nat.le_of_ble_eq_true rfl⟩) ⟨z_blind _ _ _ _, va_recv hK hP (ci := 1) (q0 := 11) rfl rfl, fun U hU hW => z_preE hP hD hK hB hS hA hU hW⟩ rfl rfl hl.1 rfl (lv_room (Nat.le_of_ble_eq_true rfl)) dX2_goBack_34 ⟨Nat.le_of_ble_eq_true rfl, Nat.le_of_ble_eq_true rfl⟩) hD hS hA (fun _ => rfl) (fun u H locs hw hP hD hS => ?_)
    subst hw
    have hP : va_P (gD g) zCl (wRoot g ad zo1 sv isS hst y1 (undo - 1) seen dbef drec ptx plen ppos pcnt cmds stE stF lch llen) H := hP
    have hD : va_D A (wRoot g ad zo1 sv isS hst y1 (undo - 1) seen dbef drec ptx plen ppos pcnt cmds stE stF lch llen) := hD
    have ho := (Option.some.inj hF).symm
    exact W.vret hx hb hr (fun t ht hW => ⟨⟨(zo1, y1, (undo - 1)), rfl, ho, z_end ht hP⟩, hS.F ht⟩) hS.2.2 dX2_goBack_37
  refine lv_aload_n hx hb dX2_goBack_0 rfl (lv_at hl 0 rfl) ?_
  refine lv_aload_n hx hb dX2_goBack_1 rfl (lv_at hl 0 rfl) ?_
  refine va_get (D := gD g) (ci := 1) (v := .int spare) (C := RX2) (T := TX2) (N := 3) hx hb hts inX2 hown hK hP 11 rfl rfl 1 (by decide) (hts _ mU_169) (fun _ h9 => h9) rfl dX2_goBack_2 ?_
  refine lv_if_ne (tgt := 13) hx hb dX2_goBack_5 (by decide) (fun zc2 => ?_) (fun zc2 => ?_)
  · have hF := z_neg hF zc2
    refine lv_aload_n hx hb dX2_goBack_13 rfl (lv_at hl 0 rfl) ?_
    refine va_get (D := gD g) (ci := 1) (v := .int spare) (C := RX2) (T := TX2) (N := 3) hx hb hts inX2 hown hK hP 11 rfl rfl 1 (by decide) (hts _ mU_169) (fun _ h9 => h9) rfl dX2_goBack_14 ?_
    refine lv_iconst (v := 1) hx hb dX2_goBack_17 (by decide) ?_
    refine lv_isub hx hb dX2_goBack_18 ?_
    exact K19 () st spare undo (spare - 1) hF _ _ _ (lv_sub hl [0, 1] rfl) hP hD hS
  · have hF := z_pos hF zc2
    refine lv_bipush (v := 8) hx hb dX2_goBack_8 (by decide) ?_
    refine lv_goto (tgt := 19) hx hb dX2_goBack_10 (by decide) ?_
    exact K19 () st spare undo 8 hF _ _ _ (lv_sub hl [0, 1] rfl) hP hD hS
