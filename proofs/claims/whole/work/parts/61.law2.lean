abbrev w_L_preperiod : List Cond := .codeWith yL_preperiod cL_preperiod 5 (some .int) [(0, 10, 13, 13)] :: wU
abbrev r_L_preperiod : Room := { frames := 8, cells := 1, slots := 6, locals := 125 }
abbrev q_L_preperiod (g : GG) (ad : Nat → Nat) (st : SS) (sv : SS) (isS : Int32) (hst : Nat → SS) (spare : Int32) (undo : Int32) (seen : Nat → Int32) (dbef : Int32) (drec : Int32) (ptx : Nat → Int32) (plen : Int32) (ppos : Int32) (pcnt : Int32) (cmds : Nat → CC) (stE : Int32) (stF : Int32) (lch : Nat → Int32) (llen : Int32) (jo : Nat → Int64) (o : Int32 × (Nat → Int32) × Int32 × Int32 × (Nat → Int64)) (A : Nat → Prop) := va_Qi (fun (r : Int32) (u : (Nat → Int32) × Int32 × Int32 × (Nat → Int64)) => o.1 = r ∧ o.2 = u) (fun u t => va_P (gD g) zCl (wRootJ g ad st sv isS hst spare undo u.1 u.2.1 u.2.2.1 ptx plen ppos pcnt cmds stE stF lch llen u.2.2.2) t.heap) A
set_option maxHeartbeats 4000000 in
set_option maxRecDepth 100000 in
theorem c_L_preperiod (l : Launch) (hl0 : l.stackTraces = false) (g : GG) (ad : Nat → Nat) (st : SS) (sv : SS) (isS : Int32) (hst : Nat → SS) (spare : Int32) (undo : Int32) (seen : Nat → Int32) (dbef : Int32) (drec : Int32) (ptx : Nat → Int32) (plen : Int32) (ppos : Int32) (pcnt : Int32) (cmds : Nat → CC) (stE : Int32) (stF : Int32) (lch : Nat → Int32) (llen : Int32) (jo : Nat → Int64) (sz : Nat) (p1 : Int32) (p2 : Int32) (fu : Nat) (o : Int32 × (Nat → Int32) × Int32 × Int32 × (Nat → Int64)) (hF : F_L_preperiod fu seen dbef drec jo p1 p2 = some o) : Met l yL_preperiod w_L_preperiod r_L_preperiod (va_Pc [.ref (ad 0), .int p1, .int p2, .ref (ad 74)] (zP g (wRootJ g ad st sv isS hst spare undo seen dbef drec ptx plen ppos pcnt cmds stE stF lch llen jo) sz)) (q_L_preperiod g ad st sv isS hst spare undo seen dbef drec ptx plen ppos pcnt cmds stE stF lch llen jo o (va_A (wRootJ g ad st sv isS hst spare undo seen dbef drec ptx plen ppos pcnt cmds stE stF lch llen jo) sz)) 1 6 (va_A (wRootJ g ad st sv isS hst spare undo seen dbef drec ptx plen ppos pcnt cmds stE stF lch llen jo) sz) := by
  refine va_MetW (cc := cL_preperiod) (maxL := 5) (ret := (some .int)) (by decide) rfl ?_
  intro p e s m args below meth c s₁ B hml hv
  obtain ⟨rfl, rfl, hP, hK, hD0, hB⟩ := hv
  have hx := B.exec
  have hb := B.bytes
  have hr := B.returns
  have htab : c.exceptionTable.toList = tableOf [(0, 10, 13, 13)] := vx_table (x := yL_preperiod) B (atoms_spec (ws := w_L_preperiod) B.pre _ List.mem_cons_self)
  have hts : ∀ w ∈ wU, w.before _ s = true := fun w h => atoms_spec (ws := w_L_preperiod) B.pre w (List.mem_cons_of_mem _ h)
  have hown : s.vm.findClass RL = some m.cls := findClass_of_methodNamed B.named
  have hlocks := B.notSynchronized
  have hD := hD0.self (sz := s.heap.size)
  generalize hAe : va_A (wRootJ g ad st sv isS hst spare undo seen dbef drec ptx plen ppos pcnt cmds stE stF lch llen jo) s.heap.size = A at hD hB ⊢
  have hA : ∀ q : Nat, s.heap.size ≤ q → A q := fun q h => by rw [← hAe]; exact Or.inr h
  have hS : va_S A s.heap s.heap [] := va_S.rf
  have hl := lv_entry ([.ref (ad 0), .int p1, .int p2, .ref (ad 74)]) (n := 5) (Nat.le_of_ble_eq_true rfl)
  rw [lg_entry_eq]
  generalize (lg_sl ([.ref (ad 0), .int p1, .int p2, .ref (ad 74)]) ++ List.replicate (5 - (lg_sl ([.ref (ad 0), .int p1, .int p2, .ref (ad 74)])).length) Slot.unset).toArray = ls at hl ⊢
  have hl : lv_has ls 5 [(0, .ref (ad 0)), (1, .int p1), (2, .int p2), (3, .ref (ad 74))] := hl
  unfold F_L_preperiod at hF
  refine lv_aload_n hx hb dL_preperiod_0 rfl (lv_at hl 3 rfl) ?_
  refine lv_iconst (v := 0) hx hb dL_preperiod_1 (by decide) ?_
  refine lv_aload_n hx hb dL_preperiod_2 rfl (lv_at hl 0 rfl) ?_
  refine lv_iload_n hx hb dL_preperiod_3 rfl (lv_at hl 1 rfl) ?_
  refine lv_iload_n hx hb dL_preperiod_4 rfl (lv_at hl 2 rfl) ?_
  obtain ⟨zo1, hzo1, hF⟩ := z_bind hF
  refine z_calliX (fun (u : (Nat → Int32) × Int32 × Int32) => (wRoot g ad st sv isS hst spare undo u.1 u.2.1 u.2.2 ptx plen ppos pcnt cmds stE stF lch llen)) (fun (x : Nat × ((Nat → Int32) × Int32 × Int32)) => (wRoot g ad st sv isS hst spare undo x.2.1 x.2.2.1 x.2.2.2 ptx plen ppos pcnt cmds stE stF lch llen)) (fun (x : Nat × ((Nat → Int32) × Int32 × Int32)) => xN x.1) zRJ (vx_runV (As := [.int p1, .int p2]) (rest := [.int 0, .ref (ad 74)]) ⟨hx, hb, hml, hown, hts⟩ (c_X10_preperiod l hl0 g ad st sv isS hst spare undo seen dbef drec ptx plen ppos pcnt cmds stE stF lch llen _ p1 p2 fu _ hzo1) (cwV 2 hts (gdV mU_961 mU_962 mU_963 mU_66 mU_964) rfl rfl rfl (by decide +kernel) ⟨Nat.le_of_ble_eq_true rfl, Nat.le_of_ble_eq_true rfl⟩) ⟨z_blind _ _ _ _, va_recv hK hP (ci := 6) (q0 := 0) rfl rfl, fun U hU hW => z_pre zRJ hP hD hK hB hS hA wRootJ_C wRootJ_N hU hW⟩ rfl rfl hl.1 rfl (lv_room (Nat.le_of_ble_eq_true rfl)) dL_preperiod_5 ⟨Nat.le_of_ble_eq_true rfl, Nat.le_of_ble_eq_true rfl⟩) hP hD hS hA wRootJ_C (fun _ => rfl) (fun _ => rfl) (fun zw1 ce q9 H locs hw hP hD hS hq1 hq2 hq3 => ?_) (fun r u H locs hw hP hD hS => ?_)
  · subst hw
    have hF : _ = some o := hF
    have hP : va_P (gD g) zCl (wRootJ g ad st sv isS hst spare undo zw1.2.1 zw1.2.2.1 zw1.2.2.2 ptx plen ppos pcnt cmds stE stF lch llen jo) H := Eq.mp (congrArg (fun w => va_P (gD g) zCl w H) wRootJ_S) hP
    have hD : va_D A (wRootJ g ad st sv isS hst spare undo zw1.2.1 zw1.2.2.1 zw1.2.2.2 ptx plen ppos pcnt cmds stE stF lch llen jo) := Eq.mp (congrArg (fun w => va_D A w) wRootJ_S) hD
    have hF := z_err hF
    have hq3 : s.vm.findClass (xN zw1.1) = some ce.cls := hq3
    by_cases zc2 : zw1.1 = 0
    · have hF := z_pos hF zc2
      rw [zc2] at hq3
      have hq3 : s.vm.findClass "java/lang/IllegalArgumentException" = some ce.cls := hq3
      refine vx_catch (own := RL) (name := "java/lang/IllegalArgumentException") (E := "java/lang/IllegalArgumentException") hown [] (⟨0, 10, 13, 13⟩ : ExceptionTableEntry) [] (htab.trans rfl) (fun _ h => absurd h List.not_mem_nil) rfl (by decide) (hts _ mU_436) (va_Nw.use rfl (hB.2.1.1 _ zn_458)) hq1 hq2 hq3 ?_
      refine lv_astore (lv' := [(4, .ref q9), (0, .ref (ad 0)), (1, .int p1), (2, .int p2), (3, .ref (ad 74))]) hx hb dL_preperiod_13 hl (by decide) rfl (fun ls hl => ?_)
      refine lv_iconst (v := 1) hx hb dL_preperiod_15 (by decide) ?_
      have ho := (Option.some.inj hF).symm
      exact W.iret (v := 1) hx hb hr (fun t ht hW => ⟨⟨1, (zw1.2.1, zw1.2.2.1, zw1.2.2.2, jo), rfl, ⟨by rw [ho], by rw [ho]⟩, z_end ht hP⟩, hS.F ht⟩) hS.2.2 dL_preperiod_16
    have hF := z_neg hF zc2
    exact absurd hF (by simp)
  · obtain ⟨za1, rfl, rfl, rfl⟩ := hw
    have hF := z_okk hF
    have hP : va_P (gD g) zCl (wRootJ g ad st sv isS hst spare undo za1.2.1 za1.2.2.1 za1.2.2.2 ptx plen ppos pcnt cmds stE stF lch llen jo) H := Eq.mp (congrArg (fun w => va_P (gD g) zCl w H) wRootJ_S) hP
    have hD : va_D A (wRootJ g ad st sv isS hst spare undo za1.2.1 za1.2.2.1 za1.2.2.2 ptx plen ppos pcnt cmds stE stF lch llen jo) := Eq.mp (congrArg (fun w => va_D A w) wRootJ_S) hD
    refine lv_i2l (v := (Int32.toInt64 za1.1)) hx hb dL_preperiod_8 rfl ?_
    refine va_last hx hb hK hP hD hS 74 2 rfl rfl (by unfold vp_in; decide) dL_preperiod_9 (fun H locs hP hD hS => ?_)
    have hP : va_P (gD g) zCl (wRootJ g ad st sv isS hst spare undo za1.2.1 za1.2.2.1 za1.2.2.2 ptx plen ppos pcnt cmds stE stF lch llen (vp_updL jo (Int32.toNatClampNeg 0) (Int32.toInt64 za1.1))) H := hP
    have hD : va_D A (wRootJ g ad st sv isS hst spare undo za1.2.1 za1.2.2.1 za1.2.2.2 ptx plen ppos pcnt cmds stE stF lch llen (vp_updL jo (Int32.toNatClampNeg 0) (Int32.toInt64 za1.1))) := hD
    refine lv_goto (tgt := 17) hx hb dL_preperiod_10 (by decide) ?_
    refine lv_iconst (v := 0) hx hb dL_preperiod_17 (by decide) ?_
    have ho := (Option.some.inj hF).symm
    exact W.iret (v := 0) hx hb hr (fun t ht hW => ⟨⟨0, (za1.2.1, za1.2.2.1, za1.2.2.2, (vp_updL jo (Int32.toNatClampNeg 0) (Int32.toInt64 za1.1))), rfl, ⟨by rw [ho], by rw [ho]⟩, z_end ht hP⟩, hS.F ht⟩) hS.2.2 dL_preperiod_18
abbrev w_L_period : List Cond := .codeWith yL_period cL_period 5 (some .int) [(0, 10, 13, 13)] :: wU
abbrev r_L_period : Room := { frames := 8, cells := 1, slots := 6, locals := 125 }
abbrev q_L_period (g : GG) (ad : Nat → Nat) (st : SS) (sv : SS) (isS : Int32) (hst : Nat → SS) (spare : Int32) (undo : Int32) (seen : Nat → Int32) (dbef : Int32) (drec : Int32) (ptx : Nat → Int32) (plen : Int32) (ppos : Int32) (pcnt : Int32) (cmds : Nat → CC) (stE : Int32) (stF : Int32) (lch : Nat → Int32) (llen : Int32) (jo : Nat → Int64) (o : Int32 × (Nat → Int32) × Int32 × Int32 × (Nat → Int64)) (A : Nat → Prop) := va_Qi (fun (r : Int32) (u : (Nat → Int32) × Int32 × Int32 × (Nat → Int64)) => o.1 = r ∧ o.2 = u) (fun u t => va_P (gD g) zCl (wRootJ g ad st sv isS hst spare undo u.1 u.2.1 u.2.2.1 ptx plen ppos pcnt cmds stE stF lch llen u.2.2.2) t.heap) A
set_option maxHeartbeats 4000000 in
set_option maxRecDepth 100000 in
theorem c_L_period (l : Launch) (hl0 : l.stackTraces = false) (g : GG) (ad : Nat → Nat) (st : SS) (sv : SS) (isS : Int32) (hst : Nat → SS) (spare : Int32) (undo : Int32) (seen : Nat → Int32) (dbef : Int32) (drec : Int32) (ptx : Nat → Int32) (plen : Int32) (ppos : Int32) (pcnt : Int32) (cmds : Nat → CC) (stE : Int32) (stF : Int32) (lch : Nat → Int32) (llen : Int32) (jo : Nat → Int64) (sz : Nat) (p1 : Int32) (p2 : Int32) (fu : Nat) (o : Int32 × (Nat → Int32) × Int32 × Int32 × (Nat → Int64)) (hF : F_L_period fu seen dbef drec jo p1 p2 = some o) : Met l yL_period w_L_period r_L_period (va_Pc [.ref (ad 0), .int p1, .int p2, .ref (ad 74)] (zP g (wRootJ g ad st sv isS hst spare undo seen dbef drec ptx plen ppos pcnt cmds stE stF lch llen jo) sz)) (q_L_period g ad st sv isS hst spare undo seen dbef drec ptx plen ppos pcnt cmds stE stF lch llen jo o (va_A (wRootJ g ad st sv isS hst spare undo seen dbef drec ptx plen ppos pcnt cmds stE stF lch llen jo) sz)) 1 6 (va_A (wRootJ g ad st sv isS hst spare undo seen dbef drec ptx plen ppos pcnt cmds stE stF lch llen jo) sz) := by
  refine va_MetW (cc := cL_period) (maxL := 5) (ret := (some .int)) (by decide) rfl ?_
  intro p e s m args below meth c s₁ B hml hv
  obtain ⟨rfl, rfl, hP, hK, hD0, hB⟩ := hv
  have hx := B.exec
  have hb := B.bytes
  have hr := B.returns
  have htab : c.exceptionTable.toList = tableOf [(0, 10, 13, 13)] := vx_table (x := yL_period) B (atoms_spec (ws := w_L_period) B.pre _ List.mem_cons_self)
  have hts : ∀ w ∈ wU, w.before _ s = true := fun w h => atoms_spec (ws := w_L_period) B.pre w (List.mem_cons_of_mem _ h)
  have hown : s.vm.findClass RL = some m.cls := findClass_of_methodNamed B.named
  have hlocks := B.notSynchronized
  have hD := hD0.self (sz := s.heap.size)
  generalize hAe : va_A (wRootJ g ad st sv isS hst spare undo seen dbef drec ptx plen ppos pcnt cmds stE stF lch llen jo) s.heap.size = A at hD hB ⊢
  have hA : ∀ q : Nat, s.heap.size ≤ q → A q := fun q h => by rw [← hAe]; exact Or.inr h
  have hS : va_S A s.heap s.heap [] := va_S.rf
  have hl := lv_entry ([.ref (ad 0), .int p1, .int p2, .ref (ad 74)]) (n := 5) (Nat.le_of_ble_eq_true rfl)
  rw [lg_entry_eq]
  generalize (lg_sl ([.ref (ad 0), .int p1, .int p2, .ref (ad 74)]) ++ List.replicate (5 - (lg_sl ([.ref (ad 0), .int p1, .int p2, .ref (ad 74)])).length) Slot.unset).toArray = ls at hl ⊢
  have hl : lv_has ls 5 [(0, .ref (ad 0)), (1, .int p1), (2, .int p2), (3, .ref (ad 74))] := hl
  unfold F_L_period at hF
  refine lv_aload_n hx hb dL_period_0 rfl (lv_at hl 3 rfl) ?_
  refine lv_iconst (v := 0) hx hb dL_period_1 (by decide) ?_
  refine lv_aload_n hx hb dL_period_2 rfl (lv_at hl 0 rfl) ?_
  refine lv_iload_n hx hb dL_period_3 rfl (lv_at hl 1 rfl) ?_
  refine lv_iload_n hx hb dL_period_4 rfl (lv_at hl 2 rfl) ?_
  obtain ⟨zo1, hzo1, hF⟩ := z_bind hF
  refine z_calliX (fun (u : (Nat → Int32) × Int32 × Int32) => (wRoot g ad st sv isS hst spare undo u.1 u.2.1 u.2.2 ptx plen ppos pcnt cmds stE stF lch llen)) (fun (x : Nat × ((Nat → Int32) × Int32 × Int32)) => (wRoot g ad st sv isS hst spare undo x.2.1 x.2.2.1 x.2.2.2 ptx plen ppos pcnt cmds stE stF lch llen)) (fun (x : Nat × ((Nat → Int32) × Int32 × Int32)) => xN x.1) zRJ (vx_runV (As := [.int p1, .int p2]) (rest := [.int 0, .ref (ad 74)]) ⟨hx, hb, hml, hown, hts⟩ (c_X10_period l hl0 g ad st sv isS hst spare undo seen dbef drec ptx plen ppos pcnt cmds stE stF lch llen _ p1 p2 fu _ hzo1) (cwV 2 hts (gdV mU_975 mU_976 mU_977 mU_66 mU_978) rfl rfl rfl (by decide +kernel) ⟨Nat.le_of_ble_eq_true rfl, Nat.le_of_ble_eq_true rfl⟩) ⟨z_blind _ _ _ _, va_recv hK hP (ci := 6) (q0 := 0) rfl rfl, fun U hU hW => z_pre zRJ hP hD hK hB hS hA wRootJ_C wRootJ_N hU hW⟩ rfl rfl hl.1 rfl (lv_room (Nat.le_of_ble_eq_true rfl)) dL_period_5 ⟨Nat.le_of_ble_eq_true rfl, Nat.le_of_ble_eq_true rfl⟩) hP hD hS hA wRootJ_C (fun _ => rfl) (fun _ => rfl) (fun zw1 ce q9 H locs hw hP hD hS hq1 hq2 hq3 => ?_) (fun r u H locs hw hP hD hS => ?_)
  · subst hw
    have hF : _ = some o := hF
    have hP : va_P (gD g) zCl (wRootJ g ad st sv isS hst spare undo zw1.2.1 zw1.2.2.1 zw1.2.2.2 ptx plen ppos pcnt cmds stE stF lch llen jo) H := Eq.mp (congrArg (fun w => va_P (gD g) zCl w H) wRootJ_S) hP
    have hD : va_D A (wRootJ g ad st sv isS hst spare undo zw1.2.1 zw1.2.2.1 zw1.2.2.2 ptx plen ppos pcnt cmds stE stF lch llen jo) := Eq.mp (congrArg (fun w => va_D A w) wRootJ_S) hD
    have hF := z_err hF
    have hq3 : s.vm.findClass (xN zw1.1) = some ce.cls := hq3
    by_cases zc2 : zw1.1 = 0
    · have hF := z_pos hF zc2
      rw [zc2] at hq3
      have hq3 : s.vm.findClass "java/lang/IllegalArgumentException" = some ce.cls := hq3
      refine vx_catch (own := RL) (name := "java/lang/IllegalArgumentException") (E := "java/lang/IllegalArgumentException") hown [] (⟨0, 10, 13, 13⟩ : ExceptionTableEntry) [] (htab.trans rfl) (fun _ h => absurd h List.not_mem_nil) rfl (by decide) (hts _ mU_436) (va_Nw.use rfl (hB.2.1.1 _ zn_458)) hq1 hq2 hq3 ?_
      refine lv_astore (lv' := [(4, .ref q9), (0, .ref (ad 0)), (1, .int p1), (2, .int p2), (3, .ref (ad 74))]) hx hb dL_period_13 hl (by decide) rfl (fun ls hl => ?_)
      refine lv_iconst (v := 1) hx hb dL_period_15 (by decide) ?_
      have ho := (Option.some.inj hF).symm
      exact W.iret (v := 1) hx hb hr (fun t ht hW => ⟨⟨1, (zw1.2.1, zw1.2.2.1, zw1.2.2.2, jo), rfl, ⟨by rw [ho], by rw [ho]⟩, z_end ht hP⟩, hS.F ht⟩) hS.2.2 dL_period_16
    have hF := z_neg hF zc2
    exact absurd hF (by simp)
  · obtain ⟨za1, rfl, rfl, rfl⟩ := hw
    have hF := z_okk hF
    have hP : va_P (gD g) zCl (wRootJ g ad st sv isS hst spare undo za1.2.1 za1.2.2.1 za1.2.2.2 ptx plen ppos pcnt cmds stE stF lch llen jo) H := Eq.mp (congrArg (fun w => va_P (gD g) zCl w H) wRootJ_S) hP
    have hD : va_D A (wRootJ g ad st sv isS hst spare undo za1.2.1 za1.2.2.1 za1.2.2.2 ptx plen ppos pcnt cmds stE stF lch llen jo) := Eq.mp (congrArg (fun w => va_D A w) wRootJ_S) hD
    refine lv_i2l (v := (Int32.toInt64 za1.1)) hx hb dL_period_8 rfl ?_
    refine va_last hx hb hK hP hD hS 74 2 rfl rfl (by unfold vp_in; decide) dL_period_9 (fun H locs hP hD hS => ?_)
    have hP : va_P (gD g) zCl (wRootJ g ad st sv isS hst spare undo za1.2.1 za1.2.2.1 za1.2.2.2 ptx plen ppos pcnt cmds stE stF lch llen (vp_updL jo (Int32.toNatClampNeg 0) (Int32.toInt64 za1.1))) H := hP
    have hD : va_D A (wRootJ g ad st sv isS hst spare undo za1.2.1 za1.2.2.1 za1.2.2.2 ptx plen ppos pcnt cmds stE stF lch llen (vp_updL jo (Int32.toNatClampNeg 0) (Int32.toInt64 za1.1))) := hD
    refine lv_goto (tgt := 17) hx hb dL_period_10 (by decide) ?_
    refine lv_iconst (v := 0) hx hb dL_period_17 (by decide) ?_
    have ho := (Option.some.inj hF).symm
    exact W.iret (v := 0) hx hb hr (fun t ht hW => ⟨⟨0, (za1.2.1, za1.2.2.1, za1.2.2.2, (vp_updL jo (Int32.toNatClampNeg 0) (Int32.toInt64 za1.1))), rfl, ⟨by rw [ho], by rw [ho]⟩, z_end ht hP⟩, hS.F ht⟩) hS.2.2 dL_period_18
abbrev w_L_periodByPowers : List Cond := .codeWith yL_periodByPowers cL_periodByPowers 5 (some .int) [(0, 10, 13, 13)] :: wU
abbrev r_L_periodByPowers : Room := { frames := 8, cells := 1, slots := 6, locals := 125 }
abbrev q_L_periodByPowers (g : GG) (ad : Nat → Nat) (st : SS) (sv : SS) (isS : Int32) (hst : Nat → SS) (spare : Int32) (undo : Int32) (seen : Nat → Int32) (dbef : Int32) (drec : Int32) (ptx : Nat → Int32) (plen : Int32) (ppos : Int32) (pcnt : Int32) (cmds : Nat → CC) (stE : Int32) (stF : Int32) (lch : Nat → Int32) (llen : Int32) (jo : Nat → Int64) (o : Int32 × (Nat → Int64)) (A : Nat → Prop) := va_Qi (fun (r : Int32) (u : (Nat → Int64)) => o.1 = r ∧ o.2 = u) (fun u t => va_P (gD g) zCl (wRootJ g ad st sv isS hst spare undo seen dbef drec ptx plen ppos pcnt cmds stE stF lch llen u) t.heap) A
set_option maxHeartbeats 4000000 in
set_option maxRecDepth 100000 in
theorem c_L_periodByPowers (l : Launch) (hl0 : l.stackTraces = false) (g : GG) (ad : Nat → Nat) (st : SS) (sv : SS) (isS : Int32) (hst : Nat → SS) (spare : Int32) (undo : Int32) (seen : Nat → Int32) (dbef : Int32) (drec : Int32) (ptx : Nat → Int32) (plen : Int32) (ppos : Int32) (pcnt : Int32) (cmds : Nat → CC) (stE : Int32) (stF : Int32) (lch : Nat → Int32) (llen : Int32) (jo : Nat → Int64) (sz : Nat) (p1 : Int32) (p2 : Int32) (fu : Nat) (o : Int32 × (Nat → Int64)) (hF : F_L_periodByPowers fu jo p1 p2 = some o) : Met l yL_periodByPowers w_L_periodByPowers r_L_periodByPowers (va_Pc [.ref (ad 0), .int p1, .int p2, .ref (ad 74)] (zP g (wRootJ g ad st sv isS hst spare undo seen dbef drec ptx plen ppos pcnt cmds stE stF lch llen jo) sz)) (q_L_periodByPowers g ad st sv isS hst spare undo seen dbef drec ptx plen ppos pcnt cmds stE stF lch llen jo o (va_A (wRootJ g ad st sv isS hst spare undo seen dbef drec ptx plen ppos pcnt cmds stE stF lch llen jo) sz)) 1 6 (va_A (wRootJ g ad st sv isS hst spare undo seen dbef drec ptx plen ppos pcnt cmds stE stF lch llen jo) sz) := by
  refine va_MetW (cc := cL_periodByPowers) (maxL := 5) (ret := (some .int)) (by decide) rfl ?_
  intro p e s m args below meth c s₁ B hml hv
  obtain ⟨rfl, rfl, hP, hK, hD0, hB⟩ := hv
  have hx := B.exec
  have hb := B.bytes
  have hr := B.returns
  have htab : c.exceptionTable.toList = tableOf [(0, 10, 13, 13)] := vx_table (x := yL_periodByPowers) B (atoms_spec (ws := w_L_periodByPowers) B.pre _ List.mem_cons_self)
  have hts : ∀ w ∈ wU, w.before _ s = true := fun w h => atoms_spec (ws := w_L_periodByPowers) B.pre w (List.mem_cons_of_mem _ h)
  have hown : s.vm.findClass RL = some m.cls := findClass_of_methodNamed B.named
  have hlocks := B.notSynchronized
  have hD := hD0.self (sz := s.heap.size)
  generalize hAe : va_A (wRootJ g ad st sv isS hst spare undo seen dbef drec ptx plen ppos pcnt cmds stE stF lch llen jo) s.heap.size = A at hD hB ⊢
  have hA : ∀ q : Nat, s.heap.size ≤ q → A q := fun q h => by rw [← hAe]; exact Or.inr h
  have hS : va_S A s.heap s.heap [] := va_S.rf
  have hl := lv_entry ([.ref (ad 0), .int p1, .int p2, .ref (ad 74)]) (n := 5) (Nat.le_of_ble_eq_true rfl)
  rw [lg_entry_eq]
  generalize (lg_sl ([.ref (ad 0), .int p1, .int p2, .ref (ad 74)]) ++ List.replicate (5 - (lg_sl ([.ref (ad 0), .int p1, .int p2, .ref (ad 74)])).length) Slot.unset).toArray = ls at hl ⊢
  have hl : lv_has ls 5 [(0, .ref (ad 0)), (1, .int p1), (2, .int p2), (3, .ref (ad 74))] := hl
  unfold F_L_periodByPowers at hF
  refine lv_aload_n hx hb dL_periodByPowers_0 rfl (lv_at hl 3 rfl) ?_
  refine lv_iconst (v := 0) hx hb dL_periodByPowers_1 (by decide) ?_
  refine lv_aload_n hx hb dL_periodByPowers_2 rfl (lv_at hl 0 rfl) ?_
  refine lv_iload_n hx hb dL_periodByPowers_3 rfl (lv_at hl 1 rfl) ?_
  refine lv_iload_n hx hb dL_periodByPowers_4 rfl (lv_at hl 2 rfl) ?_
  obtain ⟨zo1, hzo1, hF⟩ := z_bind hF
  refine z_calliX (fun (_ : Unit) => (wRoot g ad st sv isS hst spare undo seen dbef drec ptx plen ppos pcnt cmds stE stF lch llen)) (fun (x : Nat × (Unit)) => (wRoot g ad st sv isS hst spare undo seen dbef drec ptx plen ppos pcnt cmds stE stF lch llen)) (fun (x : Nat × (Unit)) => xN x.1) zRJ (vx_runV (As := [.int p1, .int p2]) (rest := [.int 0, .ref (ad 74)]) ⟨hx, hb, hml, hown, hts⟩ (c_X10_periodByPowers l hl0 g ad st sv isS hst spare undo seen dbef drec ptx plen ppos pcnt cmds stE stF lch llen _ p1 p2 fu _ hzo1) (cwV 2 hts (gdV mU_982 mU_983 mU_984 mU_66 mU_985) rfl rfl rfl (by decide +kernel) ⟨Nat.le_of_ble_eq_true rfl, Nat.le_of_ble_eq_true rfl⟩) ⟨z_blind _ _ _ _, va_recv hK hP (ci := 6) (q0 := 0) rfl rfl, fun U hU hW => z_pre zRJ hP hD hK hB hS hA wRootJ_C wRootJ_N hU hW⟩ rfl rfl hl.1 rfl (lv_room (Nat.le_of_ble_eq_true rfl)) dL_periodByPowers_5 ⟨Nat.le_of_ble_eq_true rfl, Nat.le_of_ble_eq_true rfl⟩) hP hD hS hA wRootJ_C (fun _ => rfl) (fun _ => rfl) (fun zw1 ce q9 H locs hw hP hD hS hq1 hq2 hq3 => ?_) (fun r u H locs hw hP hD hS => ?_)
  · subst hw
    have hF : _ = some o := hF
    have hP : va_P (gD g) zCl (wRootJ g ad st sv isS hst spare undo seen dbef drec ptx plen ppos pcnt cmds stE stF lch llen jo) H := Eq.mp (congrArg (fun w => va_P (gD g) zCl w H) wRootJ_S) hP
    have hD : va_D A (wRootJ g ad st sv isS hst spare undo seen dbef drec ptx plen ppos pcnt cmds stE stF lch llen jo) := Eq.mp (congrArg (fun w => va_D A w) wRootJ_S) hD
    have hF := z_err hF
    have hq3 : s.vm.findClass (xN zw1.1) = some ce.cls := hq3
    by_cases zc2 : zw1.1 = 0
    · have hF := z_pos hF zc2
      rw [zc2] at hq3
      have hq3 : s.vm.findClass "java/lang/IllegalArgumentException" = some ce.cls := hq3
      refine vx_catch (own := RL) (name := "java/lang/IllegalArgumentException") (E := "java/lang/IllegalArgumentException") hown [] (⟨0, 10, 13, 13⟩ : ExceptionTableEntry) [] (htab.trans rfl) (fun _ h => absurd h List.not_mem_nil) rfl (by decide) (hts _ mU_436) (va_Nw.use rfl (hB.2.1.1 _ zn_458)) hq1 hq2 hq3 ?_
      refine lv_astore (lv' := [(4, .ref q9), (0, .ref (ad 0)), (1, .int p1), (2, .int p2), (3, .ref (ad 74))]) hx hb dL_periodByPowers_13 hl (by decide) rfl (fun ls hl => ?_)
      refine lv_iconst (v := 1) hx hb dL_periodByPowers_15 (by decide) ?_
      have ho := (Option.some.inj hF).symm
      exact W.iret (v := 1) hx hb hr (fun t ht hW => ⟨⟨1, jo, rfl, ⟨by rw [ho], by rw [ho]⟩, z_end ht hP⟩, hS.F ht⟩) hS.2.2 dL_periodByPowers_16
    have hF := z_neg hF zc2
    exact absurd hF (by simp)
  · obtain ⟨za1, rfl, rfl⟩ := hw
    have hF := z_okk hF
    have hP : va_P (gD g) zCl (wRootJ g ad st sv isS hst spare undo seen dbef drec ptx plen ppos pcnt cmds stE stF lch llen jo) H := Eq.mp (congrArg (fun w => va_P (gD g) zCl w H) wRootJ_S) hP
    have hD : va_D A (wRootJ g ad st sv isS hst spare undo seen dbef drec ptx plen ppos pcnt cmds stE stF lch llen jo) := Eq.mp (congrArg (fun w => va_D A w) wRootJ_S) hD
    refine lv_i2l (v := (Int32.toInt64 za1)) hx hb dL_periodByPowers_8 rfl ?_
    refine va_last hx hb hK hP hD hS 74 2 rfl rfl (by unfold vp_in; decide) dL_periodByPowers_9 (fun H locs hP hD hS => ?_)
    have hP : va_P (gD g) zCl (wRootJ g ad st sv isS hst spare undo seen dbef drec ptx plen ppos pcnt cmds stE stF lch llen (vp_updL jo (Int32.toNatClampNeg 0) (Int32.toInt64 za1))) H := hP
    have hD : va_D A (wRootJ g ad st sv isS hst spare undo seen dbef drec ptx plen ppos pcnt cmds stE stF lch llen (vp_updL jo (Int32.toNatClampNeg 0) (Int32.toInt64 za1))) := hD
    refine lv_goto (tgt := 17) hx hb dL_periodByPowers_10 (by decide) ?_
    refine lv_iconst (v := 0) hx hb dL_periodByPowers_17 (by decide) ?_
    have ho := (Option.some.inj hF).symm
    exact W.iret (v := 0) hx hb hr (fun t ht hW => ⟨⟨0, (vp_updL jo (Int32.toNatClampNeg 0) (Int32.toInt64 za1)), rfl, ⟨by rw [ho], by rw [ho]⟩, z_end ht hP⟩, hS.F ht⟩) hS.2.2 dL_periodByPowers_18
abbrev w_L_append : List Cond := .codeWith yL_append cL_append 4 (some .int) [(0, 9, 12, 15)] :: wU
abbrev r_L_append : Room := { frames := 7, cells := 1, slots := 6, locals := 103 }
abbrev q_L_append (g : GG) (ad : Nat → Nat) (st : SS) (sv : SS) (isS : Int32) (hst : Nat → SS) (spare : Int32) (undo : Int32) (seen : Nat → Int32) (dbef : Int32) (drec : Int32) (ptx : Nat → Int32) (plen : Int32) (ppos : Int32) (pcnt : Int32) (cmds : Nat → CC) (stE : Int32) (stF : Int32) (lch : Nat → Int32) (llen : Int32) (jo : Nat → Int64) (o : Int32 × (Nat → Int32) × Int32 × (Nat → Int64)) (A : Nat → Prop) := va_Qi (fun (r : Int32) (u : (Nat → Int32) × Int32 × (Nat → Int64)) => o.1 = r ∧ o.2 = u) (fun u t => va_P (gD g) zCl (wRootJ g ad st sv isS hst spare undo seen dbef drec u.1 u.2.1 ppos pcnt cmds stE stF lch llen u.2.2) t.heap) A
set_option maxHeartbeats 4000000 in
set_option maxRecDepth 100000 in
theorem c_L_append (l : Launch) (hl0 : l.stackTraces = false) (g : GG) (ad : Nat → Nat) (st : SS) (sv : SS) (isS : Int32) (hst : Nat → SS) (spare : Int32) (undo : Int32) (seen : Nat → Int32) (dbef : Int32) (drec : Int32) (ptx : Nat → Int32) (plen : Int32) (ppos : Int32) (pcnt : Int32) (cmds : Nat → CC) (stE : Int32) (stF : Int32) (lch : Nat → Int32) (llen : Int32) (jo : Nat → Int64) (sz : Nat) (p1 : Int32) (o : Int32 × (Nat → Int32) × Int32 × (Nat → Int64)) (hF : F_L_append ptx plen jo p1 = some o) : Met l yL_append w_L_append r_L_append (va_Pc [.ref (ad 0), .int p1, .ref (ad 74)] (zP g (wRootJ g ad st sv isS hst spare undo seen dbef drec ptx plen ppos pcnt cmds stE stF lch llen jo) sz)) (q_L_append g ad st sv isS hst spare undo seen dbef drec ptx plen ppos pcnt cmds stE stF lch llen jo o (va_A (wRootJ g ad st sv isS hst spare undo seen dbef drec ptx plen ppos pcnt cmds stE stF lch llen jo) sz)) 1 6 (va_A (wRootJ g ad st sv isS hst spare undo seen dbef drec ptx plen ppos pcnt cmds stE stF lch llen jo) sz) := by
  refine va_MetW (cc := cL_append) (maxL := 4) (ret := (some .int)) (by decide) rfl ?_
  intro p e s m args below meth c s₁ B hml hv
  obtain ⟨rfl, rfl, hP, hK, hD0, hB⟩ := hv
  have hx := B.exec
  have hb := B.bytes
  have hr := B.returns
  have htab : c.exceptionTable.toList = tableOf [(0, 9, 12, 15)] := vx_table (x := yL_append) B (atoms_spec (ws := w_L_append) B.pre _ List.mem_cons_self)
  have hts : ∀ w ∈ wU, w.before _ s = true := fun w h => atoms_spec (ws := w_L_append) B.pre w (List.mem_cons_of_mem _ h)
  have hown : s.vm.findClass RL = some m.cls := findClass_of_methodNamed B.named
  have hlocks := B.notSynchronized
  have hD := hD0.self (sz := s.heap.size)
  generalize hAe : va_A (wRootJ g ad st sv isS hst spare undo seen dbef drec ptx plen ppos pcnt cmds stE stF lch llen jo) s.heap.size = A at hD hB ⊢
  have hA : ∀ q : Nat, s.heap.size ≤ q → A q := fun q h => by rw [← hAe]; exact Or.inr h
  have hS : va_S A s.heap s.heap [] := va_S.rf
  have hl := lv_entry ([.ref (ad 0), .int p1, .ref (ad 74)]) (n := 4) (Nat.le_of_ble_eq_true rfl)
  rw [lg_entry_eq]
  generalize (lg_sl ([.ref (ad 0), .int p1, .ref (ad 74)]) ++ List.replicate (4 - (lg_sl ([.ref (ad 0), .int p1, .ref (ad 74)])).length) Slot.unset).toArray = ls at hl ⊢
  have hl : lv_has ls 4 [(0, .ref (ad 0)), (1, .int p1), (2, .ref (ad 74))] := hl
  unfold F_L_append at hF
  refine lv_aload_n hx hb dL_append_0 rfl (lv_at hl 2 rfl) ?_
  refine lv_iconst (v := 0) hx hb dL_append_1 (by decide) ?_
  refine lv_aload_n hx hb dL_append_2 rfl (lv_at hl 0 rfl) ?_
  refine lv_iload_n hx hb dL_append_3 rfl (lv_at hl 1 rfl) ?_
  obtain ⟨zo1, hzo1, hF⟩ := z_bind hF
  refine z_calliX (fun (u : (Nat → Int32) × Int32) => (wRoot g ad st sv isS hst spare undo seen dbef drec u.1 u.2 ppos pcnt cmds stE stF lch llen)) (fun (x : Nat × ((Nat → Int32) × Int32)) => (wRoot g ad st sv isS hst spare undo seen dbef drec x.2.1 x.2.2 ppos pcnt cmds stE stF lch llen)) (fun (x : Nat × ((Nat → Int32) × Int32)) => xN x.1) zRJ (vx_runV (As := [.int p1]) (rest := [.int 0, .ref (ad 74)]) ⟨hx, hb, hml, hown, hts⟩ (c_X10_append l hl0 g ad st sv isS hst spare undo seen dbef drec ptx plen ppos pcnt cmds stE stF lch llen _ p1 _ hzo1) (cwV 1 hts (gdV mU_1034 mU_1035 mU_1036 mU_66 mU_1037) rfl rfl rfl (by decide +kernel) ⟨Nat.le_of_ble_eq_true rfl, Nat.le_of_ble_eq_true rfl⟩) ⟨z_blind _ _ _ _, va_recv hK hP (ci := 6) (q0 := 0) rfl rfl, fun U hU hW => z_pre zRJ hP hD hK hB hS hA wRootJ_C wRootJ_N hU hW⟩ rfl rfl hl.1 rfl (lv_room (Nat.le_of_ble_eq_true rfl)) dL_append_4 ⟨Nat.le_of_ble_eq_true rfl, Nat.le_of_ble_eq_true rfl⟩) hP hD hS hA wRootJ_C (fun _ => rfl) (fun _ => rfl) (fun zw1 ce q9 H locs hw hP hD hS hq1 hq2 hq3 => ?_) (fun r u H locs hw hP hD hS => ?_)
  · subst hw
    have hF : _ = some o := hF
    have hP : va_P (gD g) zCl (wRootJ g ad st sv isS hst spare undo seen dbef drec zw1.2.1 zw1.2.2 ppos pcnt cmds stE stF lch llen jo) H := Eq.mp (congrArg (fun w => va_P (gD g) zCl w H) wRootJ_S) hP
    have hD : va_D A (wRootJ g ad st sv isS hst spare undo seen dbef drec zw1.2.1 zw1.2.2 ppos pcnt cmds stE stF lch llen jo) := Eq.mp (congrArg (fun w => va_D A w) wRootJ_S) hD
    have hF := z_err hF
    have hq3 : s.vm.findClass (xN zw1.1) = some ce.cls := hq3
    by_cases zc2 : zw1.1 = 1
    · have hF := z_pos hF zc2
      rw [zc2] at hq3
      have hq3 : s.vm.findClass "java/lang/IllegalStateException" = some ce.cls := hq3
      refine vx_catch (own := RL) (name := "java/lang/IllegalStateException") (E := "java/lang/IllegalStateException") hown [] (⟨0, 9, 12, 15⟩ : ExceptionTableEntry) [] (htab.trans rfl) (fun _ h => absurd h List.not_mem_nil) rfl (by decide) (hts _ mU_437) (va_Nw.use rfl (hB.2.1.1 _ zn_629)) hq1 hq2 hq3 ?_
      refine lv_astore_n (lv' := [(3, .ref q9), (0, .ref (ad 0)), (1, .int p1), (2, .ref (ad 74))]) hx hb dL_append_12 rfl hl (by decide) rfl (fun ls hl => ?_)
      refine lv_iconst (v := 1) hx hb dL_append_13 (by decide) ?_
      have ho := (Option.some.inj hF).symm
      exact W.iret (v := 1) hx hb hr (fun t ht hW => ⟨⟨1, (zw1.2.1, zw1.2.2, jo), rfl, ⟨by rw [ho], by rw [ho]⟩, z_end ht hP⟩, hS.F ht⟩) hS.2.2 dL_append_14
    have hF := z_neg hF zc2
    exact absurd hF (by simp)
  · obtain ⟨za1, rfl, rfl, rfl⟩ := hw
    have hF := z_okk hF
    have hP : va_P (gD g) zCl (wRootJ g ad st sv isS hst spare undo seen dbef drec za1.2.1 za1.2.2 ppos pcnt cmds stE stF lch llen jo) H := Eq.mp (congrArg (fun w => va_P (gD g) zCl w H) wRootJ_S) hP
    have hD : va_D A (wRootJ g ad st sv isS hst spare undo seen dbef drec za1.2.1 za1.2.2 ppos pcnt cmds stE stF lch llen jo) := Eq.mp (congrArg (fun w => va_D A w) wRootJ_S) hD
    refine lv_i2l (v := (Int32.toInt64 za1.1)) hx hb dL_append_7 rfl ?_
    refine va_last hx hb hK hP hD hS 74 2 rfl rfl (by unfold vp_in; decide) dL_append_8 (fun H locs hP hD hS => ?_)
    have hP : va_P (gD g) zCl (wRootJ g ad st sv isS hst spare undo seen dbef drec za1.2.1 za1.2.2 ppos pcnt cmds stE stF lch llen (vp_updL jo (Int32.toNatClampNeg 0) (Int32.toInt64 za1.1))) H := hP
    have hD : va_D A (wRootJ g ad st sv isS hst spare undo seen dbef drec za1.2.1 za1.2.2 ppos pcnt cmds stE stF lch llen (vp_updL jo (Int32.toNatClampNeg 0) (Int32.toInt64 za1.1))) := hD
    refine lv_goto (tgt := 15) hx hb dL_append_9 (by decide) ?_
    refine lv_iconst (v := 0) hx hb dL_append_15 (by decide) ?_
    have ho := (Option.some.inj hF).symm
    exact W.iret (v := 0) hx hb hr (fun t ht hW => ⟨⟨0, (za1.2.1, za1.2.2, (vp_updL jo (Int32.toNatClampNeg 0) (Int32.toInt64 za1.1))), rfl, ⟨by rw [ho], by rw [ho]⟩, z_end ht hP⟩, hS.F ht⟩) hS.2.2 dL_append_16
abbrev w_L_run : List Cond := .codeWith yL_run cL_run 3 (some .int) [(0, 8, 11, 13), (0, 8, 14, 17)] :: wU
abbrev r_L_run : Room := { frames := 11, cells := 51, slots := 306, locals := 217 }
abbrev q_L_run (g : GG) (ad : Nat → Nat) (st : SS) (sv : SS) (isS : Int32) (hst : Nat → SS) (spare : Int32) (undo : Int32) (seen : Nat → Int32) (dbef : Int32) (drec : Int32) (ptx : Nat → Int32) (plen : Int32) (ppos : Int32) (pcnt : Int32) (cmds : Nat → CC) (stE : Int32) (stF : Int32) (lch : Nat → Int32) (llen : Int32) (jo : Nat → Int64) (o : Int32 × SS × (Nat → SS) × Int32 × Int32 × Int32 × Int32 × Int32 × (Nat → CC) × Int32 × Int32 × (Nat → Int64)) (A : Nat → Prop) := va_Qi (fun (r : Int32) (u : SS × (Nat → SS) × Int32 × Int32 × Int32 × Int32 × Int32 × (Nat → CC) × Int32 × Int32 × (Nat → Int64)) => o.1 = r ∧ o.2 = u) (fun u t => va_P (gD g) zCl (wRootJ g ad u.1 sv isS u.2.1 u.2.2.1 u.2.2.2.1 seen dbef drec ptx u.2.2.2.2.1 u.2.2.2.2.2.1 u.2.2.2.2.2.2.1 u.2.2.2.2.2.2.2.1 u.2.2.2.2.2.2.2.2.1 u.2.2.2.2.2.2.2.2.2.1 lch llen u.2.2.2.2.2.2.2.2.2.2) t.heap) A
set_option maxHeartbeats 4000000 in
set_option maxRecDepth 100000 in
theorem c_L_run (l : Launch) (hl0 : l.stackTraces = false) (g : GG) (ad : Nat → Nat) (st : SS) (sv : SS) (isS : Int32) (hst : Nat → SS) (spare : Int32) (undo : Int32) (seen : Nat → Int32) (dbef : Int32) (drec : Int32) (ptx : Nat → Int32) (plen : Int32) (ppos : Int32) (pcnt : Int32) (cmds : Nat → CC) (stE : Int32) (stF : Int32) (lch : Nat → Int32) (llen : Int32) (jo : Nat → Int64) (sz : Nat) (fu : Nat) (o : Int32 × SS × (Nat → SS) × Int32 × Int32 × Int32 × Int32 × Int32 × (Nat → CC) × Int32 × Int32 × (Nat → Int64)) (hF : F_L_run fu st hst spare undo ptx plen ppos pcnt cmds stE stF jo = some o) : Met l yL_run w_L_run r_L_run (va_Pc [.ref (ad 0), .ref (ad 74)] (zP g (wRootJ g ad st sv isS hst spare undo seen dbef drec ptx plen ppos pcnt cmds stE stF lch llen jo) sz)) (q_L_run g ad st sv isS hst spare undo seen dbef drec ptx plen ppos pcnt cmds stE stF lch llen jo o (va_A (wRootJ g ad st sv isS hst spare undo seen dbef drec ptx plen ppos pcnt cmds stE stF lch llen jo) sz)) 51 306 (va_A (wRootJ g ad st sv isS hst spare undo seen dbef drec ptx plen ppos pcnt cmds stE stF lch llen jo) sz) := by
  refine va_MetW (cc := cL_run) (maxL := 3) (ret := (some .int)) (by decide) rfl ?_
  intro p e s m args below meth c s₁ B hml hv
  obtain ⟨rfl, rfl, hP, hK, hD0, hB⟩ := hv
  have hx := B.exec
  have hb := B.bytes
  have hr := B.returns
  have htab : c.exceptionTable.toList = tableOf [(0, 8, 11, 13), (0, 8, 14, 17)] := vx_table (x := yL_run) B (atoms_spec (ws := w_L_run) B.pre _ List.mem_cons_self)
  have hts : ∀ w ∈ wU, w.before _ s = true := fun w h => atoms_spec (ws := w_L_run) B.pre w (List.mem_cons_of_mem _ h)
  have hown : s.vm.findClass RL = some m.cls := findClass_of_methodNamed B.named
  have hlocks := B.notSynchronized
  have hD := hD0.self (sz := s.heap.size)
  generalize hAe : va_A (wRootJ g ad st sv isS hst spare undo seen dbef drec ptx plen ppos pcnt cmds stE stF lch llen jo) s.heap.size = A at hD hB ⊢
  have hA : ∀ q : Nat, s.heap.size ≤ q → A q := fun q h => by rw [← hAe]; exact Or.inr h
  have hS : va_S A s.heap s.heap [] := va_S.rf
  have hl := lv_entry ([.ref (ad 0), .ref (ad 74)]) (n := 3) (Nat.le_of_ble_eq_true rfl)
  rw [lg_entry_eq]
  generalize (lg_sl ([.ref (ad 0), .ref (ad 74)]) ++ List.replicate (3 - (lg_sl ([.ref (ad 0), .ref (ad 74)])).length) Slot.unset).toArray = ls at hl ⊢
  have hl : lv_has ls 3 [(0, .ref (ad 0)), (1, .ref (ad 74))] := hl
  unfold F_L_run at hF
  refine lv_aload_n hx hb dL_run_0 rfl (lv_at hl 1 rfl) ?_
  refine lv_iconst (v := 0) hx hb dL_run_1 (by decide) ?_
  refine lv_aload_n hx hb dL_run_2 rfl (lv_at hl 0 rfl) ?_
  obtain ⟨zo1, hzo1, hF⟩ := z_bind hF
  refine z_calliX (fun (u : SS × (Nat → SS) × Int32 × Int32 × Int32 × Int32 × Int32 × (Nat → CC) × Int32 × Int32) => (wRoot g ad u.1 sv isS u.2.1 u.2.2.1 u.2.2.2.1 seen dbef drec ptx u.2.2.2.2.1 u.2.2.2.2.2.1 u.2.2.2.2.2.2.1 u.2.2.2.2.2.2.2.1 u.2.2.2.2.2.2.2.2.1 u.2.2.2.2.2.2.2.2.2 lch llen)) (fun (x : Nat × (SS × (Nat → SS) × Int32 × Int32 × Int32 × Int32 × Int32 × (Nat → CC) × Int32 × Int32)) => (wRoot g ad x.2.1 sv isS x.2.2.1 x.2.2.2.1 x.2.2.2.2.1 seen dbef drec ptx x.2.2.2.2.2.1 x.2.2.2.2.2.2.1 x.2.2.2.2.2.2.2.1 x.2.2.2.2.2.2.2.2.1 x.2.2.2.2.2.2.2.2.2.1 x.2.2.2.2.2.2.2.2.2.2 lch llen)) (fun (x : Nat × (SS × (Nat → SS) × Int32 × Int32 × Int32 × Int32 × Int32 × (Nat → CC) × Int32 × Int32)) => xN x.1) zRJ (vx_runV (As := []) (rest := [.int 0, .ref (ad 74)]) ⟨hx, hb, hml, hown, hts⟩ (c_X10_run l hl0 g ad st sv isS hst spare undo seen dbef drec ptx plen ppos pcnt cmds stE stF lch llen _ fu _ hzo1) (cwV 0 hts (gdV mU_1050 mU_1051 mU_1052 mU_66 mU_1053) rfl rfl rfl (by decide +kernel) ⟨Nat.le_of_ble_eq_true rfl, Nat.le_of_ble_eq_true rfl⟩) ⟨z_blind _ _ _ _, va_recv hK hP (ci := 6) (q0 := 0) rfl rfl, fun U hU hW => z_pre zRJ hP hD hK hB hS hA wRootJ_C wRootJ_N hU hW⟩ rfl rfl hl.1 rfl (lv_room (Nat.le_of_ble_eq_true rfl)) dL_run_3 ⟨Nat.le_of_ble_eq_true rfl, Nat.le_of_ble_eq_true rfl⟩) hP hD hS hA wRootJ_C (fun _ => rfl) (fun _ => rfl) (fun zw1 ce q9 H locs hw hP hD hS hq1 hq2 hq3 => ?_) (fun r u H locs hw hP hD hS => ?_)
  · subst hw
    have hF : _ = some o := hF
    have hP : va_P (gD g) zCl (wRootJ g ad zw1.2.1 sv isS zw1.2.2.1 zw1.2.2.2.1 zw1.2.2.2.2.1 seen dbef drec ptx zw1.2.2.2.2.2.1 zw1.2.2.2.2.2.2.1 zw1.2.2.2.2.2.2.2.1 zw1.2.2.2.2.2.2.2.2.1 zw1.2.2.2.2.2.2.2.2.2.1 zw1.2.2.2.2.2.2.2.2.2.2 lch llen jo) H := Eq.mp (congrArg (fun w => va_P (gD g) zCl w H) wRootJ_S) hP
    have hD : va_D A (wRootJ g ad zw1.2.1 sv isS zw1.2.2.1 zw1.2.2.2.1 zw1.2.2.2.2.1 seen dbef drec ptx zw1.2.2.2.2.2.1 zw1.2.2.2.2.2.2.1 zw1.2.2.2.2.2.2.2.1 zw1.2.2.2.2.2.2.2.2.1 zw1.2.2.2.2.2.2.2.2.2.1 zw1.2.2.2.2.2.2.2.2.2.2 lch llen jo) := Eq.mp (congrArg (fun w => va_D A w) wRootJ_S) hD
    have hF := z_err hF
    have hq3 : s.vm.findClass (xN zw1.1) = some ce.cls := hq3
    by_cases zc2 : zw1.1 = 0
    · have hF := z_pos hF zc2
      rw [zc2] at hq3
      have hq3 : s.vm.findClass "java/lang/IllegalArgumentException" = some ce.cls := hq3
      refine vx_catch (own := RL) (name := "java/lang/IllegalArgumentException") (E := "java/lang/IllegalArgumentException") hown [] (⟨0, 8, 11, 13⟩ : ExceptionTableEntry) [(⟨0, 8, 14, 17⟩ : ExceptionTableEntry)] (htab.trans rfl) (fun _ h => absurd h List.not_mem_nil) rfl (by decide) (hts _ mU_436) (va_Nw.use rfl (hB.2.1.1 _ zn_458)) hq1 hq2 hq3 ?_
      refine lv_astore_n (lv' := [(2, .ref q9), (0, .ref (ad 0)), (1, .ref (ad 74))]) hx hb dL_run_11 rfl hl (by decide) rfl (fun ls hl => ?_)
      refine lv_iconst (v := 1) hx hb dL_run_12 (by decide) ?_
      have ho := (Option.some.inj hF).symm
      exact W.iret (v := 1) hx hb hr (fun t ht hW => ⟨⟨1, (zw1.2.1, zw1.2.2.1, zw1.2.2.2.1, zw1.2.2.2.2.1, zw1.2.2.2.2.2.1, zw1.2.2.2.2.2.2.1, zw1.2.2.2.2.2.2.2.1, zw1.2.2.2.2.2.2.2.2.1, zw1.2.2.2.2.2.2.2.2.2.1, zw1.2.2.2.2.2.2.2.2.2.2, jo), rfl, ⟨by rw [ho], by rw [ho]⟩, z_end ht hP⟩, hS.F ht⟩) hS.2.2 dL_run_13
    have hF := z_neg hF zc2
    by_cases zc3 : zw1.1 = 2
    · have hF := z_pos hF zc3
      rw [zc3] at hq3
      have hq3 : s.vm.findClass "java/lang/UnsupportedOperationException" = some ce.cls := hq3
      refine vx_catch (own := RL) (name := "java/lang/UnsupportedOperationException") (E := "java/lang/UnsupportedOperationException") hown [(⟨0, 8, 11, 13⟩ : ExceptionTableEntry)] (⟨0, 8, 14, 17⟩ : ExceptionTableEntry) [] (htab.trans rfl) (List.forall_mem_cons.mpr ⟨(Or.inr ⟨by decide, "java/lang/IllegalArgumentException", hts _ mU_436, hB.2.1.2.1 ("java/lang/UnsupportedOperationException", "java/lang/IllegalArgumentException") (by decide +kernel)⟩), (fun _ h => absurd h List.not_mem_nil)⟩) rfl (by decide) (hts _ mU_438) (va_Nw.use rfl (hB.2.1.1 _ zn_646)) hq1 hq2 hq3 ?_
      refine lv_astore_n (lv' := [(2, .ref q9), (0, .ref (ad 0)), (1, .ref (ad 74))]) hx hb dL_run_14 rfl hl (by decide) rfl (fun ls hl => ?_)
      refine lv_iconst (v := 2) hx hb dL_run_15 (by decide) ?_
      have ho := (Option.some.inj hF).symm
      exact W.iret (v := 2) hx hb hr (fun t ht hW => ⟨⟨2, (zw1.2.1, zw1.2.2.1, zw1.2.2.2.1, zw1.2.2.2.2.1, zw1.2.2.2.2.2.1, zw1.2.2.2.2.2.2.1, zw1.2.2.2.2.2.2.2.1, zw1.2.2.2.2.2.2.2.2.1, zw1.2.2.2.2.2.2.2.2.2.1, zw1.2.2.2.2.2.2.2.2.2.2, jo), rfl, ⟨by rw [ho], by rw [ho]⟩, z_end ht hP⟩, hS.F ht⟩) hS.2.2 dL_run_16
    have hF := z_neg hF zc3
    exact absurd hF (by simp)
  · obtain ⟨za1, rfl, rfl, rfl⟩ := hw
    have hF := z_okk hF
    have hP : va_P (gD g) zCl (wRootJ g ad za1.2.1 sv isS za1.2.2.1 za1.2.2.2.1 za1.2.2.2.2.1 seen dbef drec ptx za1.2.2.2.2.2.1 za1.2.2.2.2.2.2.1 za1.2.2.2.2.2.2.2.1 za1.2.2.2.2.2.2.2.2.1 za1.2.2.2.2.2.2.2.2.2.1 za1.2.2.2.2.2.2.2.2.2.2 lch llen jo) H := Eq.mp (congrArg (fun w => va_P (gD g) zCl w H) wRootJ_S) hP
    have hD : va_D A (wRootJ g ad za1.2.1 sv isS za1.2.2.1 za1.2.2.2.1 za1.2.2.2.2.1 seen dbef drec ptx za1.2.2.2.2.2.1 za1.2.2.2.2.2.2.1 za1.2.2.2.2.2.2.2.1 za1.2.2.2.2.2.2.2.2.1 za1.2.2.2.2.2.2.2.2.2.1 za1.2.2.2.2.2.2.2.2.2.2 lch llen jo) := Eq.mp (congrArg (fun w => va_D A w) wRootJ_S) hD
    refine lv_i2l (v := (Int32.toInt64 za1.1)) hx hb dL_run_6 rfl ?_
    refine va_last hx hb hK hP hD hS 74 2 rfl rfl (by unfold vp_in; decide) dL_run_7 (fun H locs hP hD hS => ?_)
    have hP : va_P (gD g) zCl (wRootJ g ad za1.2.1 sv isS za1.2.2.1 za1.2.2.2.1 za1.2.2.2.2.1 seen dbef drec ptx za1.2.2.2.2.2.1 za1.2.2.2.2.2.2.1 za1.2.2.2.2.2.2.2.1 za1.2.2.2.2.2.2.2.2.1 za1.2.2.2.2.2.2.2.2.2.1 za1.2.2.2.2.2.2.2.2.2.2 lch llen (vp_updL jo (Int32.toNatClampNeg 0) (Int32.toInt64 za1.1))) H := hP
    have hD : va_D A (wRootJ g ad za1.2.1 sv isS za1.2.2.1 za1.2.2.2.1 za1.2.2.2.2.1 seen dbef drec ptx za1.2.2.2.2.2.1 za1.2.2.2.2.2.2.1 za1.2.2.2.2.2.2.2.1 za1.2.2.2.2.2.2.2.2.1 za1.2.2.2.2.2.2.2.2.2.1 za1.2.2.2.2.2.2.2.2.2.2 lch llen (vp_updL jo (Int32.toNatClampNeg 0) (Int32.toInt64 za1.1))) := hD
    refine lv_goto (tgt := 17) hx hb dL_run_8 (by decide) ?_
    refine lv_iconst (v := 0) hx hb dL_run_17 (by decide) ?_
    have ho := (Option.some.inj hF).symm
    exact W.iret (v := 0) hx hb hr (fun t ht hW => ⟨⟨0, (za1.2.1, za1.2.2.1, za1.2.2.2.1, za1.2.2.2.2.1, za1.2.2.2.2.2.1, za1.2.2.2.2.2.2.1, za1.2.2.2.2.2.2.2.1, za1.2.2.2.2.2.2.2.2.1, za1.2.2.2.2.2.2.2.2.2.1, za1.2.2.2.2.2.2.2.2.2.2, (vp_updL jo (Int32.toNatClampNeg 0) (Int32.toInt64 za1.1))), rfl, ⟨by rw [ho], by rw [ho]⟩, z_end ht hP⟩, hS.F ht⟩) hS.2.2 dL_run_18
abbrev w_L_errorPosition : List Cond := .codeWith yL_errorPosition cL_errorPosition 3 (some .int) [(0, 8, 11, 26)] :: wU
abbrev r_L_errorPosition : Room := { frames := 7, cells := 1, slots := 6, locals := 102 }
abbrev q_L_errorPosition (g : GG) (ad : Nat → Nat) (st : SS) (sv : SS) (isS : Int32) (hst : Nat → SS) (spare : Int32) (undo : Int32) (seen : Nat → Int32) (dbef : Int32) (drec : Int32) (ptx : Nat → Int32) (plen : Int32) (ppos : Int32) (pcnt : Int32) (cmds : Nat → CC) (stE : Int32) (stF : Int32) (lch : Nat → Int32) (llen : Int32) (jo : Nat → Int64) (o : Int32 × (Nat → Int64)) (A : Nat → Prop) := va_Qi (fun (r : Int32) (u : (Nat → Int64)) => o.1 = r ∧ o.2 = u) (fun u t => va_P (gD g) zCl (wRootJ g ad st sv isS hst spare undo seen dbef drec ptx plen ppos pcnt cmds stE stF lch llen u) t.heap) A
set_option maxHeartbeats 4000000 in
set_option maxRecDepth 100000 in
theorem c_L_errorPosition (l : Launch) (hl0 : l.stackTraces = false) (g : GG) (ad : Nat → Nat) (st : SS) (sv : SS) (isS : Int32) (hst : Nat → SS) (spare : Int32) (undo : Int32) (seen : Nat → Int32) (dbef : Int32) (drec : Int32) (ptx : Nat → Int32) (plen : Int32) (ppos : Int32) (pcnt : Int32) (cmds : Nat → CC) (stE : Int32) (stF : Int32) (lch : Nat → Int32) (llen : Int32) (jo : Nat → Int64) (sz : Nat) (o : Int32 × (Nat → Int64)) (hF : F_L_errorPosition stE jo = some o) : Met l yL_errorPosition w_L_errorPosition r_L_errorPosition (va_Pc [.ref (ad 0), .ref (ad 74)] (zP g (wRootJ g ad st sv isS hst spare undo seen dbef drec ptx plen ppos pcnt cmds stE stF lch llen jo) sz)) (q_L_errorPosition g ad st sv isS hst spare undo seen dbef drec ptx plen ppos pcnt cmds stE stF lch llen jo o (va_A (wRootJ g ad st sv isS hst spare undo seen dbef drec ptx plen ppos pcnt cmds stE stF lch llen jo) sz)) 1 6 (va_A (wRootJ g ad st sv isS hst spare undo seen dbef drec ptx plen ppos pcnt cmds stE stF lch llen jo) sz) := by
  refine va_MetW (cc := cL_errorPosition) (maxL := 3) (ret := (some .int)) (by decide) rfl ?_
  intro p e s m args below meth c s₁ B hml hv
  obtain ⟨rfl, rfl, hP, hK, hD0, hB⟩ := hv
  have hx := B.exec
  have hb := B.bytes
  have hr := B.returns
  have htab : c.exceptionTable.toList = tableOf [(0, 8, 11, 26)] := vx_table (x := yL_errorPosition) B (atoms_spec (ws := w_L_errorPosition) B.pre _ List.mem_cons_self)
  have hts : ∀ w ∈ wU, w.before _ s = true := fun w h => atoms_spec (ws := w_L_errorPosition) B.pre w (List.mem_cons_of_mem _ h)
  have hown : s.vm.findClass RL = some m.cls := findClass_of_methodNamed B.named
  have hlocks := B.notSynchronized
  have hD := hD0.self (sz := s.heap.size)
  generalize hAe : va_A (wRootJ g ad st sv isS hst spare undo seen dbef drec ptx plen ppos pcnt cmds stE stF lch llen jo) s.heap.size = A at hD hB ⊢
  have hA : ∀ q : Nat, s.heap.size ≤ q → A q := fun q h => by rw [← hAe]; exact Or.inr h
  have hS : va_S A s.heap s.heap [] := va_S.rf
  have hl := lv_entry ([.ref (ad 0), .ref (ad 74)]) (n := 3) (Nat.le_of_ble_eq_true rfl)
  rw [lg_entry_eq]
  generalize (lg_sl ([.ref (ad 0), .ref (ad 74)]) ++ List.replicate (3 - (lg_sl ([.ref (ad 0), .ref (ad 74)])).length) Slot.unset).toArray = ls at hl ⊢
  have hl : lv_has ls 3 [(0, .ref (ad 0)), (1, .ref (ad 74))] := hl
  unfold F_L_errorPosition at hF
  refine lv_aload_n hx hb dL_errorPosition_0 rfl (lv_at hl 1 rfl) ?_
  refine lv_iconst (v := 0) hx hb dL_errorPosition_1 (by decide) ?_
  refine lv_aload_n hx hb dL_errorPosition_2 rfl (lv_at hl 0 rfl) ?_
  obtain ⟨zo1, hzo1, hF⟩ := z_bind hF
  refine z_calliX (fun (_ : Unit) => (wRoot g ad st sv isS hst spare undo seen dbef drec ptx plen ppos pcnt cmds stE stF lch llen)) (fun (x : Nat × (Unit)) => (wRoot g ad st sv isS hst spare undo seen dbef drec ptx plen ppos pcnt cmds stE stF lch llen)) (fun (x : Nat × (Unit)) => xN x.1) zRJ (vx_runV (As := []) (rest := [.int 0, .ref (ad 74)]) ⟨hx, hb, hml, hown, hts⟩ (c_X10_errorPosition l hl0 g ad st sv isS hst spare undo seen dbef drec ptx plen ppos pcnt cmds stE stF lch llen _ _ hzo1) (cwV 0 hts (gdV mU_1163 mU_1164 mU_1165 mU_66 mU_1166) rfl rfl rfl (by decide +kernel) ⟨Nat.le_of_ble_eq_true rfl, Nat.le_of_ble_eq_true rfl⟩) ⟨z_blind _ _ _ _, va_recv hK hP (ci := 6) (q0 := 0) rfl rfl, fun U hU hW => z_pre zRJ hP hD hK hB hS hA wRootJ_C wRootJ_N hU hW⟩ rfl rfl hl.1 rfl (lv_room (Nat.le_of_ble_eq_true rfl)) dL_errorPosition_3 ⟨Nat.le_of_ble_eq_true rfl, Nat.le_of_ble_eq_true rfl⟩) hP hD hS hA wRootJ_C (fun _ => rfl) (fun _ => rfl) (fun zw1 ce q9 H locs hw hP hD hS hq1 hq2 hq3 => ?_) (fun r u H locs hw hP hD hS => ?_)
  · subst hw
    have hF : _ = some o := hF
    have hP : va_P (gD g) zCl (wRootJ g ad st sv isS hst spare undo seen dbef drec ptx plen ppos pcnt cmds stE stF lch llen jo) H := Eq.mp (congrArg (fun w => va_P (gD g) zCl w H) wRootJ_S) hP
    have hD : va_D A (wRootJ g ad st sv isS hst spare undo seen dbef drec ptx plen ppos pcnt cmds stE stF lch llen jo) := Eq.mp (congrArg (fun w => va_D A w) wRootJ_S) hD
    have hF := z_err hF
    have hq3 : s.vm.findClass (xN zw1.1) = some ce.cls := hq3
    by_cases zc2 : zw1.1 = 3
    · have hF := z_pos hF zc2
      rw [zc2] at hq3
      have hq3 : s.vm.findClass "java/util/NoSuchElementException" = some ce.cls := hq3
      refine vx_catch (own := RL) (name := "java/util/NoSuchElementException") (E := "java/util/NoSuchElementException") hown [] (⟨0, 8, 11, 26⟩ : ExceptionTableEntry) [] (htab.trans rfl) (fun _ h => absurd h List.not_mem_nil) rfl (by decide) (hts _ mU_690) (va_Nw.use rfl (hB.2.1.1 _ zn_705)) hq1 hq2 hq3 ?_
      refine lv_astore_n (lv' := [(2, .ref q9), (0, .ref (ad 0)), (1, .ref (ad 74))]) hx hb dL_errorPosition_11 rfl hl (by decide) rfl (fun ls hl => ?_)
      refine lv_iconst (v := 1) hx hb dL_errorPosition_12 (by decide) ?_
      have ho := (Option.some.inj hF).symm
      exact W.iret (v := 1) hx hb hr (fun t ht hW => ⟨⟨1, jo, rfl, ⟨by rw [ho], by rw [ho]⟩, z_end ht hP⟩, hS.F ht⟩) hS.2.2 dL_errorPosition_13
    have hF := z_neg hF zc2
    exact absurd hF (by simp)
  · obtain ⟨za1, rfl, rfl⟩ := hw
    have hF := z_okk hF
    have hP : va_P (gD g) zCl (wRootJ g ad st sv isS hst spare undo seen dbef drec ptx plen ppos pcnt cmds stE stF lch llen jo) H := Eq.mp (congrArg (fun w => va_P (gD g) zCl w H) wRootJ_S) hP
    have hD : va_D A (wRootJ g ad st sv isS hst spare undo seen dbef drec ptx plen ppos pcnt cmds stE stF lch llen jo) := Eq.mp (congrArg (fun w => va_D A w) wRootJ_S) hD
    refine lv_i2l (v := (Int32.toInt64 za1)) hx hb dL_errorPosition_6 rfl ?_
    refine va_last hx hb hK hP hD hS 74 2 rfl rfl (by unfold vp_in; decide) dL_errorPosition_7 (fun H locs hP hD hS => ?_)
    have hP : va_P (gD g) zCl (wRootJ g ad st sv isS hst spare undo seen dbef drec ptx plen ppos pcnt cmds stE stF lch llen (vp_updL jo (Int32.toNatClampNeg 0) (Int32.toInt64 za1))) H := hP
    have hD : va_D A (wRootJ g ad st sv isS hst spare undo seen dbef drec ptx plen ppos pcnt cmds stE stF lch llen (vp_updL jo (Int32.toNatClampNeg 0) (Int32.toInt64 za1))) := hD
    refine lv_goto (tgt := 14) hx hb dL_errorPosition_8 (by decide) ?_
    refine lv_iconst (v := 0) hx hb dL_errorPosition_14 (by decide) ?_
    have ho := (Option.some.inj hF).symm
    exact W.iret (v := 0) hx hb hr (fun t ht hW => ⟨⟨0, (vp_updL jo (Int32.toNatClampNeg 0) (Int32.toInt64 za1)), rfl, ⟨by rw [ho], by rw [ho]⟩, z_end ht hP⟩, hS.F ht⟩) hS.2.2 dL_errorPosition_15
abbrev w_L_failedCommand : List Cond := .codeWith yL_failedCommand cL_failedCommand 3 (some .int) [(0, 8, 11, 26)] :: wU
abbrev r_L_failedCommand : Room := { frames := 7, cells := 1, slots := 6, locals := 102 }
abbrev q_L_failedCommand (g : GG) (ad : Nat → Nat) (st : SS) (sv : SS) (isS : Int32) (hst : Nat → SS) (spare : Int32) (undo : Int32) (seen : Nat → Int32) (dbef : Int32) (drec : Int32) (ptx : Nat → Int32) (plen : Int32) (ppos : Int32) (pcnt : Int32) (cmds : Nat → CC) (stE : Int32) (stF : Int32) (lch : Nat → Int32) (llen : Int32) (jo : Nat → Int64) (o : Int32 × (Nat → Int64)) (A : Nat → Prop) := va_Qi (fun (r : Int32) (u : (Nat → Int64)) => o.1 = r ∧ o.2 = u) (fun u t => va_P (gD g) zCl (wRootJ g ad st sv isS hst spare undo seen dbef drec ptx plen ppos pcnt cmds stE stF lch llen u) t.heap) A
set_option maxHeartbeats 4000000 in
set_option maxRecDepth 100000 in
theorem c_L_failedCommand (l : Launch) (hl0 : l.stackTraces = false) (g : GG) (ad : Nat → Nat) (st : SS) (sv : SS) (isS : Int32) (hst : Nat → SS) (spare : Int32) (undo : Int32) (seen : Nat → Int32) (dbef : Int32) (drec : Int32) (ptx : Nat → Int32) (plen : Int32) (ppos : Int32) (pcnt : Int32) (cmds : Nat → CC) (stE : Int32) (stF : Int32) (lch : Nat → Int32) (llen : Int32) (jo : Nat → Int64) (sz : Nat) (o : Int32 × (Nat → Int64)) (hF : F_L_failedCommand stF jo = some o) : Met l yL_failedCommand w_L_failedCommand r_L_failedCommand (va_Pc [.ref (ad 0), .ref (ad 74)] (zP g (wRootJ g ad st sv isS hst spare undo seen dbef drec ptx plen ppos pcnt cmds stE stF lch llen jo) sz)) (q_L_failedCommand g ad st sv isS hst spare undo seen dbef drec ptx plen ppos pcnt cmds stE stF lch llen jo o (va_A (wRootJ g ad st sv isS hst spare undo seen dbef drec ptx plen ppos pcnt cmds stE stF lch llen jo) sz)) 1 6 (va_A (wRootJ g ad st sv isS hst spare undo seen dbef drec ptx plen ppos pcnt cmds stE stF lch llen jo) sz) := by
  refine va_MetW (cc := cL_failedCommand) (maxL := 3) (ret := (some .int)) (by decide) rfl ?_
  intro p e s m args below meth c s₁ B hml hv
  obtain ⟨rfl, rfl, hP, hK, hD0, hB⟩ := hv
  have hx := B.exec
  have hb := B.bytes
  have hr := B.returns
  have htab : c.exceptionTable.toList = tableOf [(0, 8, 11, 26)] := vx_table (x := yL_failedCommand) B (atoms_spec (ws := w_L_failedCommand) B.pre _ List.mem_cons_self)
  have hts : ∀ w ∈ wU, w.before _ s = true := fun w h => atoms_spec (ws := w_L_failedCommand) B.pre w (List.mem_cons_of_mem _ h)
  have hown : s.vm.findClass RL = some m.cls := findClass_of_methodNamed B.named
  have hlocks := B.notSynchronized
  have hD := hD0.self (sz := s.heap.size)
  generalize hAe : va_A (wRootJ g ad st sv isS hst spare undo seen dbef drec ptx plen ppos pcnt cmds stE stF lch llen jo) s.heap.size = A at hD hB ⊢
  have hA : ∀ q : Nat, s.heap.size ≤ q → A q := fun q h => by rw [← hAe]; exact Or.inr h
  have hS : va_S A s.heap s.heap [] := va_S.rf
  have hl := lv_entry ([.ref (ad 0), .ref (ad 74)]) (n := 3) (Nat.le_of_ble_eq_true rfl)
  rw [lg_entry_eq]
  generalize (lg_sl ([.ref (ad 0), .ref (ad 74)]) ++ List.replicate (3 - (lg_sl ([.ref (ad 0), .ref (ad 74)])).length) Slot.unset).toArray = ls at hl ⊢
  have hl : lv_has ls 3 [(0, .ref (ad 0)), (1, .ref (ad 74))] := hl
  unfold F_L_failedCommand at hF
  refine lv_aload_n hx hb dL_failedCommand_0 rfl (lv_at hl 1 rfl) ?_
  refine lv_iconst (v := 0) hx hb dL_failedCommand_1 (by decide) ?_
  refine lv_aload_n hx hb dL_failedCommand_2 rfl (lv_at hl 0 rfl) ?_
  obtain ⟨zo1, hzo1, hF⟩ := z_bind hF
  refine z_calliX (fun (_ : Unit) => (wRoot g ad st sv isS hst spare undo seen dbef drec ptx plen ppos pcnt cmds stE stF lch llen)) (fun (x : Nat × (Unit)) => (wRoot g ad st sv isS hst spare undo seen dbef drec ptx plen ppos pcnt cmds stE stF lch llen)) (fun (x : Nat × (Unit)) => xN x.1) zRJ (vx_runV (As := []) (rest := [.int 0, .ref (ad 74)]) ⟨hx, hb, hml, hown, hts⟩ (c_X10_failedCommand l hl0 g ad st sv isS hst spare undo seen dbef drec ptx plen ppos pcnt cmds stE stF lch llen _ _ hzo1) (cwV 0 hts (gdV mU_1171 mU_1172 mU_1173 mU_66 mU_1174) rfl rfl rfl (by decide +kernel) ⟨Nat.le_of_ble_eq_true rfl, Nat.le_of_ble_eq_true rfl⟩) ⟨z_blind _ _ _ _, va_recv hK hP (ci := 6) (q0 := 0) rfl rfl, fun U hU hW => z_pre zRJ hP hD hK hB hS hA wRootJ_C wRootJ_N hU hW⟩ rfl rfl hl.1 rfl (lv_room (Nat.le_of_ble_eq_true rfl)) dL_failedCommand_3 ⟨Nat.le_of_ble_eq_true rfl, Nat.le_of_ble_eq_true rfl⟩) hP hD hS hA wRootJ_C (fun _ => rfl) (fun _ => rfl) (fun zw1 ce q9 H locs hw hP hD hS hq1 hq2 hq3 => ?_) (fun r u H locs hw hP hD hS => ?_)
  · subst hw
    have hF : _ = some o := hF
    have hP : va_P (gD g) zCl (wRootJ g ad st sv isS hst spare undo seen dbef drec ptx plen ppos pcnt cmds stE stF lch llen jo) H := Eq.mp (congrArg (fun w => va_P (gD g) zCl w H) wRootJ_S) hP
    have hD : va_D A (wRootJ g ad st sv isS hst spare undo seen dbef drec ptx plen ppos pcnt cmds stE stF lch llen jo) := Eq.mp (congrArg (fun w => va_D A w) wRootJ_S) hD
    have hF := z_err hF
    have hq3 : s.vm.findClass (xN zw1.1) = some ce.cls := hq3
    by_cases zc2 : zw1.1 = 3
    · have hF := z_pos hF zc2
      rw [zc2] at hq3
      have hq3 : s.vm.findClass "java/util/NoSuchElementException" = some ce.cls := hq3
      refine vx_catch (own := RL) (name := "java/util/NoSuchElementException") (E := "java/util/NoSuchElementException") hown [] (⟨0, 8, 11, 26⟩ : ExceptionTableEntry) [] (htab.trans rfl) (fun _ h => absurd h List.not_mem_nil) rfl (by decide) (hts _ mU_690) (va_Nw.use rfl (hB.2.1.1 _ zn_705)) hq1 hq2 hq3 ?_
      refine lv_astore_n (lv' := [(2, .ref q9), (0, .ref (ad 0)), (1, .ref (ad 74))]) hx hb dL_failedCommand_11 rfl hl (by decide) rfl (fun ls hl => ?_)
      refine lv_iconst (v := 1) hx hb dL_failedCommand_12 (by decide) ?_
      have ho := (Option.some.inj hF).symm
      exact W.iret (v := 1) hx hb hr (fun t ht hW => ⟨⟨1, jo, rfl, ⟨by rw [ho], by rw [ho]⟩, z_end ht hP⟩, hS.F ht⟩) hS.2.2 dL_failedCommand_13
    have hF := z_neg hF zc2
    exact absurd hF (by simp)
  · obtain ⟨za1, rfl, rfl⟩ := hw
    have hF := z_okk hF
    have hP : va_P (gD g) zCl (wRootJ g ad st sv isS hst spare undo seen dbef drec ptx plen ppos pcnt cmds stE stF lch llen jo) H := Eq.mp (congrArg (fun w => va_P (gD g) zCl w H) wRootJ_S) hP
    have hD : va_D A (wRootJ g ad st sv isS hst spare undo seen dbef drec ptx plen ppos pcnt cmds stE stF lch llen jo) := Eq.mp (congrArg (fun w => va_D A w) wRootJ_S) hD
    refine lv_i2l (v := (Int32.toInt64 za1)) hx hb dL_failedCommand_6 rfl ?_
    refine va_last hx hb hK hP hD hS 74 2 rfl rfl (by unfold vp_in; decide) dL_failedCommand_7 (fun H locs hP hD hS => ?_)
    have hP : va_P (gD g) zCl (wRootJ g ad st sv isS hst spare undo seen dbef drec ptx plen ppos pcnt cmds stE stF lch llen (vp_updL jo (Int32.toNatClampNeg 0) (Int32.toInt64 za1))) H := hP
    have hD : va_D A (wRootJ g ad st sv isS hst spare undo seen dbef drec ptx plen ppos pcnt cmds stE stF lch llen (vp_updL jo (Int32.toNatClampNeg 0) (Int32.toInt64 za1))) := hD
    refine lv_goto (tgt := 14) hx hb dL_failedCommand_8 (by decide) ?_
    refine lv_iconst (v := 0) hx hb dL_failedCommand_14 (by decide) ?_
    have ho := (Option.some.inj hF).symm
    exact W.iret (v := 0) hx hb hr (fun t ht hW => ⟨⟨0, (vp_updL jo (Int32.toNatClampNeg 0) (Int32.toInt64 za1)), rfl, ⟨by rw [ho], by rw [ho]⟩, z_end ht hP⟩, hS.F ht⟩) hS.2.2 dL_failedCommand_15
abbrev w_L_writeNumber : List Cond := .codeWith yL_writeNumber cL_writeNumber 4 (some .int) [(0, 9, 12, 26)] :: wU
abbrev r_L_writeNumber : Room := { frames := 8, cells := 1, slots := 6, locals := 129 }
abbrev q_L_writeNumber (g : GG) (ad : Nat → Nat) (st : SS) (sv : SS) (isS : Int32) (hst : Nat → SS) (spare : Int32) (undo : Int32) (seen : Nat → Int32) (dbef : Int32) (drec : Int32) (ptx : Nat → Int32) (plen : Int32) (ppos : Int32) (pcnt : Int32) (cmds : Nat → CC) (stE : Int32) (stF : Int32) (lch : Nat → Int32) (llen : Int32) (jo : Nat → Int64) (o : Int32 × (Nat → Int32) × Int32 × (Nat → Int64)) (A : Nat → Prop) := va_Qi (fun (r : Int32) (u : (Nat → Int32) × Int32 × (Nat → Int64)) => o.1 = r ∧ o.2 = u) (fun u t => va_P (gD g) zCl (wRootJ g ad st sv isS hst spare undo seen dbef drec ptx plen ppos pcnt cmds stE stF u.1 u.2.1 u.2.2) t.heap) A
set_option maxHeartbeats 4000000 in
set_option maxRecDepth 100000 in
theorem c_L_writeNumber (l : Launch) (hl0 : l.stackTraces = false) (g : GG) (ad : Nat → Nat) (st : SS) (sv : SS) (isS : Int32) (hst : Nat → SS) (spare : Int32) (undo : Int32) (seen : Nat → Int32) (dbef : Int32) (drec : Int32) (ptx : Nat → Int32) (plen : Int32) (ppos : Int32) (pcnt : Int32) (cmds : Nat → CC) (stE : Int32) (stF : Int32) (lch : Nat → Int32) (llen : Int32) (jo : Nat → Int64) (sz : Nat) (p1 : Int32) (fu : Nat) (o : Int32 × (Nat → Int32) × Int32 × (Nat → Int64)) (hF : F_L_writeNumber fu st lch llen jo p1 = some o) : Met l yL_writeNumber w_L_writeNumber r_L_writeNumber (va_Pc [.ref (ad 0), .int p1, .ref (ad 74)] (zP g (wRootJ g ad st sv isS hst spare undo seen dbef drec ptx plen ppos pcnt cmds stE stF lch llen jo) sz)) (q_L_writeNumber g ad st sv isS hst spare undo seen dbef drec ptx plen ppos pcnt cmds stE stF lch llen jo o (va_A (wRootJ g ad st sv isS hst spare undo seen dbef drec ptx plen ppos pcnt cmds stE stF lch llen jo) sz)) 1 6 (va_A (wRootJ g ad st sv isS hst spare undo seen dbef drec ptx plen ppos pcnt cmds stE stF lch llen jo) sz) := by
  refine va_MetW (cc := cL_writeNumber) (maxL := 4) (ret := (some .int)) (by decide) rfl ?_
  intro p e s m args below meth c s₁ B hml hv
  obtain ⟨rfl, rfl, hP, hK, hD0, hB⟩ := hv
  have hx := B.exec
  have hb := B.bytes
  have hr := B.returns
  have htab : c.exceptionTable.toList = tableOf [(0, 9, 12, 26)] := vx_table (x := yL_writeNumber) B (atoms_spec (ws := w_L_writeNumber) B.pre _ List.mem_cons_self)
  have hts : ∀ w ∈ wU, w.before _ s = true := fun w h => atoms_spec (ws := w_L_writeNumber) B.pre w (List.mem_cons_of_mem _ h)
  have hown : s.vm.findClass RL = some m.cls := findClass_of_methodNamed B.named
  have hlocks := B.notSynchronized
  have hD := hD0.self (sz := s.heap.size)
  generalize hAe : va_A (wRootJ g ad st sv isS hst spare undo seen dbef drec ptx plen ppos pcnt cmds stE stF lch llen jo) s.heap.size = A at hD hB ⊢
  have hA : ∀ q : Nat, s.heap.size ≤ q → A q := fun q h => by rw [← hAe]; exact Or.inr h
  have hS : va_S A s.heap s.heap [] := va_S.rf
  have hl := lv_entry ([.ref (ad 0), .int p1, .ref (ad 74)]) (n := 4) (Nat.le_of_ble_eq_true rfl)
  rw [lg_entry_eq]
  generalize (lg_sl ([.ref (ad 0), .int p1, .ref (ad 74)]) ++ List.replicate (4 - (lg_sl ([.ref (ad 0), .int p1, .ref (ad 74)])).length) Slot.unset).toArray = ls at hl ⊢
  have hl : lv_has ls 4 [(0, .ref (ad 0)), (1, .int p1), (2, .ref (ad 74))] := hl
  unfold F_L_writeNumber at hF
  refine lv_aload_n hx hb dL_writeNumber_0 rfl (lv_at hl 2 rfl) ?_
  refine lv_iconst (v := 0) hx hb dL_writeNumber_1 (by decide) ?_
  refine lv_aload_n hx hb dL_writeNumber_2 rfl (lv_at hl 0 rfl) ?_
  refine lv_iload_n hx hb dL_writeNumber_3 rfl (lv_at hl 1 rfl) ?_
  obtain ⟨zo1, hzo1, hF⟩ := z_bind hF
  refine z_calliX (fun (u : (Nat → Int32) × Int32) => (wRoot g ad st sv isS hst spare undo seen dbef drec ptx plen ppos pcnt cmds stE stF u.1 u.2)) (fun (x : Nat × ((Nat → Int32) × Int32)) => (wRoot g ad st sv isS hst spare undo seen dbef drec ptx plen ppos pcnt cmds stE stF x.2.1 x.2.2)) (fun (x : Nat × ((Nat → Int32) × Int32)) => xN x.1) zRJ (vx_runV (As := [.int p1]) (rest := [.int 0, .ref (ad 74)]) ⟨hx, hb, hml, hown, hts⟩ (c_X10_writeNumber l hl0 g ad st sv isS hst spare undo seen dbef drec ptx plen ppos pcnt cmds stE stF lch llen _ p1 fu _ hzo1) (cwV 1 hts (gdV mU_1179 mU_1180 mU_1181 mU_66 mU_1182) rfl rfl rfl (by decide +kernel) ⟨Nat.le_of_ble_eq_true rfl, Nat.le_of_ble_eq_true rfl⟩) ⟨z_blind _ _ _ _, va_recv hK hP (ci := 6) (q0 := 0) rfl rfl, fun U hU hW => z_pre zRJ hP hD hK hB hS hA wRootJ_C wRootJ_N hU hW⟩ rfl rfl hl.1 rfl (lv_room (Nat.le_of_ble_eq_true rfl)) dL_writeNumber_4 ⟨Nat.le_of_ble_eq_true rfl, Nat.le_of_ble_eq_true rfl⟩) hP hD hS hA wRootJ_C (fun _ => rfl) (fun _ => rfl) (fun zw1 ce q9 H locs hw hP hD hS hq1 hq2 hq3 => ?_) (fun r u H locs hw hP hD hS => ?_)
  · subst hw
    have hF : _ = some o := hF
    have hP : va_P (gD g) zCl (wRootJ g ad st sv isS hst spare undo seen dbef drec ptx plen ppos pcnt cmds stE stF zw1.2.1 zw1.2.2 jo) H := Eq.mp (congrArg (fun w => va_P (gD g) zCl w H) wRootJ_S) hP
    have hD : va_D A (wRootJ g ad st sv isS hst spare undo seen dbef drec ptx plen ppos pcnt cmds stE stF zw1.2.1 zw1.2.2 jo) := Eq.mp (congrArg (fun w => va_D A w) wRootJ_S) hD
    have hF := z_err hF
    have hq3 : s.vm.findClass (xN zw1.1) = some ce.cls := hq3
    by_cases zc2 : zw1.1 = 3
    · have hF := z_pos hF zc2
      rw [zc2] at hq3
      have hq3 : s.vm.findClass "java/util/NoSuchElementException" = some ce.cls := hq3
      refine vx_catch (own := RL) (name := "java/util/NoSuchElementException") (E := "java/util/NoSuchElementException") hown [] (⟨0, 9, 12, 26⟩ : ExceptionTableEntry) [] (htab.trans rfl) (fun _ h => absurd h List.not_mem_nil) rfl (by decide) (hts _ mU_690) (va_Nw.use rfl (hB.2.1.1 _ zn_705)) hq1 hq2 hq3 ?_
      refine lv_astore_n (lv' := [(3, .ref q9), (0, .ref (ad 0)), (1, .int p1), (2, .ref (ad 74))]) hx hb dL_writeNumber_12 rfl hl (by decide) rfl (fun ls hl => ?_)
      refine lv_iconst (v := 1) hx hb dL_writeNumber_13 (by decide) ?_
      have ho := (Option.some.inj hF).symm
      exact W.iret (v := 1) hx hb hr (fun t ht hW => ⟨⟨1, (zw1.2.1, zw1.2.2, jo), rfl, ⟨by rw [ho], by rw [ho]⟩, z_end ht hP⟩, hS.F ht⟩) hS.2.2 dL_writeNumber_14
    have hF := z_neg hF zc2
    exact absurd hF (by simp)
  · obtain ⟨za1, rfl, rfl, rfl⟩ := hw
    have hF := z_okk hF
    have hP : va_P (gD g) zCl (wRootJ g ad st sv isS hst spare undo seen dbef drec ptx plen ppos pcnt cmds stE stF za1.2.1 za1.2.2 jo) H := Eq.mp (congrArg (fun w => va_P (gD g) zCl w H) wRootJ_S) hP
    have hD : va_D A (wRootJ g ad st sv isS hst spare undo seen dbef drec ptx plen ppos pcnt cmds stE stF za1.2.1 za1.2.2 jo) := Eq.mp (congrArg (fun w => va_D A w) wRootJ_S) hD
    refine lv_i2l (v := (Int32.toInt64 za1.1)) hx hb dL_writeNumber_7 rfl ?_
    refine va_last hx hb hK hP hD hS 74 2 rfl rfl (by unfold vp_in; decide) dL_writeNumber_8 (fun H locs hP hD hS => ?_)
    have hP : va_P (gD g) zCl (wRootJ g ad st sv isS hst spare undo seen dbef drec ptx plen ppos pcnt cmds stE stF za1.2.1 za1.2.2 (vp_updL jo (Int32.toNatClampNeg 0) (Int32.toInt64 za1.1))) H := hP
    have hD : va_D A (wRootJ g ad st sv isS hst spare undo seen dbef drec ptx plen ppos pcnt cmds stE stF za1.2.1 za1.2.2 (vp_updL jo (Int32.toNatClampNeg 0) (Int32.toInt64 za1.1))) := hD
    refine lv_goto (tgt := 15) hx hb dL_writeNumber_9 (by decide) ?_
    refine lv_iconst (v := 0) hx hb dL_writeNumber_15 (by decide) ?_
    have ho := (Option.some.inj hF).symm
    exact W.iret (v := 0) hx hb hr (fun t ht hW => ⟨⟨0, (za1.2.1, za1.2.2, (vp_updL jo (Int32.toNatClampNeg 0) (Int32.toInt64 za1.1))), rfl, ⟨by rw [ho], by rw [ho]⟩, z_end ht hP⟩, hS.F ht⟩) hS.2.2 dL_writeNumber_16
abbrev w_L_writeQuotient : List Cond := .codeWith yL_writeQuotient cL_writeQuotient 5 (some .int) [(0, 10, 13, 13)] :: wU
abbrev r_L_writeQuotient : Room := { frames := 8, cells := 1, slots := 6, locals := 126 }
abbrev q_L_writeQuotient (g : GG) (ad : Nat → Nat) (st : SS) (sv : SS) (isS : Int32) (hst : Nat → SS) (spare : Int32) (undo : Int32) (seen : Nat → Int32) (dbef : Int32) (drec : Int32) (ptx : Nat → Int32) (plen : Int32) (ppos : Int32) (pcnt : Int32) (cmds : Nat → CC) (stE : Int32) (stF : Int32) (lch : Nat → Int32) (llen : Int32) (jo : Nat → Int64) (o : Int32 × (Nat → Int32) × Int32 × Int32 × (Nat → Int32) × Int32 × (Nat → Int64)) (A : Nat → Prop) := va_Qi (fun (r : Int32) (u : (Nat → Int32) × Int32 × Int32 × (Nat → Int32) × Int32 × (Nat → Int64)) => o.1 = r ∧ o.2 = u) (fun u t => va_P (gD g) zCl (wRootJ g ad st sv isS hst spare undo u.1 u.2.1 u.2.2.1 ptx plen ppos pcnt cmds stE stF u.2.2.2.1 u.2.2.2.2.1 u.2.2.2.2.2) t.heap) A
set_option maxHeartbeats 4000000 in
set_option maxRecDepth 100000 in
theorem c_L_writeQuotient (l : Launch) (hl0 : l.stackTraces = false) (g : GG) (ad : Nat → Nat) (st : SS) (sv : SS) (isS : Int32) (hst : Nat → SS) (spare : Int32) (undo : Int32) (seen : Nat → Int32) (dbef : Int32) (drec : Int32) (ptx : Nat → Int32) (plen : Int32) (ppos : Int32) (pcnt : Int32) (cmds : Nat → CC) (stE : Int32) (stF : Int32) (lch : Nat → Int32) (llen : Int32) (jo : Nat → Int64) (sz : Nat) (p1 : Int32) (p2 : Int32) (fu : Nat) (o : Int32 × (Nat → Int32) × Int32 × Int32 × (Nat → Int32) × Int32 × (Nat → Int64)) (hF : F_L_writeQuotient fu seen dbef drec lch llen jo p1 p2 = some o) : Met l yL_writeQuotient w_L_writeQuotient r_L_writeQuotient (va_Pc [.ref (ad 0), .int p1, .int p2, .ref (ad 74)] (zP g (wRootJ g ad st sv isS hst spare undo seen dbef drec ptx plen ppos pcnt cmds stE stF lch llen jo) sz)) (q_L_writeQuotient g ad st sv isS hst spare undo seen dbef drec ptx plen ppos pcnt cmds stE stF lch llen jo o (va_A (wRootJ g ad st sv isS hst spare undo seen dbef drec ptx plen ppos pcnt cmds stE stF lch llen jo) sz)) 1 6 (va_A (wRootJ g ad st sv isS hst spare undo seen dbef drec ptx plen ppos pcnt cmds stE stF lch llen jo) sz) := by
  refine va_MetW (cc := cL_writeQuotient) (maxL := 5) (ret := (some .int)) (by decide) rfl ?_
  intro p e s m args below meth c s₁ B hml hv
  obtain ⟨rfl, rfl, hP, hK, hD0, hB⟩ := hv
  have hx := B.exec
  have hb := B.bytes
  have hr := B.returns
  have htab : c.exceptionTable.toList = tableOf [(0, 10, 13, 13)] := vx_table (x := yL_writeQuotient) B (atoms_spec (ws := w_L_writeQuotient) B.pre _ List.mem_cons_self)
  have hts : ∀ w ∈ wU, w.before _ s = true := fun w h => atoms_spec (ws := w_L_writeQuotient) B.pre w (List.mem_cons_of_mem _ h)
  have hown : s.vm.findClass RL = some m.cls := findClass_of_methodNamed B.named
  have hlocks := B.notSynchronized
  have hD := hD0.self (sz := s.heap.size)
  generalize hAe : va_A (wRootJ g ad st sv isS hst spare undo seen dbef drec ptx plen ppos pcnt cmds stE stF lch llen jo) s.heap.size = A at hD hB ⊢
  have hA : ∀ q : Nat, s.heap.size ≤ q → A q := fun q h => by rw [← hAe]; exact Or.inr h
  have hS : va_S A s.heap s.heap [] := va_S.rf
  have hl := lv_entry ([.ref (ad 0), .int p1, .int p2, .ref (ad 74)]) (n := 5) (Nat.le_of_ble_eq_true rfl)
  rw [lg_entry_eq]
  generalize (lg_sl ([.ref (ad 0), .int p1, .int p2, .ref (ad 74)]) ++ List.replicate (5 - (lg_sl ([.ref (ad 0), .int p1, .int p2, .ref (ad 74)])).length) Slot.unset).toArray = ls at hl ⊢
  have hl : lv_has ls 5 [(0, .ref (ad 0)), (1, .int p1), (2, .int p2), (3, .ref (ad 74))] := hl
  unfold F_L_writeQuotient at hF
  refine lv_aload_n hx hb dL_writeQuotient_0 rfl (lv_at hl 3 rfl) ?_
  refine lv_iconst (v := 0) hx hb dL_writeQuotient_1 (by decide) ?_
  refine lv_aload_n hx hb dL_writeQuotient_2 rfl (lv_at hl 0 rfl) ?_
  refine lv_iload_n hx hb dL_writeQuotient_3 rfl (lv_at hl 1 rfl) ?_
  refine lv_iload_n hx hb dL_writeQuotient_4 rfl (lv_at hl 2 rfl) ?_
  obtain ⟨zo1, hzo1, hF⟩ := z_bind hF
  refine z_calliX (fun (u : (Nat → Int32) × Int32 × Int32 × (Nat → Int32) × Int32) => (wRoot g ad st sv isS hst spare undo u.1 u.2.1 u.2.2.1 ptx plen ppos pcnt cmds stE stF u.2.2.2.1 u.2.2.2.2)) (fun (x : Nat × ((Nat → Int32) × Int32 × Int32 × (Nat → Int32) × Int32)) => (wRoot g ad st sv isS hst spare undo x.2.1 x.2.2.1 x.2.2.2.1 ptx plen ppos pcnt cmds stE stF x.2.2.2.2.1 x.2.2.2.2.2)) (fun (x : Nat × ((Nat → Int32) × Int32 × Int32 × (Nat → Int32) × Int32)) => xN x.1) zRJ (vx_runV (As := [.int p1, .int p2]) (rest := [.int 0, .ref (ad 74)]) ⟨hx, hb, hml, hown, hts⟩ (c_X10_writeQuotient l hl0 g ad st sv isS hst spare undo seen dbef drec ptx plen ppos pcnt cmds stE stF lch llen _ p1 p2 fu _ hzo1) (cwV 2 hts (gdV mU_1201 mU_1202 mU_1203 mU_66 mU_1204) rfl rfl rfl (by decide +kernel) ⟨Nat.le_of_ble_eq_true rfl, Nat.le_of_ble_eq_true rfl⟩) ⟨z_blind _ _ _ _, va_recv hK hP (ci := 6) (q0 := 0) rfl rfl, fun U hU hW => z_pre zRJ hP hD hK hB hS hA wRootJ_C wRootJ_N hU hW⟩ rfl rfl hl.1 rfl (lv_room (Nat.le_of_ble_eq_true rfl)) dL_writeQuotient_5 ⟨Nat.le_of_ble_eq_true rfl, Nat.le_of_ble_eq_true rfl⟩) hP hD hS hA wRootJ_C (fun _ => rfl) (fun _ => rfl) (fun zw1 ce q9 H locs hw hP hD hS hq1 hq2 hq3 => ?_) (fun r u H locs hw hP hD hS => ?_)
  · subst hw
    have hF : _ = some o := hF
    have hP : va_P (gD g) zCl (wRootJ g ad st sv isS hst spare undo zw1.2.1 zw1.2.2.1 zw1.2.2.2.1 ptx plen ppos pcnt cmds stE stF zw1.2.2.2.2.1 zw1.2.2.2.2.2 jo) H := Eq.mp (congrArg (fun w => va_P (gD g) zCl w H) wRootJ_S) hP
    have hD : va_D A (wRootJ g ad st sv isS hst spare undo zw1.2.1 zw1.2.2.1 zw1.2.2.2.1 ptx plen ppos pcnt cmds stE stF zw1.2.2.2.2.1 zw1.2.2.2.2.2 jo) := Eq.mp (congrArg (fun w => va_D A w) wRootJ_S) hD
    have hF := z_err hF
    have hq3 : s.vm.findClass (xN zw1.1) = some ce.cls := hq3
    by_cases zc2 : zw1.1 = 0
    · have hF := z_pos hF zc2
      rw [zc2] at hq3
      have hq3 : s.vm.findClass "java/lang/IllegalArgumentException" = some ce.cls := hq3
      refine vx_catch (own := RL) (name := "java/lang/IllegalArgumentException") (E := "java/lang/IllegalArgumentException") hown [] (⟨0, 10, 13, 13⟩ : ExceptionTableEntry) [] (htab.trans rfl) (fun _ h => absurd h List.not_mem_nil) rfl (by decide) (hts _ mU_436) (va_Nw.use rfl (hB.2.1.1 _ zn_458)) hq1 hq2 hq3 ?_
      refine lv_astore (lv' := [(4, .ref q9), (0, .ref (ad 0)), (1, .int p1), (2, .int p2), (3, .ref (ad 74))]) hx hb dL_writeQuotient_13 hl (by decide) rfl (fun ls hl => ?_)
      refine lv_iconst (v := 1) hx hb dL_writeQuotient_15 (by decide) ?_
      have ho := (Option.some.inj hF).symm
      exact W.iret (v := 1) hx hb hr (fun t ht hW => ⟨⟨1, (zw1.2.1, zw1.2.2.1, zw1.2.2.2.1, zw1.2.2.2.2.1, zw1.2.2.2.2.2, jo), rfl, ⟨by rw [ho], by rw [ho]⟩, z_end ht hP⟩, hS.F ht⟩) hS.2.2 dL_writeQuotient_16
    have hF := z_neg hF zc2
    exact absurd hF (by simp)
  · obtain ⟨za1, rfl, rfl, rfl⟩ := hw
    have hF := z_okk hF
    have hP : va_P (gD g) zCl (wRootJ g ad st sv isS hst spare undo za1.2.1 za1.2.2.1 za1.2.2.2.1 ptx plen ppos pcnt cmds stE stF za1.2.2.2.2.1 za1.2.2.2.2.2 jo) H := Eq.mp (congrArg (fun w => va_P (gD g) zCl w H) wRootJ_S) hP
    have hD : va_D A (wRootJ g ad st sv isS hst spare undo za1.2.1 za1.2.2.1 za1.2.2.2.1 ptx plen ppos pcnt cmds stE stF za1.2.2.2.2.1 za1.2.2.2.2.2 jo) := Eq.mp (congrArg (fun w => va_D A w) wRootJ_S) hD
    refine lv_i2l (v := (Int32.toInt64 za1.1)) hx hb dL_writeQuotient_8 rfl ?_
    refine va_last hx hb hK hP hD hS 74 2 rfl rfl (by unfold vp_in; decide) dL_writeQuotient_9 (fun H locs hP hD hS => ?_)
    have hP : va_P (gD g) zCl (wRootJ g ad st sv isS hst spare undo za1.2.1 za1.2.2.1 za1.2.2.2.1 ptx plen ppos pcnt cmds stE stF za1.2.2.2.2.1 za1.2.2.2.2.2 (vp_updL jo (Int32.toNatClampNeg 0) (Int32.toInt64 za1.1))) H := hP
    have hD : va_D A (wRootJ g ad st sv isS hst spare undo za1.2.1 za1.2.2.1 za1.2.2.2.1 ptx plen ppos pcnt cmds stE stF za1.2.2.2.2.1 za1.2.2.2.2.2 (vp_updL jo (Int32.toNatClampNeg 0) (Int32.toInt64 za1.1))) := hD
    refine lv_goto (tgt := 17) hx hb dL_writeQuotient_10 (by decide) ?_
    refine lv_iconst (v := 0) hx hb dL_writeQuotient_17 (by decide) ?_
    have ho := (Option.some.inj hF).symm
    exact W.iret (v := 0) hx hb hr (fun t ht hW => ⟨⟨0, (za1.2.1, za1.2.2.1, za1.2.2.2.1, za1.2.2.2.2.1, za1.2.2.2.2.2, (vp_updL jo (Int32.toNatClampNeg 0) (Int32.toInt64 za1.1))), rfl, ⟨by rw [ho], by rw [ho]⟩, z_end ht hP⟩, hS.F ht⟩) hS.2.2 dL_writeQuotient_18
abbrev w_L_outputAt : List Cond := .codeWith yL_outputAt cL_outputAt 4 (some .int) [(0, 9, 12, 51)] :: wU
abbrev r_L_outputAt : Room := { frames := 7, cells := 1, slots := 6, locals := 103 }
abbrev q_L_outputAt (g : GG) (ad : Nat → Nat) (st : SS) (sv : SS) (isS : Int32) (hst : Nat → SS) (spare : Int32) (undo : Int32) (seen : Nat → Int32) (dbef : Int32) (drec : Int32) (ptx : Nat → Int32) (plen : Int32) (ppos : Int32) (pcnt : Int32) (cmds : Nat → CC) (stE : Int32) (stF : Int32) (lch : Nat → Int32) (llen : Int32) (jo : Nat → Int64) (o : Int32 × (Nat → Int64)) (A : Nat → Prop) := va_Qi (fun (r : Int32) (u : (Nat → Int64)) => o.1 = r ∧ o.2 = u) (fun u t => va_P (gD g) zCl (wRootJ g ad st sv isS hst spare undo seen dbef drec ptx plen ppos pcnt cmds stE stF lch llen u) t.heap) A
set_option maxHeartbeats 4000000 in
set_option maxRecDepth 100000 in
theorem c_L_outputAt (l : Launch) (hl0 : l.stackTraces = false) (g : GG) (ad : Nat → Nat) (st : SS) (sv : SS) (isS : Int32) (hst : Nat → SS) (spare : Int32) (undo : Int32) (seen : Nat → Int32) (dbef : Int32) (drec : Int32) (ptx : Nat → Int32) (plen : Int32) (ppos : Int32) (pcnt : Int32) (cmds : Nat → CC) (stE : Int32) (stF : Int32) (lch : Nat → Int32) (llen : Int32) (jo : Nat → Int64) (sz : Nat) (p1 : Int32) (o : Int32 × (Nat → Int64)) (hF : F_L_outputAt lch llen jo p1 = some o) : Met l yL_outputAt w_L_outputAt r_L_outputAt (va_Pc [.ref (ad 0), .int p1, .ref (ad 74)] (zP g (wRootJ g ad st sv isS hst spare undo seen dbef drec ptx plen ppos pcnt cmds stE stF lch llen jo) sz)) (q_L_outputAt g ad st sv isS hst spare undo seen dbef drec ptx plen ppos pcnt cmds stE stF lch llen jo o (va_A (wRootJ g ad st sv isS hst spare undo seen dbef drec ptx plen ppos pcnt cmds stE stF lch llen jo) sz)) 1 6 (va_A (wRootJ g ad st sv isS hst spare undo seen dbef drec ptx plen ppos pcnt cmds stE stF lch llen jo) sz) := by
  refine va_MetW (cc := cL_outputAt) (maxL := 4) (ret := (some .int)) (by decide) rfl ?_
  intro p e s m args below meth c s₁ B hml hv
  obtain ⟨rfl, rfl, hP, hK, hD0, hB⟩ := hv
  have hx := B.exec
  have hb := B.bytes
  have hr := B.returns
  have htab : c.exceptionTable.toList = tableOf [(0, 9, 12, 51)] := vx_table (x := yL_outputAt) B (atoms_spec (ws := w_L_outputAt) B.pre _ List.mem_cons_self)
  have hts : ∀ w ∈ wU, w.before _ s = true := fun w h => atoms_spec (ws := w_L_outputAt) B.pre w (List.mem_cons_of_mem _ h)
  have hown : s.vm.findClass RL = some m.cls := findClass_of_methodNamed B.named
  have hlocks := B.notSynchronized
  have hD := hD0.self (sz := s.heap.size)
  generalize hAe : va_A (wRootJ g ad st sv isS hst spare undo seen dbef drec ptx plen ppos pcnt cmds stE stF lch llen jo) s.heap.size = A at hD hB ⊢
  have hA : ∀ q : Nat, s.heap.size ≤ q → A q := fun q h => by rw [← hAe]; exact Or.inr h
  have hS : va_S A s.heap s.heap [] := va_S.rf
  have hl := lv_entry ([.ref (ad 0), .int p1, .ref (ad 74)]) (n := 4) (Nat.le_of_ble_eq_true rfl)
  rw [lg_entry_eq]
  generalize (lg_sl ([.ref (ad 0), .int p1, .ref (ad 74)]) ++ List.replicate (4 - (lg_sl ([.ref (ad 0), .int p1, .ref (ad 74)])).length) Slot.unset).toArray = ls at hl ⊢
  have hl : lv_has ls 4 [(0, .ref (ad 0)), (1, .int p1), (2, .ref (ad 74))] := hl
  unfold F_L_outputAt at hF
  refine lv_aload_n hx hb dL_outputAt_0 rfl (lv_at hl 2 rfl) ?_
  refine lv_iconst (v := 0) hx hb dL_outputAt_1 (by decide) ?_
  refine lv_aload_n hx hb dL_outputAt_2 rfl (lv_at hl 0 rfl) ?_
  refine lv_iload_n hx hb dL_outputAt_3 rfl (lv_at hl 1 rfl) ?_
  obtain ⟨zo1, hzo1, hF⟩ := z_bind hF
  refine z_calliX (fun (_ : Unit) => (wRoot g ad st sv isS hst spare undo seen dbef drec ptx plen ppos pcnt cmds stE stF lch llen)) (fun (x : Nat × (Unit)) => (wRoot g ad st sv isS hst spare undo seen dbef drec ptx plen ppos pcnt cmds stE stF lch llen)) (fun (x : Nat × (Unit)) => xN x.1) zRJ (vx_runV (As := [.int p1]) (rest := [.int 0, .ref (ad 74)]) ⟨hx, hb, hml, hown, hts⟩ (c_X10_outputAt l hl0 g ad st sv isS hst spare undo seen dbef drec ptx plen ppos pcnt cmds stE stF lch llen _ p1 _ hzo1) (cwV 1 hts (gdV mU_1212 mU_1213 mU_1214 mU_66 mU_1215) rfl rfl rfl (by decide +kernel) ⟨Nat.le_of_ble_eq_true rfl, Nat.le_of_ble_eq_true rfl⟩) ⟨z_blind _ _ _ _, va_recv hK hP (ci := 6) (q0 := 0) rfl rfl, fun U hU hW => z_pre zRJ hP hD hK hB hS hA wRootJ_C wRootJ_N hU hW⟩ rfl rfl hl.1 rfl (lv_room (Nat.le_of_ble_eq_true rfl)) dL_outputAt_4 ⟨Nat.le_of_ble_eq_true rfl, Nat.le_of_ble_eq_true rfl⟩) hP hD hS hA wRootJ_C (fun _ => rfl) (fun _ => rfl) (fun zw1 ce q9 H locs hw hP hD hS hq1 hq2 hq3 => ?_) (fun r u H locs hw hP hD hS => ?_)
  · subst hw
    have hF : _ = some o := hF
    have hP : va_P (gD g) zCl (wRootJ g ad st sv isS hst spare undo seen dbef drec ptx plen ppos pcnt cmds stE stF lch llen jo) H := Eq.mp (congrArg (fun w => va_P (gD g) zCl w H) wRootJ_S) hP
    have hD : va_D A (wRootJ g ad st sv isS hst spare undo seen dbef drec ptx plen ppos pcnt cmds stE stF lch llen jo) := Eq.mp (congrArg (fun w => va_D A w) wRootJ_S) hD
    have hF := z_err hF
    have hq3 : s.vm.findClass (xN zw1.1) = some ce.cls := hq3
    by_cases zc2 : zw1.1 = 4
    · have hF := z_pos hF zc2
      rw [zc2] at hq3
      have hq3 : s.vm.findClass "java/lang/IndexOutOfBoundsException" = some ce.cls := hq3
      refine vx_catch (own := RL) (name := "java/lang/IndexOutOfBoundsException") (E := "java/lang/IndexOutOfBoundsException") hown [] (⟨0, 9, 12, 51⟩ : ExceptionTableEntry) [] (htab.trans rfl) (fun _ h => absurd h List.not_mem_nil) rfl (by decide) (hts _ mU_796) (va_Nw.use rfl (hB.2.1.1 _ zn_826)) hq1 hq2 hq3 ?_
      refine lv_astore_n (lv' := [(3, .ref q9), (0, .ref (ad 0)), (1, .int p1), (2, .ref (ad 74))]) hx hb dL_outputAt_12 rfl hl (by decide) rfl (fun ls hl => ?_)
      refine lv_iconst (v := 1) hx hb dL_outputAt_13 (by decide) ?_
      have ho := (Option.some.inj hF).symm
      exact W.iret (v := 1) hx hb hr (fun t ht hW => ⟨⟨1, jo, rfl, ⟨by rw [ho], by rw [ho]⟩, z_end ht hP⟩, hS.F ht⟩) hS.2.2 dL_outputAt_14
    have hF := z_neg hF zc2
    exact absurd hF (by simp)
  · obtain ⟨za1, rfl, rfl⟩ := hw
    have hF := z_okk hF
    have hP : va_P (gD g) zCl (wRootJ g ad st sv isS hst spare undo seen dbef drec ptx plen ppos pcnt cmds stE stF lch llen jo) H := Eq.mp (congrArg (fun w => va_P (gD g) zCl w H) wRootJ_S) hP
    have hD : va_D A (wRootJ g ad st sv isS hst spare undo seen dbef drec ptx plen ppos pcnt cmds stE stF lch llen jo) := Eq.mp (congrArg (fun w => va_D A w) wRootJ_S) hD
    refine lv_i2l (v := (Int32.toInt64 za1)) hx hb dL_outputAt_7 rfl ?_
    refine va_last hx hb hK hP hD hS 74 2 rfl rfl (by unfold vp_in; decide) dL_outputAt_8 (fun H locs hP hD hS => ?_)
    have hP : va_P (gD g) zCl (wRootJ g ad st sv isS hst spare undo seen dbef drec ptx plen ppos pcnt cmds stE stF lch llen (vp_updL jo (Int32.toNatClampNeg 0) (Int32.toInt64 za1))) H := hP
    have hD : va_D A (wRootJ g ad st sv isS hst spare undo seen dbef drec ptx plen ppos pcnt cmds stE stF lch llen (vp_updL jo (Int32.toNatClampNeg 0) (Int32.toInt64 za1))) := hD
    refine lv_goto (tgt := 15) hx hb dL_outputAt_9 (by decide) ?_
    refine lv_iconst (v := 0) hx hb dL_outputAt_15 (by decide) ?_
    have ho := (Option.some.inj hF).symm
    exact W.iret (v := 0) hx hb hr (fun t ht hW => ⟨⟨0, (vp_updL jo (Int32.toNatClampNeg 0) (Int32.toInt64 za1)), rfl, ⟨by rw [ho], by rw [ho]⟩, z_end ht hP⟩, hS.F ht⟩) hS.2.2 dL_outputAt_16
abbrev w_L_undo : List Cond := .codeWith yL_undo cL_undo 3 (some .int) [(0, 8, 11, 15)] :: wU
abbrev r_L_undo : Room := { frames := 7, cells := 1, slots := 6, locals := 143 }
abbrev q_L_undo (g : GG) (ad : Nat → Nat) (st : SS) (sv : SS) (isS : Int32) (hst : Nat → SS) (spare : Int32) (undo : Int32) (seen : Nat → Int32) (dbef : Int32) (drec : Int32) (ptx : Nat → Int32) (plen : Int32) (ppos : Int32) (pcnt : Int32) (cmds : Nat → CC) (stE : Int32) (stF : Int32) (lch : Nat → Int32) (llen : Int32) (jo : Nat → Int64) (o : Int32 × SS × Int32 × Int32 × (Nat → Int64)) (A : Nat → Prop) := va_Qi (fun (r : Int32) (u : SS × Int32 × Int32 × (Nat → Int64)) => o.1 = r ∧ o.2 = u) (fun u t => va_P (gD g) zCl (wRootJ g ad u.1 sv isS hst u.2.1 u.2.2.1 seen dbef drec ptx plen ppos pcnt cmds stE stF lch llen u.2.2.2) t.heap) A
set_option maxHeartbeats 4000000 in
set_option maxRecDepth 100000 in
theorem c_L_undo (l : Launch) (hl0 : l.stackTraces = false) (g : GG) (ad : Nat → Nat) (st : SS) (sv : SS) (isS : Int32) (hst : Nat → SS) (spare : Int32) (undo : Int32) (seen : Nat → Int32) (dbef : Int32) (drec : Int32) (ptx : Nat → Int32) (plen : Int32) (ppos : Int32) (pcnt : Int32) (cmds : Nat → CC) (stE : Int32) (stF : Int32) (lch : Nat → Int32) (llen : Int32) (jo : Nat → Int64) (sz : Nat) (o : Int32 × SS × Int32 × Int32 × (Nat → Int64)) (hF : F_L_undo st hst spare undo jo = some o) : Met l yL_undo w_L_undo r_L_undo (va_Pc [.ref (ad 0), .ref (ad 74)] (zP g (wRootJ g ad st sv isS hst spare undo seen dbef drec ptx plen ppos pcnt cmds stE stF lch llen jo) sz)) (q_L_undo g ad st sv isS hst spare undo seen dbef drec ptx plen ppos pcnt cmds stE stF lch llen jo o (va_A (wRootJ g ad st sv isS hst spare undo seen dbef drec ptx plen ppos pcnt cmds stE stF lch llen jo) sz)) 1 6 (va_A (wRootJ g ad st sv isS hst spare undo seen dbef drec ptx plen ppos pcnt cmds stE stF lch llen jo) sz) := by
  refine va_MetW (cc := cL_undo) (maxL := 3) (ret := (some .int)) (by decide) rfl ?_
  intro p e s m args below meth c s₁ B hml hv
  obtain ⟨rfl, rfl, hP, hK, hD0, hB⟩ := hv
  have hx := B.exec
  have hb := B.bytes
  have hr := B.returns
  have htab : c.exceptionTable.toList = tableOf [(0, 8, 11, 15)] := vx_table (x := yL_undo) B (atoms_spec (ws := w_L_undo) B.pre _ List.mem_cons_self)
  have hts : ∀ w ∈ wU, w.before _ s = true := fun w h => atoms_spec (ws := w_L_undo) B.pre w (List.mem_cons_of_mem _ h)
  have hown : s.vm.findClass RL = some m.cls := findClass_of_methodNamed B.named
  have hlocks := B.notSynchronized
  have hD := hD0.self (sz := s.heap.size)
  generalize hAe : va_A (wRootJ g ad st sv isS hst spare undo seen dbef drec ptx plen ppos pcnt cmds stE stF lch llen jo) s.heap.size = A at hD hB ⊢
  have hA : ∀ q : Nat, s.heap.size ≤ q → A q := fun q h => by rw [← hAe]; exact Or.inr h
  have hS : va_S A s.heap s.heap [] := va_S.rf
  have hl := lv_entry ([.ref (ad 0), .ref (ad 74)]) (n := 3) (Nat.le_of_ble_eq_true rfl)
  rw [lg_entry_eq]
  generalize (lg_sl ([.ref (ad 0), .ref (ad 74)]) ++ List.replicate (3 - (lg_sl ([.ref (ad 0), .ref (ad 74)])).length) Slot.unset).toArray = ls at hl ⊢
  have hl : lv_has ls 3 [(0, .ref (ad 0)), (1, .ref (ad 74))] := hl
  unfold F_L_undo at hF
  refine lv_aload_n hx hb dL_undo_0 rfl (lv_at hl 1 rfl) ?_
  refine lv_iconst (v := 0) hx hb dL_undo_1 (by decide) ?_
  refine lv_aload_n hx hb dL_undo_2 rfl (lv_at hl 0 rfl) ?_
  obtain ⟨zo1, hzo1, hF⟩ := z_bind hF
  refine z_calliX (fun (u : SS × Int32 × Int32) => (wRoot g ad u.1 sv isS hst u.2.1 u.2.2 seen dbef drec ptx plen ppos pcnt cmds stE stF lch llen)) (fun (x : Nat × (SS × Int32 × Int32)) => (wRoot g ad x.2.1 sv isS hst x.2.2.1 x.2.2.2 seen dbef drec ptx plen ppos pcnt cmds stE stF lch llen)) (fun (x : Nat × (SS × Int32 × Int32)) => xN x.1) zRJ (vx_runV (As := []) (rest := [.int 0, .ref (ad 74)]) ⟨hx, hb, hml, hown, hts⟩ (c_X10_undo l hl0 g ad st sv isS hst spare undo seen dbef drec ptx plen ppos pcnt cmds stE stF lch llen _ _ hzo1) (cwV 0 hts (gdV mU_1220 mU_1221 mU_1222 mU_66 mU_1223) rfl rfl rfl (by decide +kernel) ⟨Nat.le_of_ble_eq_true rfl, Nat.le_of_ble_eq_true rfl⟩) ⟨z_blind _ _ _ _, va_recv hK hP (ci := 6) (q0 := 0) rfl rfl, fun U hU hW => z_pre zRJ hP hD hK hB hS hA wRootJ_C wRootJ_N hU hW⟩ rfl rfl hl.1 rfl (lv_room (Nat.le_of_ble_eq_true rfl)) dL_undo_3 ⟨Nat.le_of_ble_eq_true rfl, Nat.le_of_ble_eq_true rfl⟩) hP hD hS hA wRootJ_C (fun _ => rfl) (fun _ => rfl) (fun zw1 ce q9 H locs hw hP hD hS hq1 hq2 hq3 => ?_) (fun r u H locs hw hP hD hS => ?_)
  · subst hw
    have hF : _ = some o := hF
    have hP : va_P (gD g) zCl (wRootJ g ad zw1.2.1 sv isS hst zw1.2.2.1 zw1.2.2.2 seen dbef drec ptx plen ppos pcnt cmds stE stF lch llen jo) H := Eq.mp (congrArg (fun w => va_P (gD g) zCl w H) wRootJ_S) hP
    have hD : va_D A (wRootJ g ad zw1.2.1 sv isS hst zw1.2.2.1 zw1.2.2.2 seen dbef drec ptx plen ppos pcnt cmds stE stF lch llen jo) := Eq.mp (congrArg (fun w => va_D A w) wRootJ_S) hD
    have hF := z_err hF
    have hq3 : s.vm.findClass (xN zw1.1) = some ce.cls := hq3
    by_cases zc2 : zw1.1 = 1
    · have hF := z_pos hF zc2
      rw [zc2] at hq3
      have hq3 : s.vm.findClass "java/lang/IllegalStateException" = some ce.cls := hq3
      refine vx_catch (own := RL) (name := "java/lang/IllegalStateException") (E := "java/lang/IllegalStateException") hown [] (⟨0, 8, 11, 15⟩ : ExceptionTableEntry) [] (htab.trans rfl) (fun _ h => absurd h List.not_mem_nil) rfl (by decide) (hts _ mU_437) (va_Nw.use rfl (hB.2.1.1 _ zn_629)) hq1 hq2 hq3 ?_
      refine lv_astore_n (lv' := [(2, .ref q9), (0, .ref (ad 0)), (1, .ref (ad 74))]) hx hb dL_undo_11 rfl hl (by decide) rfl (fun ls hl => ?_)
      refine lv_iconst (v := 1) hx hb dL_undo_12 (by decide) ?_
      have ho := (Option.some.inj hF).symm
      exact W.iret (v := 1) hx hb hr (fun t ht hW => ⟨⟨1, (zw1.2.1, zw1.2.2.1, zw1.2.2.2, jo), rfl, ⟨by rw [ho], by rw [ho]⟩, z_end ht hP⟩, hS.F ht⟩) hS.2.2 dL_undo_13
    have hF := z_neg hF zc2
    exact absurd hF (by simp)
  · obtain ⟨za1, rfl, rfl, rfl⟩ := hw
    have hF := z_okk hF
    have hP : va_P (gD g) zCl (wRootJ g ad za1.2.1 sv isS hst za1.2.2.1 za1.2.2.2 seen dbef drec ptx plen ppos pcnt cmds stE stF lch llen jo) H := Eq.mp (congrArg (fun w => va_P (gD g) zCl w H) wRootJ_S) hP
    have hD : va_D A (wRootJ g ad za1.2.1 sv isS hst za1.2.2.1 za1.2.2.2 seen dbef drec ptx plen ppos pcnt cmds stE stF lch llen jo) := Eq.mp (congrArg (fun w => va_D A w) wRootJ_S) hD
    refine lv_i2l (v := (Int32.toInt64 za1.1)) hx hb dL_undo_6 rfl ?_
    refine va_last hx hb hK hP hD hS 74 2 rfl rfl (by unfold vp_in; decide) dL_undo_7 (fun H locs hP hD hS => ?_)
    have hP : va_P (gD g) zCl (wRootJ g ad za1.2.1 sv isS hst za1.2.2.1 za1.2.2.2 seen dbef drec ptx plen ppos pcnt cmds stE stF lch llen (vp_updL jo (Int32.toNatClampNeg 0) (Int32.toInt64 za1.1))) H := hP
    have hD : va_D A (wRootJ g ad za1.2.1 sv isS hst za1.2.2.1 za1.2.2.2 seen dbef drec ptx plen ppos pcnt cmds stE stF lch llen (vp_updL jo (Int32.toNatClampNeg 0) (Int32.toInt64 za1.1))) := hD
    refine lv_goto (tgt := 14) hx hb dL_undo_8 (by decide) ?_
    refine lv_iconst (v := 0) hx hb dL_undo_14 (by decide) ?_
    have ho := (Option.some.inj hF).symm
    exact W.iret (v := 0) hx hb hr (fun t ht hW => ⟨⟨0, (za1.2.1, za1.2.2.1, za1.2.2.2, (vp_updL jo (Int32.toNatClampNeg 0) (Int32.toInt64 za1.1))), rfl, ⟨by rw [ho], by rw [ho]⟩, z_end ht hP⟩, hS.F ht⟩) hS.2.2 dL_undo_15
abbrev w_L_restore : List Cond := .codeWith yL_restore cL_restore 2 (some .int) [(0, 4, 7, 15)] :: wU
abbrev r_L_restore : Room := { frames := 7, cells := 1, slots := 6, locals := 102 }
abbrev q_L_restore (g : GG) (ad : Nat → Nat) (st : SS) (sv : SS) (isS : Int32) (hst : Nat → SS) (spare : Int32) (undo : Int32) (seen : Nat → Int32) (dbef : Int32) (drec : Int32) (ptx : Nat → Int32) (plen : Int32) (ppos : Int32) (pcnt : Int32) (cmds : Nat → CC) (stE : Int32) (stF : Int32) (lch : Nat → Int32) (llen : Int32) (o : Int32 × SS × Int32) (A : Nat → Prop) := va_Qi (fun (r : Int32) (u : SS × Int32) => o.1 = r ∧ o.2 = u) (fun u t => va_P (gD g) zCl (wRoot g ad u.1 sv isS hst spare u.2 seen dbef drec ptx plen ppos pcnt cmds stE stF lch llen) t.heap) A
set_option maxHeartbeats 4000000 in
set_option maxRecDepth 100000 in
theorem c_L_restore (l : Launch) (hl0 : l.stackTraces = false) (g : GG) (ad : Nat → Nat) (st : SS) (sv : SS) (isS : Int32) (hst : Nat → SS) (spare : Int32) (undo : Int32) (seen : Nat → Int32) (dbef : Int32) (drec : Int32) (ptx : Nat → Int32) (plen : Int32) (ppos : Int32) (pcnt : Int32) (cmds : Nat → CC) (stE : Int32) (stF : Int32) (lch : Nat → Int32) (llen : Int32) (sz : Nat) (o : Int32 × SS × Int32) (hF : F_L_restore st sv isS undo = some o) : Met l yL_restore w_L_restore r_L_restore (va_Pc [.ref (ad 0)] (zP g (wRoot g ad st sv isS hst spare undo seen dbef drec ptx plen ppos pcnt cmds stE stF lch llen) sz)) (q_L_restore g ad st sv isS hst spare undo seen dbef drec ptx plen ppos pcnt cmds stE stF lch llen o (va_A (wRoot g ad st sv isS hst spare undo seen dbef drec ptx plen ppos pcnt cmds stE stF lch llen) sz)) 1 6 (va_A (wRoot g ad st sv isS hst spare undo seen dbef drec ptx plen ppos pcnt cmds stE stF lch llen) sz) := by
  refine va_MetW (cc := cL_restore) (maxL := 2) (ret := (some .int)) (by decide) rfl ?_
  intro p e s m args below meth c s₁ B hml hv
  obtain ⟨rfl, rfl, hP, hK, hD0, hB⟩ := hv
  have hx := B.exec
  have hb := B.bytes
  have hr := B.returns
  have htab : c.exceptionTable.toList = tableOf [(0, 4, 7, 15)] := vx_table (x := yL_restore) B (atoms_spec (ws := w_L_restore) B.pre _ List.mem_cons_self)
  have hts : ∀ w ∈ wU, w.before _ s = true := fun w h => atoms_spec (ws := w_L_restore) B.pre w (List.mem_cons_of_mem _ h)
  have hown : s.vm.findClass RL = some m.cls := findClass_of_methodNamed B.named
  have hlocks := B.notSynchronized
  have hD := hD0.self (sz := s.heap.size)
  generalize hAe : va_A (wRoot g ad st sv isS hst spare undo seen dbef drec ptx plen ppos pcnt cmds stE stF lch llen) s.heap.size = A at hD hB ⊢
  have hA : ∀ q : Nat, s.heap.size ≤ q → A q := fun q h => by rw [← hAe]; exact Or.inr h
  have hS : va_S A s.heap s.heap [] := va_S.rf
  have hl := lv_entry ([.ref (ad 0)]) (n := 2) (Nat.le_of_ble_eq_true rfl)
  rw [lg_entry_eq]
  generalize (lg_sl ([.ref (ad 0)]) ++ List.replicate (2 - (lg_sl ([.ref (ad 0)])).length) Slot.unset).toArray = ls at hl ⊢
  have hl : lv_has ls 2 [(0, .ref (ad 0))] := hl
  unfold F_L_restore at hF
  refine lv_aload_n hx hb dL_restore_0 rfl (lv_at hl 0 rfl) ?_
  obtain ⟨zo1, hzo1, hF⟩ := z_bind hF
  refine z_callvXE (fun (u : SS × Int32) => (wRoot g ad u.1 sv isS hst spare u.2 seen dbef drec ptx plen ppos pcnt cmds stE stF lch llen)) (fun (x : Nat × (SS × Int32)) => (wRoot g ad x.2.1 sv isS hst spare x.2.2 seen dbef drec ptx plen ppos pcnt cmds stE stF lch llen)) (fun (x : Nat × (SS × Int32)) => xN x.1) (vx_runV (As := []) (rest := []) ⟨hx, hb, hml, hown, hts⟩ (c_X10_restore l hl0 g ad st sv isS hst spare undo seen dbef drec ptx plen ppos pcnt cmds stE stF lch llen _ _ hzo1) (cwV 0 hts (gdV mU_1233 mU_1234 mU_1235 mU_66 mU_1236) rfl rfl rfl (by decide +kernel) ⟨Nat.le_of_ble_eq_true rfl, Nat.le_of_ble_eq_true rfl⟩) ⟨z_blind _ _ _ _, va_recv hK hP (ci := 6) (q0 := 0) rfl rfl, fun U hU hW => z_preE hP hD hK hB hS hA hU hW⟩ rfl rfl hl.1 rfl (lv_room (Nat.le_of_ble_eq_true rfl)) dL_restore_1 ⟨Nat.le_of_ble_eq_true rfl, Nat.le_of_ble_eq_true rfl⟩) hD hS hA (fun _ => rfl) (fun _ => rfl) (fun zw1 ce q9 H locs hw hP hD hS hq1 hq2 hq3 => ?_) (fun u H locs hw hP hD hS => ?_)
  · subst hw
    have hF : _ = some o := hF
    have hP : va_P (gD g) zCl (wRoot g ad zw1.2.1 sv isS hst spare zw1.2.2 seen dbef drec ptx plen ppos pcnt cmds stE stF lch llen) H := hP
    have hD : va_D A (wRoot g ad zw1.2.1 sv isS hst spare zw1.2.2 seen dbef drec ptx plen ppos pcnt cmds stE stF lch llen) := hD
    have hF := z_err hF
    have hq3 : s.vm.findClass (xN zw1.1) = some ce.cls := hq3
    by_cases zc2 : zw1.1 = 1
    · have hF := z_pos hF zc2
      rw [zc2] at hq3
      have hq3 : s.vm.findClass "java/lang/IllegalStateException" = some ce.cls := hq3
      refine vx_catch (own := RL) (name := "java/lang/IllegalStateException") (E := "java/lang/IllegalStateException") hown [] (⟨0, 4, 7, 15⟩ : ExceptionTableEntry) [] (htab.trans rfl) (fun _ h => absurd h List.not_mem_nil) rfl (by decide) (hts _ mU_437) (va_Nw.use rfl (hB.2.1.1 _ zn_629)) hq1 hq2 hq3 ?_
      refine lv_astore_n (lv' := [(1, .ref q9), (0, .ref (ad 0))]) hx hb dL_restore_7 rfl hl (by decide) rfl (fun ls hl => ?_)
      refine lv_iconst (v := 1) hx hb dL_restore_8 (by decide) ?_
      have ho := (Option.some.inj hF).symm
      exact W.iret (v := 1) hx hb hr (fun t ht hW => ⟨⟨1, (zw1.2.1, zw1.2.2), rfl, ⟨by rw [ho], by rw [ho]⟩, z_end ht hP⟩, hS.F ht⟩) hS.2.2 dL_restore_9
    have hF := z_neg hF zc2
    exact absurd hF (by simp)
  · obtain ⟨za1, rfl, rfl⟩ := hw
    have hF := z_okk hF
    have hP : va_P (gD g) zCl (wRoot g ad za1.1 sv isS hst spare za1.2 seen dbef drec ptx plen ppos pcnt cmds stE stF lch llen) H := hP
    have hD : va_D A (wRoot g ad za1.1 sv isS hst spare za1.2 seen dbef drec ptx plen ppos pcnt cmds stE stF lch llen) := hD
    refine lv_goto (tgt := 10) hx hb dL_restore_4 (by decide) ?_
    refine lv_iconst (v := 0) hx hb dL_restore_10 (by decide) ?_
    have ho := (Option.some.inj hF).symm
    exact W.iret (v := 0) hx hb hr (fun t ht hW => ⟨⟨0, (za1.1, za1.2), rfl, ⟨by rw [ho], by rw [ho]⟩, z_end ht hP⟩, hS.F ht⟩) hS.2.2 dL_restore_11
