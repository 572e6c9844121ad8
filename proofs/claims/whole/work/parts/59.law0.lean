abbrev w_L_addNumber : List Cond := .codeWith yL_addNumber cL_addNumber 7 (some .int) [(0, 14, 17, 13), (0, 14, 21, 15), (0, 14, 25, 17)] :: wU
abbrev r_L_addNumber : Room := { frames := 9, cells := 5, slots := 30, locals := 177 }
abbrev q_L_addNumber (g : GG) (ad : Nat → Nat) (st : SS) (sv : SS) (isS : Int32) (hst : Nat → SS) (spare : Int32) (undo : Int32) (seen : Nat → Int32) (dbef : Int32) (drec : Int32) (ptx : Nat → Int32) (plen : Int32) (ppos : Int32) (pcnt : Int32) (cmds : Nat → CC) (stE : Int32) (stF : Int32) (lch : Nat → Int32) (llen : Int32) (jo : Nat → Int64) (o : Int32 × SS × (Nat → SS) × Int32 × Int32 × (Nat → Int64)) (A : Nat → Prop) := va_Qi (fun (r : Int32) (u : SS × (Nat → SS) × Int32 × Int32 × (Nat → Int64)) => o.1 = r ∧ o.2 = u) (fun u t => va_P (gD g) zCl (wRootJ g ad u.1 sv isS u.2.1 u.2.2.1 u.2.2.2.1 seen dbef drec ptx plen ppos pcnt cmds stE stF lch llen u.2.2.2.2) t.heap) A
set_option maxHeartbeats 4000000 in
set_option maxRecDepth 100000 in
theorem c_L_addNumber (l : Launch) (hl0 : l.stackTraces = false) (g : GG) (ad : Nat → Nat) (st : SS) (sv : SS) (isS : Int32) (hst : Nat → SS) (spare : Int32) (undo : Int32) (seen : Nat → Int32) (dbef : Int32) (drec : Int32) (ptx : Nat → Int32) (plen : Int32) (ppos : Int32) (pcnt : Int32) (cmds : Nat → CC) (stE : Int32) (stF : Int32) (lch : Nat → Int32) (llen : Int32) (jo : Nat → Int64) (sz : Nat) (p1 : Int32) (p2 : Int32) (p3 : Int32) (p4 : Int32) (fu : Nat) (o : Int32 × SS × (Nat → SS) × Int32 × Int32 × (Nat → Int64)) (hF : F_L_addNumber fu st hst spare undo jo p1 p2 p3 p4 = some o) : Met l yL_addNumber w_L_addNumber r_L_addNumber (va_Pc [.ref (ad 0), .int p1, .int p2, .int p3, .int p4, .ref (ad 74)] (zP g (wRootJ g ad st sv isS hst spare undo seen dbef drec ptx plen ppos pcnt cmds stE stF lch llen jo) sz)) (q_L_addNumber g ad st sv isS hst spare undo seen dbef drec ptx plen ppos pcnt cmds stE stF lch llen jo o (va_A (wRootJ g ad st sv isS hst spare undo seen dbef drec ptx plen ppos pcnt cmds stE stF lch llen jo) sz)) 5 30 (va_A (wRootJ g ad st sv isS hst spare undo seen dbef drec ptx plen ppos pcnt cmds stE stF lch llen jo) sz) := by
  refine va_MetW (cc := cL_addNumber) (maxL := 7) (ret := (some .int)) (by decide) rfl ?_
  intro p e s m args below meth c s₁ B hml hv
  obtain ⟨rfl, rfl, hP, hK, hD0, hB⟩ := hv
  have hx := B.exec
  have hb := B.bytes
  have hr := B.returns
  have htab : c.exceptionTable.toList = tableOf [(0, 14, 17, 13), (0, 14, 21, 15), (0, 14, 25, 17)] := vx_table (x := yL_addNumber) B (atoms_spec (ws := w_L_addNumber) B.pre _ List.mem_cons_self)
  have hts : ∀ w ∈ wU, w.before _ s = true := fun w h => atoms_spec (ws := w_L_addNumber) B.pre w (List.mem_cons_of_mem _ h)
  have hown : s.vm.findClass RL = some m.cls := findClass_of_methodNamed B.named
  have hlocks := B.notSynchronized
  have hD := hD0.self (sz := s.heap.size)
  generalize hAe : va_A (wRootJ g ad st sv isS hst spare undo seen dbef drec ptx plen ppos pcnt cmds stE stF lch llen jo) s.heap.size = A at hD hB ⊢
  have hA : ∀ q : Nat, s.heap.size ≤ q → A q := fun q h => by rw [← hAe]; exact Or.inr h
  have hS : va_S A s.heap s.heap [] := va_S.rf
  have hl := lv_entry ([.ref (ad 0), .int p1, .int p2, .int p3, .int p4, .ref (ad 74)]) (n := 7) (Nat.le_of_ble_eq_true rfl)
  rw [lg_entry_eq]
  generalize (lg_sl ([.ref (ad 0), .int p1, .int p2, .int p3, .int p4, .ref (ad 74)]) ++ List.replicate (7 - (lg_sl ([.ref (ad 0), .int p1, .int p2, .int p3, .int p4, .ref (ad 74)])).length) Slot.unset).toArray = ls at hl ⊢
  have hl : lv_has ls 7 [(0, .ref (ad 0)), (1, .int p1), (2, .int p2), (3, .int p3), (4, .int p4), (5, .ref (ad 74))] := hl
  unfold F_L_addNumber at hF
  refine lv_aload hx hb dL_addNumber_0 (lv_at hl 5 rfl) ?_
  refine lv_iconst (v := 0) hx hb dL_addNumber_2 (by decide) ?_
  refine lv_aload_n hx hb dL_addNumber_3 rfl (lv_at hl 0 rfl) ?_
  refine lv_iload_n hx hb dL_addNumber_4 rfl (lv_at hl 1 rfl) ?_
  refine lv_iload_n hx hb dL_addNumber_5 rfl (lv_at hl 2 rfl) ?_
  refine lv_iload_n hx hb dL_addNumber_6 rfl (lv_at hl 3 rfl) ?_
  refine lv_iload hx hb dL_addNumber_7 (lv_at hl 4 rfl) ?_
  obtain ⟨zo1, hzo1, hF⟩ := z_bind hF
  refine z_calliX (fun (u : SS × (Nat → SS) × Int32 × Int32) => (wRoot g ad u.1 sv isS u.2.1 u.2.2.1 u.2.2.2 seen dbef drec ptx plen ppos pcnt cmds stE stF lch llen)) (fun (x : Nat × (SS × (Nat → SS) × Int32 × Int32)) => (wRoot g ad x.2.1 sv isS x.2.2.1 x.2.2.2.1 x.2.2.2.2 seen dbef drec ptx plen ppos pcnt cmds stE stF lch llen)) (fun (x : Nat × (SS × (Nat → SS) × Int32 × Int32)) => xN x.1) zRJ (vx_runV (As := [.int p1, .int p2, .int p3, .int p4]) (rest := [.int 0, .ref (ad 74)]) ⟨hx, hb, hml, hown, hts⟩ (c_X10_addNumber l hl0 g ad st sv isS hst spare undo seen dbef drec ptx plen ppos pcnt cmds stE stF lch llen _ p1 p2 p3 p4 fu _ hzo1) (cwV 4 hts (gdV mU_439 mU_440 mU_441 mU_66 mU_442) rfl rfl rfl (by decide +kernel) ⟨Nat.le_of_ble_eq_true rfl, Nat.le_of_ble_eq_true rfl⟩) ⟨z_blind _ _ _ _, va_recv hK hP (ci := 6) (q0 := 0) rfl rfl, fun U hU hW => z_pre zRJ hP hD hK hB hS hA wRootJ_C wRootJ_N hU hW⟩ rfl rfl hl.1 rfl (lv_room (Nat.le_of_ble_eq_true rfl)) dL_addNumber_9 ⟨Nat.le_of_ble_eq_true rfl, Nat.le_of_ble_eq_true rfl⟩) hP hD hS hA wRootJ_C (fun _ => rfl) (fun _ => rfl) (fun zw1 ce q9 H locs hw hP hD hS hq1 hq2 hq3 => ?_) (fun r u H locs hw hP hD hS => ?_)
  · subst hw
    have hF : _ = some o := hF
    have hP : va_P (gD g) zCl (wRootJ g ad zw1.2.1 sv isS zw1.2.2.1 zw1.2.2.2.1 zw1.2.2.2.2 seen dbef drec ptx plen ppos pcnt cmds stE stF lch llen jo) H := Eq.mp (congrArg (fun w => va_P (gD g) zCl w H) wRootJ_S) hP
    have hD : va_D A (wRootJ g ad zw1.2.1 sv isS zw1.2.2.1 zw1.2.2.2.1 zw1.2.2.2.2 seen dbef drec ptx plen ppos pcnt cmds stE stF lch llen jo) := Eq.mp (congrArg (fun w => va_D A w) wRootJ_S) hD
    have hF := z_err hF
    have hq3 : s.vm.findClass (xN zw1.1) = some ce.cls := hq3
    by_cases zc2 : zw1.1 = 0
    · have hF := z_pos hF zc2
      rw [zc2] at hq3
      have hq3 : s.vm.findClass "java/lang/IllegalArgumentException" = some ce.cls := hq3
      refine vx_catch (own := RL) (name := "java/lang/IllegalArgumentException") (E := "java/lang/IllegalArgumentException") hown [] (⟨0, 14, 17, 13⟩ : ExceptionTableEntry) [(⟨0, 14, 21, 15⟩ : ExceptionTableEntry), (⟨0, 14, 25, 17⟩ : ExceptionTableEntry)] (htab.trans rfl) (fun _ h => absurd h List.not_mem_nil) rfl (by decide) (hts _ mU_436) (va_Nw.use rfl (hB.2.1.1 _ zn_458)) hq1 hq2 hq3 ?_
      refine lv_astore (lv' := [(6, .ref q9), (0, .ref (ad 0)), (1, .int p1), (2, .int p2), (3, .int p3), (4, .int p4), (5, .ref (ad 74))]) hx hb dL_addNumber_17 hl (by decide) rfl (fun ls hl => ?_)
      refine lv_iconst (v := 1) hx hb dL_addNumber_19 (by decide) ?_
      have ho := (Option.some.inj hF).symm
      exact W.iret (v := 1) hx hb hr (fun t ht hW => ⟨⟨1, (zw1.2.1, zw1.2.2.1, zw1.2.2.2.1, zw1.2.2.2.2, jo), rfl, ⟨by rw [ho], by rw [ho]⟩, z_end ht hP⟩, hS.F ht⟩) hS.2.2 dL_addNumber_20
    have hF := z_neg hF zc2
    by_cases zc3 : zw1.1 = 1
    · have hF := z_pos hF zc3
      rw [zc3] at hq3
      have hq3 : s.vm.findClass "java/lang/IllegalStateException" = some ce.cls := hq3
      refine vx_catch (own := RL) (name := "java/lang/IllegalStateException") (E := "java/lang/IllegalStateException") hown [(⟨0, 14, 17, 13⟩ : ExceptionTableEntry)] (⟨0, 14, 21, 15⟩ : ExceptionTableEntry) [(⟨0, 14, 25, 17⟩ : ExceptionTableEntry)] (htab.trans rfl) (List.forall_mem_cons.mpr ⟨(Or.inr ⟨by decide, "java/lang/IllegalArgumentException", hts _ mU_436, hB.2.1.2.1 ("java/lang/IllegalStateException", "java/lang/IllegalArgumentException") (by decide +kernel)⟩), (fun _ h => absurd h List.not_mem_nil)⟩) rfl (by decide) (hts _ mU_437) (va_Nw.use rfl (hB.2.1.1 _ zn_629)) hq1 hq2 hq3 ?_
      refine lv_astore (lv' := [(6, .ref q9), (0, .ref (ad 0)), (1, .int p1), (2, .int p2), (3, .int p3), (4, .int p4), (5, .ref (ad 74))]) hx hb dL_addNumber_21 hl (by decide) rfl (fun ls hl => ?_)
      refine lv_iconst (v := 2) hx hb dL_addNumber_23 (by decide) ?_
      have ho := (Option.some.inj hF).symm
      exact W.iret (v := 2) hx hb hr (fun t ht hW => ⟨⟨2, (zw1.2.1, zw1.2.2.1, zw1.2.2.2.1, zw1.2.2.2.2, jo), rfl, ⟨by rw [ho], by rw [ho]⟩, z_end ht hP⟩, hS.F ht⟩) hS.2.2 dL_addNumber_24
    have hF := z_neg hF zc3
    by_cases zc4 : zw1.1 = 2
    · have hF := z_pos hF zc4
      rw [zc4] at hq3
      have hq3 : s.vm.findClass "java/lang/UnsupportedOperationException" = some ce.cls := hq3
      refine vx_catch (own := RL) (name := "java/lang/UnsupportedOperationException") (E := "java/lang/UnsupportedOperationException") hown [(⟨0, 14, 17, 13⟩ : ExceptionTableEntry), (⟨0, 14, 21, 15⟩ : ExceptionTableEntry)] (⟨0, 14, 25, 17⟩ : ExceptionTableEntry) [] (htab.trans rfl) (List.forall_mem_cons.mpr ⟨(Or.inr ⟨by decide, "java/lang/IllegalArgumentException", hts _ mU_436, hB.2.1.2.1 ("java/lang/UnsupportedOperationException", "java/lang/IllegalArgumentException") (by decide +kernel)⟩), (List.forall_mem_cons.mpr ⟨(Or.inr ⟨by decide, "java/lang/IllegalStateException", hts _ mU_437, hB.2.1.2.1 ("java/lang/UnsupportedOperationException", "java/lang/IllegalStateException") (by decide +kernel)⟩), (fun _ h => absurd h List.not_mem_nil)⟩)⟩) rfl (by decide) (hts _ mU_438) (va_Nw.use rfl (hB.2.1.1 _ zn_646)) hq1 hq2 hq3 ?_
      refine lv_astore (lv' := [(6, .ref q9), (0, .ref (ad 0)), (1, .int p1), (2, .int p2), (3, .int p3), (4, .int p4), (5, .ref (ad 74))]) hx hb dL_addNumber_25 hl (by decide) rfl (fun ls hl => ?_)
      refine lv_iconst (v := 3) hx hb dL_addNumber_27 (by decide) ?_
      have ho := (Option.some.inj hF).symm
      exact W.iret (v := 3) hx hb hr (fun t ht hW => ⟨⟨3, (zw1.2.1, zw1.2.2.1, zw1.2.2.2.1, zw1.2.2.2.2, jo), rfl, ⟨by rw [ho], by rw [ho]⟩, z_end ht hP⟩, hS.F ht⟩) hS.2.2 dL_addNumber_28
    have hF := z_neg hF zc4
    exact absurd hF (by simp)
  · obtain ⟨za1, rfl, rfl, rfl⟩ := hw
    have hF := z_okk hF
    have hP : va_P (gD g) zCl (wRootJ g ad za1.2.1 sv isS za1.2.2.1 za1.2.2.2.1 za1.2.2.2.2 seen dbef drec ptx plen ppos pcnt cmds stE stF lch llen jo) H := Eq.mp (congrArg (fun w => va_P (gD g) zCl w H) wRootJ_S) hP
    have hD : va_D A (wRootJ g ad za1.2.1 sv isS za1.2.2.1 za1.2.2.2.1 za1.2.2.2.2 seen dbef drec ptx plen ppos pcnt cmds stE stF lch llen jo) := Eq.mp (congrArg (fun w => va_D A w) wRootJ_S) hD
    refine lv_i2l (v := (Int32.toInt64 za1.1)) hx hb dL_addNumber_12 rfl ?_
    refine va_last hx hb hK hP hD hS 74 2 rfl rfl (by unfold vp_in; decide) dL_addNumber_13 (fun H locs hP hD hS => ?_)
    have hP : va_P (gD g) zCl (wRootJ g ad za1.2.1 sv isS za1.2.2.1 za1.2.2.2.1 za1.2.2.2.2 seen dbef drec ptx plen ppos pcnt cmds stE stF lch llen (vp_updL jo (Int32.toNatClampNeg 0) (Int32.toInt64 za1.1))) H := hP
    have hD : va_D A (wRootJ g ad za1.2.1 sv isS za1.2.2.1 za1.2.2.2.1 za1.2.2.2.2 seen dbef drec ptx plen ppos pcnt cmds stE stF lch llen (vp_updL jo (Int32.toNatClampNeg 0) (Int32.toInt64 za1.1))) := hD
    refine lv_goto (tgt := 29) hx hb dL_addNumber_14 (by decide) ?_
    refine lv_iconst (v := 0) hx hb dL_addNumber_29 (by decide) ?_
    have ho := (Option.some.inj hF).symm
    exact W.iret (v := 0) hx hb hr (fun t ht hW => ⟨⟨0, (za1.2.1, za1.2.2.1, za1.2.2.2.1, za1.2.2.2.2, (vp_updL jo (Int32.toNatClampNeg 0) (Int32.toInt64 za1.1))), rfl, ⟨by rw [ho], by rw [ho]⟩, z_end ht hP⟩, hS.F ht⟩) hS.2.2 dL_addNumber_30
abbrev w_L_addQuotient : List Cond := .codeWith yL_addQuotient cL_addQuotient 7 (some .int) [(0, 14, 17, 13), (0, 14, 21, 15)] :: wU
abbrev r_L_addQuotient : Room := { frames := 9, cells := 4, slots := 24, locals := 175 }
abbrev q_L_addQuotient (g : GG) (ad : Nat → Nat) (st : SS) (sv : SS) (isS : Int32) (hst : Nat → SS) (spare : Int32) (undo : Int32) (seen : Nat → Int32) (dbef : Int32) (drec : Int32) (ptx : Nat → Int32) (plen : Int32) (ppos : Int32) (pcnt : Int32) (cmds : Nat → CC) (stE : Int32) (stF : Int32) (lch : Nat → Int32) (llen : Int32) (jo : Nat → Int64) (o : Int32 × SS × (Nat → SS) × Int32 × Int32 × (Nat → Int64)) (A : Nat → Prop) := va_Qi (fun (r : Int32) (u : SS × (Nat → SS) × Int32 × Int32 × (Nat → Int64)) => o.1 = r ∧ o.2 = u) (fun u t => va_P (gD g) zCl (wRootJ g ad u.1 sv isS u.2.1 u.2.2.1 u.2.2.2.1 seen dbef drec ptx plen ppos pcnt cmds stE stF lch llen u.2.2.2.2) t.heap) A
set_option maxHeartbeats 4000000 in
set_option maxRecDepth 100000 in
theorem c_L_addQuotient (l : Launch) (hl0 : l.stackTraces = false) (g : GG) (ad : Nat → Nat) (st : SS) (sv : SS) (isS : Int32) (hst : Nat → SS) (spare : Int32) (undo : Int32) (seen : Nat → Int32) (dbef : Int32) (drec : Int32) (ptx : Nat → Int32) (plen : Int32) (ppos : Int32) (pcnt : Int32) (cmds : Nat → CC) (stE : Int32) (stF : Int32) (lch : Nat → Int32) (llen : Int32) (jo : Nat → Int64) (sz : Nat) (p1 : Int32) (p2 : Int32) (p3 : Int32) (p4 : Int32) (fu : Nat) (o : Int32 × SS × (Nat → SS) × Int32 × Int32 × (Nat → Int64)) (hF : F_L_addQuotient fu st hst spare undo jo p1 p2 p3 p4 = some o) : Met l yL_addQuotient w_L_addQuotient r_L_addQuotient (va_Pc [.ref (ad 0), .int p1, .int p2, .int p3, .int p4, .ref (ad 74)] (zP g (wRootJ g ad st sv isS hst spare undo seen dbef drec ptx plen ppos pcnt cmds stE stF lch llen jo) sz)) (q_L_addQuotient g ad st sv isS hst spare undo seen dbef drec ptx plen ppos pcnt cmds stE stF lch llen jo o (va_A (wRootJ g ad st sv isS hst spare undo seen dbef drec ptx plen ppos pcnt cmds stE stF lch llen jo) sz)) 4 24 (va_A (wRootJ g ad st sv isS hst spare undo seen dbef drec ptx plen ppos pcnt cmds stE stF lch llen jo) sz) := by
  refine va_MetW (cc := cL_addQuotient) (maxL := 7) (ret := (some .int)) (by decide) rfl ?_
  intro p e s m args below meth c s₁ B hml hv
  obtain ⟨rfl, rfl, hP, hK, hD0, hB⟩ := hv
  have hx := B.exec
  have hb := B.bytes
  have hr := B.returns
  have htab : c.exceptionTable.toList = tableOf [(0, 14, 17, 13), (0, 14, 21, 15)] := vx_table (x := yL_addQuotient) B (atoms_spec (ws := w_L_addQuotient) B.pre _ List.mem_cons_self)
  have hts : ∀ w ∈ wU, w.before _ s = true := fun w h => atoms_spec (ws := w_L_addQuotient) B.pre w (List.mem_cons_of_mem _ h)
  have hown : s.vm.findClass RL = some m.cls := findClass_of_methodNamed B.named
  have hlocks := B.notSynchronized
  have hD := hD0.self (sz := s.heap.size)
  generalize hAe : va_A (wRootJ g ad st sv isS hst spare undo seen dbef drec ptx plen ppos pcnt cmds stE stF lch llen jo) s.heap.size = A at hD hB ⊢
  have hA : ∀ q : Nat, s.heap.size ≤ q → A q := fun q h => by rw [← hAe]; exact Or.inr h
  have hS : va_S A s.heap s.heap [] := va_S.rf
  have hl := lv_entry ([.ref (ad 0), .int p1, .int p2, .int p3, .int p4, .ref (ad 74)]) (n := 7) (Nat.le_of_ble_eq_true rfl)
  rw [lg_entry_eq]
  generalize (lg_sl ([.ref (ad 0), .int p1, .int p2, .int p3, .int p4, .ref (ad 74)]) ++ List.replicate (7 - (lg_sl ([.ref (ad 0), .int p1, .int p2, .int p3, .int p4, .ref (ad 74)])).length) Slot.unset).toArray = ls at hl ⊢
  have hl : lv_has ls 7 [(0, .ref (ad 0)), (1, .int p1), (2, .int p2), (3, .int p3), (4, .int p4), (5, .ref (ad 74))] := hl
  unfold F_L_addQuotient at hF
  refine lv_aload hx hb dL_addQuotient_0 (lv_at hl 5 rfl) ?_
  refine lv_iconst (v := 0) hx hb dL_addQuotient_2 (by decide) ?_
  refine lv_aload_n hx hb dL_addQuotient_3 rfl (lv_at hl 0 rfl) ?_
  refine lv_iload_n hx hb dL_addQuotient_4 rfl (lv_at hl 1 rfl) ?_
  refine lv_iload_n hx hb dL_addQuotient_5 rfl (lv_at hl 2 rfl) ?_
  refine lv_iload_n hx hb dL_addQuotient_6 rfl (lv_at hl 3 rfl) ?_
  refine lv_iload hx hb dL_addQuotient_7 (lv_at hl 4 rfl) ?_
  obtain ⟨zo1, hzo1, hF⟩ := z_bind hF
  refine z_calliX (fun (u : SS × (Nat → SS) × Int32 × Int32) => (wRoot g ad u.1 sv isS u.2.1 u.2.2.1 u.2.2.2 seen dbef drec ptx plen ppos pcnt cmds stE stF lch llen)) (fun (x : Nat × (SS × (Nat → SS) × Int32 × Int32)) => (wRoot g ad x.2.1 sv isS x.2.2.1 x.2.2.2.1 x.2.2.2.2 seen dbef drec ptx plen ppos pcnt cmds stE stF lch llen)) (fun (x : Nat × (SS × (Nat → SS) × Int32 × Int32)) => xN x.1) zRJ (vx_runV (As := [.int p1, .int p2, .int p3, .int p4]) (rest := [.int 0, .ref (ad 74)]) ⟨hx, hb, hml, hown, hts⟩ (c_X10_addQuotient l hl0 g ad st sv isS hst spare undo seen dbef drec ptx plen ppos pcnt cmds stE stF lch llen _ p1 p2 p3 p4 fu _ hzo1) (cwV 4 hts (gdV mU_672 mU_673 mU_674 mU_66 mU_675) rfl rfl rfl (by decide +kernel) ⟨Nat.le_of_ble_eq_true rfl, Nat.le_of_ble_eq_true rfl⟩) ⟨z_blind _ _ _ _, va_recv hK hP (ci := 6) (q0 := 0) rfl rfl, fun U hU hW => z_pre zRJ hP hD hK hB hS hA wRootJ_C wRootJ_N hU hW⟩ rfl rfl hl.1 rfl (lv_room (Nat.le_of_ble_eq_true rfl)) dL_addQuotient_9 ⟨Nat.le_of_ble_eq_true rfl, Nat.le_of_ble_eq_true rfl⟩) hP hD hS hA wRootJ_C (fun _ => rfl) (fun _ => rfl) (fun zw1 ce q9 H locs hw hP hD hS hq1 hq2 hq3 => ?_) (fun r u H locs hw hP hD hS => ?_)
  · subst hw
    have hF : _ = some o := hF
    have hP : va_P (gD g) zCl (wRootJ g ad zw1.2.1 sv isS zw1.2.2.1 zw1.2.2.2.1 zw1.2.2.2.2 seen dbef drec ptx plen ppos pcnt cmds stE stF lch llen jo) H := Eq.mp (congrArg (fun w => va_P (gD g) zCl w H) wRootJ_S) hP
    have hD : va_D A (wRootJ g ad zw1.2.1 sv isS zw1.2.2.1 zw1.2.2.2.1 zw1.2.2.2.2 seen dbef drec ptx plen ppos pcnt cmds stE stF lch llen jo) := Eq.mp (congrArg (fun w => va_D A w) wRootJ_S) hD
    have hF := z_err hF
    have hq3 : s.vm.findClass (xN zw1.1) = some ce.cls := hq3
    by_cases zc2 : zw1.1 = 0
    · have hF := z_pos hF zc2
      rw [zc2] at hq3
      have hq3 : s.vm.findClass "java/lang/IllegalArgumentException" = some ce.cls := hq3
      refine vx_catch (own := RL) (name := "java/lang/IllegalArgumentException") (E := "java/lang/IllegalArgumentException") hown [] (⟨0, 14, 17, 13⟩ : ExceptionTableEntry) [(⟨0, 14, 21, 15⟩ : ExceptionTableEntry)] (htab.trans rfl) (fun _ h => absurd h List.not_mem_nil) rfl (by decide) (hts _ mU_436) (va_Nw.use rfl (hB.2.1.1 _ zn_458)) hq1 hq2 hq3 ?_
      refine lv_astore (lv' := [(6, .ref q9), (0, .ref (ad 0)), (1, .int p1), (2, .int p2), (3, .int p3), (4, .int p4), (5, .ref (ad 74))]) hx hb dL_addQuotient_17 hl (by decide) rfl (fun ls hl => ?_)
      refine lv_iconst (v := 1) hx hb dL_addQuotient_19 (by decide) ?_
      have ho := (Option.some.inj hF).symm
      exact W.iret (v := 1) hx hb hr (fun t ht hW => ⟨⟨1, (zw1.2.1, zw1.2.2.1, zw1.2.2.2.1, zw1.2.2.2.2, jo), rfl, ⟨by rw [ho], by rw [ho]⟩, z_end ht hP⟩, hS.F ht⟩) hS.2.2 dL_addQuotient_20
    have hF := z_neg hF zc2
    by_cases zc3 : zw1.1 = 1
    · have hF := z_pos hF zc3
      rw [zc3] at hq3
      have hq3 : s.vm.findClass "java/lang/IllegalStateException" = some ce.cls := hq3
      refine vx_catch (own := RL) (name := "java/lang/IllegalStateException") (E := "java/lang/IllegalStateException") hown [(⟨0, 14, 17, 13⟩ : ExceptionTableEntry)] (⟨0, 14, 21, 15⟩ : ExceptionTableEntry) [] (htab.trans rfl) (List.forall_mem_cons.mpr ⟨(Or.inr ⟨by decide, "java/lang/IllegalArgumentException", hts _ mU_436, hB.2.1.2.1 ("java/lang/IllegalStateException", "java/lang/IllegalArgumentException") (by decide +kernel)⟩), (fun _ h => absurd h List.not_mem_nil)⟩) rfl (by decide) (hts _ mU_437) (va_Nw.use rfl (hB.2.1.1 _ zn_629)) hq1 hq2 hq3 ?_
      refine lv_astore (lv' := [(6, .ref q9), (0, .ref (ad 0)), (1, .int p1), (2, .int p2), (3, .int p3), (4, .int p4), (5, .ref (ad 74))]) hx hb dL_addQuotient_21 hl (by decide) rfl (fun ls hl => ?_)
      refine lv_iconst (v := 2) hx hb dL_addQuotient_23 (by decide) ?_
      have ho := (Option.some.inj hF).symm
      exact W.iret (v := 2) hx hb hr (fun t ht hW => ⟨⟨2, (zw1.2.1, zw1.2.2.1, zw1.2.2.2.1, zw1.2.2.2.2, jo), rfl, ⟨by rw [ho], by rw [ho]⟩, z_end ht hP⟩, hS.F ht⟩) hS.2.2 dL_addQuotient_24
    have hF := z_neg hF zc3
    exact absurd hF (by simp)
  · obtain ⟨za1, rfl, rfl, rfl⟩ := hw
    have hF := z_okk hF
    have hP : va_P (gD g) zCl (wRootJ g ad za1.2.1 sv isS za1.2.2.1 za1.2.2.2.1 za1.2.2.2.2 seen dbef drec ptx plen ppos pcnt cmds stE stF lch llen jo) H := Eq.mp (congrArg (fun w => va_P (gD g) zCl w H) wRootJ_S) hP
    have hD : va_D A (wRootJ g ad za1.2.1 sv isS za1.2.2.1 za1.2.2.2.1 za1.2.2.2.2 seen dbef drec ptx plen ppos pcnt cmds stE stF lch llen jo) := Eq.mp (congrArg (fun w => va_D A w) wRootJ_S) hD
    refine lv_i2l (v := (Int32.toInt64 za1.1)) hx hb dL_addQuotient_12 rfl ?_
    refine va_last hx hb hK hP hD hS 74 2 rfl rfl (by unfold vp_in; decide) dL_addQuotient_13 (fun H locs hP hD hS => ?_)
    have hP : va_P (gD g) zCl (wRootJ g ad za1.2.1 sv isS za1.2.2.1 za1.2.2.2.1 za1.2.2.2.2 seen dbef drec ptx plen ppos pcnt cmds stE stF lch llen (vp_updL jo (Int32.toNatClampNeg 0) (Int32.toInt64 za1.1))) H := hP
    have hD : va_D A (wRootJ g ad za1.2.1 sv isS za1.2.2.1 za1.2.2.2.1 za1.2.2.2.2 seen dbef drec ptx plen ppos pcnt cmds stE stF lch llen (vp_updL jo (Int32.toNatClampNeg 0) (Int32.toInt64 za1.1))) := hD
    refine lv_goto (tgt := 25) hx hb dL_addQuotient_14 (by decide) ?_
    refine lv_iconst (v := 0) hx hb dL_addQuotient_25 (by decide) ?_
    have ho := (Option.some.inj hF).symm
    exact W.iret (v := 0) hx hb hr (fun t ht hW => ⟨⟨0, (za1.2.1, za1.2.2.1, za1.2.2.2.1, za1.2.2.2.2, (vp_updL jo (Int32.toNatClampNeg 0) (Int32.toInt64 za1.1))), rfl, ⟨by rw [ho], by rw [ho]⟩, z_end ht hP⟩, hS.F ht⟩) hS.2.2 dL_addQuotient_26
abbrev w_L_remove : List Cond := .codeWith yL_remove cL_remove 4 (some .int) [(0, 8, 11, 26)] :: wU
abbrev r_L_remove : Room := { frames := 9, cells := 1, slots := 6, locals := 148 }
abbrev q_L_remove (g : GG) (ad : Nat → Nat) (st : SS) (sv : SS) (isS : Int32) (hst : Nat → SS) (spare : Int32) (undo : Int32) (seen : Nat → Int32) (dbef : Int32) (drec : Int32) (ptx : Nat → Int32) (plen : Int32) (ppos : Int32) (pcnt : Int32) (cmds : Nat → CC) (stE : Int32) (stF : Int32) (lch : Nat → Int32) (llen : Int32) (jo : Nat → Int64) (o : Int32 × SS × (Nat → SS) × Int32 × Int32 × (Nat → Int64)) (A : Nat → Prop) := va_Qi (fun (r : Int32) (u : SS × (Nat → SS) × Int32 × Int32 × (Nat → Int64)) => o.1 = r ∧ o.2 = u) (fun u t => va_P (gD g) zCl (wRootJ g ad u.1 sv isS u.2.1 u.2.2.1 u.2.2.2.1 seen dbef drec ptx plen ppos pcnt cmds stE stF lch llen u.2.2.2.2) t.heap) A
set_option maxHeartbeats 4000000 in
set_option maxRecDepth 100000 in
theorem c_L_remove (l : Launch) (hl0 : l.stackTraces = false) (g : GG) (ad : Nat → Nat) (st : SS) (sv : SS) (isS : Int32) (hst : Nat → SS) (spare : Int32) (undo : Int32) (seen : Nat → Int32) (dbef : Int32) (drec : Int32) (ptx : Nat → Int32) (plen : Int32) (ppos : Int32) (pcnt : Int32) (cmds : Nat → CC) (stE : Int32) (stF : Int32) (lch : Nat → Int32) (llen : Int32) (jo : Nat → Int64) (sz : Nat) (p1 : Int32) (fu : Nat) (o : Int32 × SS × (Nat → SS) × Int32 × Int32 × (Nat → Int64)) (hF : F_L_remove fu st hst spare undo jo p1 = some o) : Met l yL_remove w_L_remove r_L_remove (va_Pc [.ref (ad 0), .int p1, .ref (ad 74)] (zP g (wRootJ g ad st sv isS hst spare undo seen dbef drec ptx plen ppos pcnt cmds stE stF lch llen jo) sz)) (q_L_remove g ad st sv isS hst spare undo seen dbef drec ptx plen ppos pcnt cmds stE stF lch llen jo o (va_A (wRootJ g ad st sv isS hst spare undo seen dbef drec ptx plen ppos pcnt cmds stE stF lch llen jo) sz)) 1 6 (va_A (wRootJ g ad st sv isS hst spare undo seen dbef drec ptx plen ppos pcnt cmds stE stF lch llen jo) sz) := by
  refine va_MetW (cc := cL_remove) (maxL := 4) (ret := (some .int)) (by decide) rfl ?_
  intro p e s m args below meth c s₁ B hml hv
  obtain ⟨rfl, rfl, hP, hK, hD0, hB⟩ := hv
  have hx := B.exec
  have hb := B.bytes
  have hr := B.returns
  have htab : c.exceptionTable.toList = tableOf [(0, 8, 11, 26)] := vx_table (x := yL_remove) B (atoms_spec (ws := w_L_remove) B.pre _ List.mem_cons_self)
  have hts : ∀ w ∈ wU, w.before _ s = true := fun w h => atoms_spec (ws := w_L_remove) B.pre w (List.mem_cons_of_mem _ h)
  have hown : s.vm.findClass RL = some m.cls := findClass_of_methodNamed B.named
  have hlocks := B.notSynchronized
  have hD := hD0.self (sz := s.heap.size)
  generalize hAe : va_A (wRootJ g ad st sv isS hst spare undo seen dbef drec ptx plen ppos pcnt cmds stE stF lch llen jo) s.heap.size = A at hD hB ⊢
  have hA : ∀ q : Nat, s.heap.size ≤ q → A q := fun q h => by rw [← hAe]; exact Or.inr h
  have hS : va_S A s.heap s.heap [] := va_S.rf
  have hl := lv_entry ([.ref (ad 0), .int p1, .ref (ad 74)]) (n := 4) (Nat.le_of_ble_eq_true rfl)
  rw [lg_entry_eq]
  generalize (lg_sl ([.ref (ad 0), .int p1, .ref (ad 74)]) ++ List.replicate (4 - (lg_sl ([.ref (ad 0), .int p1, .ref (ad 74)])).length) Slot.unset).toArray = ls at hl ⊢
  have hl : lv_has ls 4 [(0, .ref (ad 0)), (1, .int p1), (2, .ref (ad 74))] := hl
  unfold F_L_remove at hF
  refine lv_aload_n hx hb dL_remove_0 rfl (lv_at hl 2 rfl) ?_
  refine lv_iconst (v := 0) hx hb dL_remove_1 (by decide) ?_
  refine lv_aload_n hx hb dL_remove_2 rfl (lv_at hl 0 rfl) ?_
  refine lv_iload_n hx hb dL_remove_3 rfl (lv_at hl 1 rfl) ?_
  obtain ⟨zo1, hzo1, hF⟩ := z_bind hF
  refine z_calllX (fun (u : SS × (Nat → SS) × Int32 × Int32) => (wRoot g ad u.1 sv isS u.2.1 u.2.2.1 u.2.2.2 seen dbef drec ptx plen ppos pcnt cmds stE stF lch llen)) (fun (x : Nat × (SS × (Nat → SS) × Int32 × Int32)) => (wRoot g ad x.2.1 sv isS x.2.2.1 x.2.2.2.1 x.2.2.2.2 seen dbef drec ptx plen ppos pcnt cmds stE stF lch llen)) (fun (x : Nat × (SS × (Nat → SS) × Int32 × Int32)) => xN x.1) zRJ (vx_runV (As := [.int p1]) (rest := [.int 0, .ref (ad 74)]) ⟨hx, hb, hml, hown, hts⟩ (c_X10_remove l hl0 g ad st sv isS hst spare undo seen dbef drec ptx plen ppos pcnt cmds stE stF lch llen _ p1 fu _ hzo1) (cwV 1 hts (gdV mU_691 mU_692 mU_693 mU_66 mU_694) rfl rfl rfl (by decide +kernel) ⟨Nat.le_of_ble_eq_true rfl, Nat.le_of_ble_eq_true rfl⟩) ⟨z_blind _ _ _ _, va_recv hK hP (ci := 6) (q0 := 0) rfl rfl, fun U hU hW => z_pre zRJ hP hD hK hB hS hA wRootJ_C wRootJ_N hU hW⟩ rfl rfl hl.1 rfl (lv_room (Nat.le_of_ble_eq_true rfl)) dL_remove_4 ⟨Nat.le_of_ble_eq_true rfl, Nat.le_of_ble_eq_true rfl⟩) hP hD hS hA wRootJ_C (fun _ => rfl) (fun _ => rfl) (fun zw1 ce q9 H locs hw hP hD hS hq1 hq2 hq3 => ?_) (fun r u H locs hw hP hD hS => ?_)
  · subst hw
    have hF : _ = some o := hF
    have hP : va_P (gD g) zCl (wRootJ g ad zw1.2.1 sv isS zw1.2.2.1 zw1.2.2.2.1 zw1.2.2.2.2 seen dbef drec ptx plen ppos pcnt cmds stE stF lch llen jo) H := Eq.mp (congrArg (fun w => va_P (gD g) zCl w H) wRootJ_S) hP
    have hD : va_D A (wRootJ g ad zw1.2.1 sv isS zw1.2.2.1 zw1.2.2.2.1 zw1.2.2.2.2 seen dbef drec ptx plen ppos pcnt cmds stE stF lch llen jo) := Eq.mp (congrArg (fun w => va_D A w) wRootJ_S) hD
    have hF := z_err hF
    have hq3 : s.vm.findClass (xN zw1.1) = some ce.cls := hq3
    by_cases zc2 : zw1.1 = 3
    · have hF := z_pos hF zc2
      rw [zc2] at hq3
      have hq3 : s.vm.findClass "java/util/NoSuchElementException" = some ce.cls := hq3
      refine vx_catch (own := RL) (name := "java/util/NoSuchElementException") (E := "java/util/NoSuchElementException") hown [] (⟨0, 8, 11, 26⟩ : ExceptionTableEntry) [] (htab.trans rfl) (fun _ h => absurd h List.not_mem_nil) rfl (by decide) (hts _ mU_690) (va_Nw.use rfl (hB.2.1.1 _ zn_705)) hq1 hq2 hq3 ?_
      refine lv_astore_n (lv' := [(3, .ref q9), (0, .ref (ad 0)), (1, .int p1), (2, .ref (ad 74))]) hx hb dL_remove_11 rfl hl (by decide) rfl (fun ls hl => ?_)
      refine lv_iconst (v := 1) hx hb dL_remove_12 (by decide) ?_
      have ho := (Option.some.inj hF).symm
      exact W.iret (v := 1) hx hb hr (fun t ht hW => ⟨⟨1, (zw1.2.1, zw1.2.2.1, zw1.2.2.2.1, zw1.2.2.2.2, jo), rfl, ⟨by rw [ho], by rw [ho]⟩, z_end ht hP⟩, hS.F ht⟩) hS.2.2 dL_remove_13
    have hF := z_neg hF zc2
    exact absurd hF (by simp)
  · obtain ⟨za1, rfl, rfl, rfl⟩ := hw
    have hF := z_okk hF
    have hP : va_P (gD g) zCl (wRootJ g ad za1.2.1 sv isS za1.2.2.1 za1.2.2.2.1 za1.2.2.2.2 seen dbef drec ptx plen ppos pcnt cmds stE stF lch llen jo) H := Eq.mp (congrArg (fun w => va_P (gD g) zCl w H) wRootJ_S) hP
    have hD : va_D A (wRootJ g ad za1.2.1 sv isS za1.2.2.1 za1.2.2.2.1 za1.2.2.2.2 seen dbef drec ptx plen ppos pcnt cmds stE stF lch llen jo) := Eq.mp (congrArg (fun w => va_D A w) wRootJ_S) hD
    refine va_last hx hb hK hP hD hS 74 2 rfl rfl (by unfold vp_in; decide) dL_remove_7 (fun H locs hP hD hS => ?_)
    have hP : va_P (gD g) zCl (wRootJ g ad za1.2.1 sv isS za1.2.2.1 za1.2.2.2.1 za1.2.2.2.2 seen dbef drec ptx plen ppos pcnt cmds stE stF lch llen (vp_updL jo (Int32.toNatClampNeg 0) za1.1)) H := hP
    have hD : va_D A (wRootJ g ad za1.2.1 sv isS za1.2.2.1 za1.2.2.2.1 za1.2.2.2.2 seen dbef drec ptx plen ppos pcnt cmds stE stF lch llen (vp_updL jo (Int32.toNatClampNeg 0) za1.1)) := hD
    refine lv_goto (tgt := 14) hx hb dL_remove_8 (by decide) ?_
    refine lv_iconst (v := 0) hx hb dL_remove_14 (by decide) ?_
    have ho := (Option.some.inj hF).symm
    exact W.iret (v := 0) hx hb hr (fun t ht hW => ⟨⟨0, (za1.2.1, za1.2.2.1, za1.2.2.2.1, za1.2.2.2.2, (vp_updL jo (Int32.toNatClampNeg 0) za1.1)), rfl, ⟨by rw [ho], by rw [ho]⟩, z_end ht hP⟩, hS.F ht⟩) hS.2.2 dL_remove_15
abbrev w_L_feed : List Cond := .codeWith yL_feed cL_feed 6 (some .int) [(0, 11, 14, 26), (0, 11, 18, 13)] :: wU
abbrev r_L_feed : Room := { frames := 9, cells := 2, slots := 12, locals := 155 }
abbrev q_L_feed (g : GG) (ad : Nat → Nat) (st : SS) (sv : SS) (isS : Int32) (hst : Nat → SS) (spare : Int32) (undo : Int32) (seen : Nat → Int32) (dbef : Int32) (drec : Int32) (ptx : Nat → Int32) (plen : Int32) (ppos : Int32) (pcnt : Int32) (cmds : Nat → CC) (stE : Int32) (stF : Int32) (lch : Nat → Int32) (llen : Int32) (jo : Nat → Int64) (o : Int32 × SS × (Nat → SS) × Int32 × Int32 × (Nat → Int64)) (A : Nat → Prop) := va_Qi (fun (r : Int32) (u : SS × (Nat → SS) × Int32 × Int32 × (Nat → Int64)) => o.1 = r ∧ o.2 = u) (fun u t => va_P (gD g) zCl (wRootJ g ad u.1 sv isS u.2.1 u.2.2.1 u.2.2.2.1 seen dbef drec ptx plen ppos pcnt cmds stE stF lch llen u.2.2.2.2) t.heap) A
set_option maxHeartbeats 4000000 in
set_option maxRecDepth 100000 in
theorem c_L_feed (l : Launch) (hl0 : l.stackTraces = false) (g : GG) (ad : Nat → Nat) (st : SS) (sv : SS) (isS : Int32) (hst : Nat → SS) (spare : Int32) (undo : Int32) (seen : Nat → Int32) (dbef : Int32) (drec : Int32) (ptx : Nat → Int32) (plen : Int32) (ppos : Int32) (pcnt : Int32) (cmds : Nat → CC) (stE : Int32) (stF : Int32) (lch : Nat → Int32) (llen : Int32) (jo : Nat → Int64) (sz : Nat) (p1 : Int32) (p2 : Int32) (p3 : Int32) (fu : Nat) (o : Int32 × SS × (Nat → SS) × Int32 × Int32 × (Nat → Int64)) (hF : F_L_feed fu st hst spare undo jo p1 p2 p3 = some o) : Met l yL_feed w_L_feed r_L_feed (va_Pc [.ref (ad 0), .int p1, .int p2, .int p3, .ref (ad 74)] (zP g (wRootJ g ad st sv isS hst spare undo seen dbef drec ptx plen ppos pcnt cmds stE stF lch llen jo) sz)) (q_L_feed g ad st sv isS hst spare undo seen dbef drec ptx plen ppos pcnt cmds stE stF lch llen jo o (va_A (wRootJ g ad st sv isS hst spare undo seen dbef drec ptx plen ppos pcnt cmds stE stF lch llen jo) sz)) 2 12 (va_A (wRootJ g ad st sv isS hst spare undo seen dbef drec ptx plen ppos pcnt cmds stE stF lch llen jo) sz) := by
  refine va_MetW (cc := cL_feed) (maxL := 6) (ret := (some .int)) (by decide) rfl ?_
  intro p e s m args below meth c s₁ B hml hv
  obtain ⟨rfl, rfl, hP, hK, hD0, hB⟩ := hv
  have hx := B.exec
  have hb := B.bytes
  have hr := B.returns
  have htab : c.exceptionTable.toList = tableOf [(0, 11, 14, 26), (0, 11, 18, 13)] := vx_table (x := yL_feed) B (atoms_spec (ws := w_L_feed) B.pre _ List.mem_cons_self)
  have hts : ∀ w ∈ wU, w.before _ s = true := fun w h => atoms_spec (ws := w_L_feed) B.pre w (List.mem_cons_of_mem _ h)
  have hown : s.vm.findClass RL = some m.cls := findClass_of_methodNamed B.named
  have hlocks := B.notSynchronized
  have hD := hD0.self (sz := s.heap.size)
  generalize hAe : va_A (wRootJ g ad st sv isS hst spare undo seen dbef drec ptx plen ppos pcnt cmds stE stF lch llen jo) s.heap.size = A at hD hB ⊢
  have hA : ∀ q : Nat, s.heap.size ≤ q → A q := fun q h => by rw [← hAe]; exact Or.inr h
  have hS : va_S A s.heap s.heap [] := va_S.rf
  have hl := lv_entry ([.ref (ad 0), .int p1, .int p2, .int p3, .ref (ad 74)]) (n := 6) (Nat.le_of_ble_eq_true rfl)
  rw [lg_entry_eq]
  generalize (lg_sl ([.ref (ad 0), .int p1, .int p2, .int p3, .ref (ad 74)]) ++ List.replicate (6 - (lg_sl ([.ref (ad 0), .int p1, .int p2, .int p3, .ref (ad 74)])).length) Slot.unset).toArray = ls at hl ⊢
  have hl : lv_has ls 6 [(0, .ref (ad 0)), (1, .int p1), (2, .int p2), (3, .int p3), (4, .ref (ad 74))] := hl
  unfold F_L_feed at hF
  refine lv_aload hx hb dL_feed_0 (lv_at hl 4 rfl) ?_
  refine lv_iconst (v := 0) hx hb dL_feed_2 (by decide) ?_
  refine lv_aload_n hx hb dL_feed_3 rfl (lv_at hl 0 rfl) ?_
  refine lv_iload_n hx hb dL_feed_4 rfl (lv_at hl 1 rfl) ?_
  refine lv_iload_n hx hb dL_feed_5 rfl (lv_at hl 2 rfl) ?_
  refine lv_iload_n hx hb dL_feed_6 rfl (lv_at hl 3 rfl) ?_
  obtain ⟨zo1, hzo1, hF⟩ := z_bind hF
  refine z_calllX (fun (u : SS × (Nat → SS) × Int32 × Int32) => (wRoot g ad u.1 sv isS u.2.1 u.2.2.1 u.2.2.2 seen dbef drec ptx plen ppos pcnt cmds stE stF lch llen)) (fun (x : Nat × (SS × (Nat → SS) × Int32 × Int32)) => (wRoot g ad x.2.1 sv isS x.2.2.1 x.2.2.2.1 x.2.2.2.2 seen dbef drec ptx plen ppos pcnt cmds stE stF lch llen)) (fun (x : Nat × (SS × (Nat → SS) × Int32 × Int32)) => xN x.1) zRJ (vx_runV (As := [.int p1, .int p2, .int p3]) (rest := [.int 0, .ref (ad 74)]) ⟨hx, hb, hml, hown, hts⟩ (c_X10_feed l hl0 g ad st sv isS hst spare undo seen dbef drec ptx plen ppos pcnt cmds stE stF lch llen _ p1 p2 p3 fu _ hzo1) (cwV 3 hts (gdV mU_726 mU_727 mU_728 mU_66 mU_729) rfl rfl rfl (by decide +kernel) ⟨Nat.le_of_ble_eq_true rfl, Nat.le_of_ble_eq_true rfl⟩) ⟨z_blind _ _ _ _, va_recv hK hP (ci := 6) (q0 := 0) rfl rfl, fun U hU hW => z_pre zRJ hP hD hK hB hS hA wRootJ_C wRootJ_N hU hW⟩ rfl rfl hl.1 rfl (lv_room (Nat.le_of_ble_eq_true rfl)) dL_feed_7 ⟨Nat.le_of_ble_eq_true rfl, Nat.le_of_ble_eq_true rfl⟩) hP hD hS hA wRootJ_C (fun _ => rfl) (fun _ => rfl) (fun zw1 ce q9 H locs hw hP hD hS hq1 hq2 hq3 => ?_) (fun r u H locs hw hP hD hS => ?_)
  · subst hw
    have hF : _ = some o := hF
    have hP : va_P (gD g) zCl (wRootJ g ad zw1.2.1 sv isS zw1.2.2.1 zw1.2.2.2.1 zw1.2.2.2.2 seen dbef drec ptx plen ppos pcnt cmds stE stF lch llen jo) H := Eq.mp (congrArg (fun w => va_P (gD g) zCl w H) wRootJ_S) hP
    have hD : va_D A (wRootJ g ad zw1.2.1 sv isS zw1.2.2.1 zw1.2.2.2.1 zw1.2.2.2.2 seen dbef drec ptx plen ppos pcnt cmds stE stF lch llen jo) := Eq.mp (congrArg (fun w => va_D A w) wRootJ_S) hD
    have hF := z_err hF
    have hq3 : s.vm.findClass (xN zw1.1) = some ce.cls := hq3
    by_cases zc2 : zw1.1 = 0
    · have hF := z_pos hF zc2
      rw [zc2] at hq3
      have hq3 : s.vm.findClass "java/lang/IllegalArgumentException" = some ce.cls := hq3
      refine vx_catch (own := RL) (name := "java/lang/IllegalArgumentException") (E := "java/lang/IllegalArgumentException") hown [(⟨0, 11, 14, 26⟩ : ExceptionTableEntry)] (⟨0, 11, 18, 13⟩ : ExceptionTableEntry) [] (htab.trans rfl) (List.forall_mem_cons.mpr ⟨(Or.inr ⟨by decide, "java/util/NoSuchElementException", hts _ mU_690, hB.2.1.2.1 ("java/lang/IllegalArgumentException", "java/util/NoSuchElementException") (by decide +kernel)⟩), (fun _ h => absurd h List.not_mem_nil)⟩) rfl (by decide) (hts _ mU_436) (va_Nw.use rfl (hB.2.1.1 _ zn_458)) hq1 hq2 hq3 ?_
      refine lv_astore (lv' := [(5, .ref q9), (0, .ref (ad 0)), (1, .int p1), (2, .int p2), (3, .int p3), (4, .ref (ad 74))]) hx hb dL_feed_18 hl (by decide) rfl (fun ls hl => ?_)
      refine lv_iconst (v := 2) hx hb dL_feed_20 (by decide) ?_
      have ho := (Option.some.inj hF).symm
      exact W.iret (v := 2) hx hb hr (fun t ht hW => ⟨⟨2, (zw1.2.1, zw1.2.2.1, zw1.2.2.2.1, zw1.2.2.2.2, jo), rfl, ⟨by rw [ho], by rw [ho]⟩, z_end ht hP⟩, hS.F ht⟩) hS.2.2 dL_feed_21
    have hF := z_neg hF zc2
    by_cases zc3 : zw1.1 = 3
    · have hF := z_pos hF zc3
      rw [zc3] at hq3
      have hq3 : s.vm.findClass "java/util/NoSuchElementException" = some ce.cls := hq3
      refine vx_catch (own := RL) (name := "java/util/NoSuchElementException") (E := "java/util/NoSuchElementException") hown [] (⟨0, 11, 14, 26⟩ : ExceptionTableEntry) [(⟨0, 11, 18, 13⟩ : ExceptionTableEntry)] (htab.trans rfl) (fun _ h => absurd h List.not_mem_nil) rfl (by decide) (hts _ mU_690) (va_Nw.use rfl (hB.2.1.1 _ zn_705)) hq1 hq2 hq3 ?_
      refine lv_astore (lv' := [(5, .ref q9), (0, .ref (ad 0)), (1, .int p1), (2, .int p2), (3, .int p3), (4, .ref (ad 74))]) hx hb dL_feed_14 hl (by decide) rfl (fun ls hl => ?_)
      refine lv_iconst (v := 1) hx hb dL_feed_16 (by decide) ?_
      have ho := (Option.some.inj hF).symm
      exact W.iret (v := 1) hx hb hr (fun t ht hW => ⟨⟨1, (zw1.2.1, zw1.2.2.1, zw1.2.2.2.1, zw1.2.2.2.2, jo), rfl, ⟨by rw [ho], by rw [ho]⟩, z_end ht hP⟩, hS.F ht⟩) hS.2.2 dL_feed_17
    have hF := z_neg hF zc3
    exact absurd hF (by simp)
  · obtain ⟨za1, rfl, rfl, rfl⟩ := hw
    have hF := z_okk hF
    have hP : va_P (gD g) zCl (wRootJ g ad za1.2.1 sv isS za1.2.2.1 za1.2.2.2.1 za1.2.2.2.2 seen dbef drec ptx plen ppos pcnt cmds stE stF lch llen jo) H := Eq.mp (congrArg (fun w => va_P (gD g) zCl w H) wRootJ_S) hP
    have hD : va_D A (wRootJ g ad za1.2.1 sv isS za1.2.2.1 za1.2.2.2.1 za1.2.2.2.2 seen dbef drec ptx plen ppos pcnt cmds stE stF lch llen jo) := Eq.mp (congrArg (fun w => va_D A w) wRootJ_S) hD
    refine va_last hx hb hK hP hD hS 74 2 rfl rfl (by unfold vp_in; decide) dL_feed_10 (fun H locs hP hD hS => ?_)
    have hP : va_P (gD g) zCl (wRootJ g ad za1.2.1 sv isS za1.2.2.1 za1.2.2.2.1 za1.2.2.2.2 seen dbef drec ptx plen ppos pcnt cmds stE stF lch llen (vp_updL jo (Int32.toNatClampNeg 0) za1.1)) H := hP
    have hD : va_D A (wRootJ g ad za1.2.1 sv isS za1.2.2.1 za1.2.2.2.1 za1.2.2.2.2 seen dbef drec ptx plen ppos pcnt cmds stE stF lch llen (vp_updL jo (Int32.toNatClampNeg 0) za1.1)) := hD
    refine lv_goto (tgt := 22) hx hb dL_feed_11 (by decide) ?_
    refine lv_iconst (v := 0) hx hb dL_feed_22 (by decide) ?_
    have ho := (Option.some.inj hF).symm
    exact W.iret (v := 0) hx hb hr (fun t ht hW => ⟨⟨0, (za1.2.1, za1.2.2.1, za1.2.2.2.1, za1.2.2.2.2, (vp_updL jo (Int32.toNatClampNeg 0) za1.1)), rfl, ⟨by rw [ho], by rw [ho]⟩, z_end ht hP⟩, hS.F ht⟩) hS.2.2 dL_feed_23
abbrev w_L_trade : List Cond := .codeWith yL_trade cL_trade 7 (some .int) [(0, 13, 16, 26), (0, 13, 20, 13), (0, 13, 24, 15), (0, 13, 28, 17)] :: wU
abbrev r_L_trade : Room := { frames := 9, cells := 4, slots := 24, locals := 158 }
abbrev q_L_trade (g : GG) (ad : Nat → Nat) (st : SS) (sv : SS) (isS : Int32) (hst : Nat → SS) (spare : Int32) (undo : Int32) (seen : Nat → Int32) (dbef : Int32) (drec : Int32) (ptx : Nat → Int32) (plen : Int32) (ppos : Int32) (pcnt : Int32) (cmds : Nat → CC) (stE : Int32) (stF : Int32) (lch : Nat → Int32) (llen : Int32) (jo : Nat → Int64) (o : Int32 × SS × (Nat → SS) × Int32 × Int32 × (Nat → Int64)) (A : Nat → Prop) := va_Qi (fun (r : Int32) (u : SS × (Nat → SS) × Int32 × Int32 × (Nat → Int64)) => o.1 = r ∧ o.2 = u) (fun u t => va_P (gD g) zCl (wRootJ g ad u.1 sv isS u.2.1 u.2.2.1 u.2.2.2.1 seen dbef drec ptx plen ppos pcnt cmds stE stF lch llen u.2.2.2.2) t.heap) A
set_option maxHeartbeats 4000000 in
set_option maxRecDepth 100000 in
theorem c_L_trade (l : Launch) (hl0 : l.stackTraces = false) (g : GG) (ad : Nat → Nat) (st : SS) (sv : SS) (isS : Int32) (hst : Nat → SS) (spare : Int32) (undo : Int32) (seen : Nat → Int32) (dbef : Int32) (drec : Int32) (ptx : Nat → Int32) (plen : Int32) (ppos : Int32) (pcnt : Int32) (cmds : Nat → CC) (stE : Int32) (stF : Int32) (lch : Nat → Int32) (llen : Int32) (jo : Nat → Int64) (sz : Nat) (p1 : Int32) (p2 : Int32) (p3 : Int32) (p4 : Int32) (fu : Nat) (o : Int32 × SS × (Nat → SS) × Int32 × Int32 × (Nat → Int64)) (hF : F_L_trade fu st hst spare undo jo p1 p2 p3 p4 = some o) : Met l yL_trade w_L_trade r_L_trade (va_Pc [.ref (ad 0), .int p1, .int p2, .int p3, .int p4, .ref (ad 74)] (zP g (wRootJ g ad st sv isS hst spare undo seen dbef drec ptx plen ppos pcnt cmds stE stF lch llen jo) sz)) (q_L_trade g ad st sv isS hst spare undo seen dbef drec ptx plen ppos pcnt cmds stE stF lch llen jo o (va_A (wRootJ g ad st sv isS hst spare undo seen dbef drec ptx plen ppos pcnt cmds stE stF lch llen jo) sz)) 4 24 (va_A (wRootJ g ad st sv isS hst spare undo seen dbef drec ptx plen ppos pcnt cmds stE stF lch llen jo) sz) := by
  refine va_MetW (cc := cL_trade) (maxL := 7) (ret := (some .int)) (by decide) rfl ?_
  intro p e s m args below meth c s₁ B hml hv
  obtain ⟨rfl, rfl, hP, hK, hD0, hB⟩ := hv
  have hx := B.exec
  have hb := B.bytes
  have hr := B.returns
  have htab : c.exceptionTable.toList = tableOf [(0, 13, 16, 26), (0, 13, 20, 13), (0, 13, 24, 15), (0, 13, 28, 17)] := vx_table (x := yL_trade) B (atoms_spec (ws := w_L_trade) B.pre _ List.mem_cons_self)
  have hts : ∀ w ∈ wU, w.before _ s = true := fun w h => atoms_spec (ws := w_L_trade) B.pre w (List.mem_cons_of_mem _ h)
  have hown : s.vm.findClass RL = some m.cls := findClass_of_methodNamed B.named
  have hlocks := B.notSynchronized
  have hD := hD0.self (sz := s.heap.size)
  generalize hAe : va_A (wRootJ g ad st sv isS hst spare undo seen dbef drec ptx plen ppos pcnt cmds stE stF lch llen jo) s.heap.size = A at hD hB ⊢
  have hA : ∀ q : Nat, s.heap.size ≤ q → A q := fun q h => by rw [← hAe]; exact Or.inr h
  have hS : va_S A s.heap s.heap [] := va_S.rf
  have hl := lv_entry ([.ref (ad 0), .int p1, .int p2, .int p3, .int p4, .ref (ad 74)]) (n := 7) (Nat.le_of_ble_eq_true rfl)
  rw [lg_entry_eq]
  generalize (lg_sl ([.ref (ad 0), .int p1, .int p2, .int p3, .int p4, .ref (ad 74)]) ++ List.replicate (7 - (lg_sl ([.ref (ad 0), .int p1, .int p2, .int p3, .int p4, .ref (ad 74)])).length) Slot.unset).toArray = ls at hl ⊢
  have hl : lv_has ls 7 [(0, .ref (ad 0)), (1, .int p1), (2, .int p2), (3, .int p3), (4, .int p4), (5, .ref (ad 74))] := hl
  unfold F_L_trade at hF
  refine lv_aload hx hb dL_trade_0 (lv_at hl 5 rfl) ?_
  refine lv_iconst (v := 0) hx hb dL_trade_2 (by decide) ?_
  refine lv_aload_n hx hb dL_trade_3 rfl (lv_at hl 0 rfl) ?_
  refine lv_iload_n hx hb dL_trade_4 rfl (lv_at hl 1 rfl) ?_
  refine lv_iload_n hx hb dL_trade_5 rfl (lv_at hl 2 rfl) ?_
  refine lv_iload_n hx hb dL_trade_6 rfl (lv_at hl 3 rfl) ?_
  refine lv_iload hx hb dL_trade_7 (lv_at hl 4 rfl) ?_
  obtain ⟨zo1, hzo1, hF⟩ := z_bind hF
  refine z_calllX (fun (u : SS × (Nat → SS) × Int32 × Int32) => (wRoot g ad u.1 sv isS u.2.1 u.2.2.1 u.2.2.2 seen dbef drec ptx plen ppos pcnt cmds stE stF lch llen)) (fun (x : Nat × (SS × (Nat → SS) × Int32 × Int32)) => (wRoot g ad x.2.1 sv isS x.2.2.1 x.2.2.2.1 x.2.2.2.2 seen dbef drec ptx plen ppos pcnt cmds stE stF lch llen)) (fun (x : Nat × (SS × (Nat → SS) × Int32 × Int32)) => xN x.1) zRJ (vx_runV (As := [.int p1, .int p2, .int p3, .int p4]) (rest := [.int 0, .ref (ad 74)]) ⟨hx, hb, hml, hown, hts⟩ (c_X10_trade l hl0 g ad st sv isS hst spare undo seen dbef drec ptx plen ppos pcnt cmds stE stF lch llen _ p1 p2 p3 p4 fu _ hzo1) (cwV 4 hts (gdV mU_746 mU_747 mU_748 mU_66 mU_749) rfl rfl rfl (by decide +kernel) ⟨Nat.le_of_ble_eq_true rfl, Nat.le_of_ble_eq_true rfl⟩) ⟨z_blind _ _ _ _, va_recv hK hP (ci := 6) (q0 := 0) rfl rfl, fun U hU hW => z_pre zRJ hP hD hK hB hS hA wRootJ_C wRootJ_N hU hW⟩ rfl rfl hl.1 rfl (lv_room (Nat.le_of_ble_eq_true rfl)) dL_trade_9 ⟨Nat.le_of_ble_eq_true rfl, Nat.le_of_ble_eq_true rfl⟩) hP hD hS hA wRootJ_C (fun _ => rfl) (fun _ => rfl) (fun zw1 ce q9 H locs hw hP hD hS hq1 hq2 hq3 => ?_) (fun r u H locs hw hP hD hS => ?_)
  · subst hw
    have hF : _ = some o := hF
    have hP : va_P (gD g) zCl (wRootJ g ad zw1.2.1 sv isS zw1.2.2.1 zw1.2.2.2.1 zw1.2.2.2.2 seen dbef drec ptx plen ppos pcnt cmds stE stF lch llen jo) H := Eq.mp (congrArg (fun w => va_P (gD g) zCl w H) wRootJ_S) hP
    have hD : va_D A (wRootJ g ad zw1.2.1 sv isS zw1.2.2.1 zw1.2.2.2.1 zw1.2.2.2.2 seen dbef drec ptx plen ppos pcnt cmds stE stF lch llen jo) := Eq.mp (congrArg (fun w => va_D A w) wRootJ_S) hD
    have hF := z_err hF
    have hq3 : s.vm.findClass (xN zw1.1) = some ce.cls := hq3
    by_cases zc2 : zw1.1 = 0
    · have hF := z_pos hF zc2
      rw [zc2] at hq3
      have hq3 : s.vm.findClass "java/lang/IllegalArgumentException" = some ce.cls := hq3
      refine vx_catch (own := RL) (name := "java/lang/IllegalArgumentException") (E := "java/lang/IllegalArgumentException") hown [(⟨0, 13, 16, 26⟩ : ExceptionTableEntry)] (⟨0, 13, 20, 13⟩ : ExceptionTableEntry) [(⟨0, 13, 24, 15⟩ : ExceptionTableEntry), (⟨0, 13, 28, 17⟩ : ExceptionTableEntry)] (htab.trans rfl) (List.forall_mem_cons.mpr ⟨(Or.inr ⟨by decide, "java/util/NoSuchElementException", hts _ mU_690, hB.2.1.2.1 ("java/lang/IllegalArgumentException", "java/util/NoSuchElementException") (by decide +kernel)⟩), (fun _ h => absurd h List.not_mem_nil)⟩) rfl (by decide) (hts _ mU_436) (va_Nw.use rfl (hB.2.1.1 _ zn_458)) hq1 hq2 hq3 ?_
      refine lv_astore (lv' := [(6, .ref q9), (0, .ref (ad 0)), (1, .int p1), (2, .int p2), (3, .int p3), (4, .int p4), (5, .ref (ad 74))]) hx hb dL_trade_20 hl (by decide) rfl (fun ls hl => ?_)
      refine lv_iconst (v := 2) hx hb dL_trade_22 (by decide) ?_
      have ho := (Option.some.inj hF).symm
      exact W.iret (v := 2) hx hb hr (fun t ht hW => ⟨⟨2, (zw1.2.1, zw1.2.2.1, zw1.2.2.2.1, zw1.2.2.2.2, jo), rfl, ⟨by rw [ho], by rw [ho]⟩, z_end ht hP⟩, hS.F ht⟩) hS.2.2 dL_trade_23
    have hF := z_neg hF zc2
    by_cases zc3 : zw1.1 = 1
    · have hF := z_pos hF zc3
      rw [zc3] at hq3
      have hq3 : s.vm.findClass "java/lang/IllegalStateException" = some ce.cls := hq3
      refine vx_catch (own := RL) (name := "java/lang/IllegalStateException") (E := "java/lang/IllegalStateException") hown [(⟨0, 13, 16, 26⟩ : ExceptionTableEntry), (⟨0, 13, 20, 13⟩ : ExceptionTableEntry)] (⟨0, 13, 24, 15⟩ : ExceptionTableEntry) [(⟨0, 13, 28, 17⟩ : ExceptionTableEntry)] (htab.trans rfl) (List.forall_mem_cons.mpr ⟨(Or.inr ⟨by decide, "java/util/NoSuchElementException", hts _ mU_690, hB.2.1.2.1 ("java/lang/IllegalStateException", "java/util/NoSuchElementException") (by decide +kernel)⟩), (List.forall_mem_cons.mpr ⟨(Or.inr ⟨by decide, "java/lang/IllegalArgumentException", hts _ mU_436, hB.2.1.2.1 ("java/lang/IllegalStateException", "java/lang/IllegalArgumentException") (by decide +kernel)⟩), (fun _ h => absurd h List.not_mem_nil)⟩)⟩) rfl (by decide) (hts _ mU_437) (va_Nw.use rfl (hB.2.1.1 _ zn_629)) hq1 hq2 hq3 ?_
      refine lv_astore (lv' := [(6, .ref q9), (0, .ref (ad 0)), (1, .int p1), (2, .int p2), (3, .int p3), (4, .int p4), (5, .ref (ad 74))]) hx hb dL_trade_24 hl (by decide) rfl (fun ls hl => ?_)
      refine lv_iconst (v := 3) hx hb dL_trade_26 (by decide) ?_
      have ho := (Option.some.inj hF).symm
      exact W.iret (v := 3) hx hb hr (fun t ht hW => ⟨⟨3, (zw1.2.1, zw1.2.2.1, zw1.2.2.2.1, zw1.2.2.2.2, jo), rfl, ⟨by rw [ho], by rw [ho]⟩, z_end ht hP⟩, hS.F ht⟩) hS.2.2 dL_trade_27
    have hF := z_neg hF zc3
    by_cases zc4 : zw1.1 = 2
    · have hF := z_pos hF zc4
      rw [zc4] at hq3
      have hq3 : s.vm.findClass "java/lang/UnsupportedOperationException" = some ce.cls := hq3
      refine vx_catch (own := RL) (name := "java/lang/UnsupportedOperationException") (E := "java/lang/UnsupportedOperationException") hown [(⟨0, 13, 16, 26⟩ : ExceptionTableEntry), (⟨0, 13, 20, 13⟩ : ExceptionTableEntry), (⟨0, 13, 24, 15⟩ : ExceptionTableEntry)] (⟨0, 13, 28, 17⟩ : ExceptionTableEntry) [] (htab.trans rfl) (List.forall_mem_cons.mpr ⟨(Or.inr ⟨by decide, "java/util/NoSuchElementException", hts _ mU_690, hB.2.1.2.1 ("java/lang/UnsupportedOperationException", "java/util/NoSuchElementException") (by decide +kernel)⟩), (List.forall_mem_cons.mpr ⟨(Or.inr ⟨by decide, "java/lang/IllegalArgumentException", hts _ mU_436, hB.2.1.2.1 ("java/lang/UnsupportedOperationException", "java/lang/IllegalArgumentException") (by decide +kernel)⟩), (List.forall_mem_cons.mpr ⟨(Or.inr ⟨by decide, "java/lang/IllegalStateException", hts _ mU_437, hB.2.1.2.1 ("java/lang/UnsupportedOperationException", "java/lang/IllegalStateException") (by decide +kernel)⟩), (fun _ h => absurd h List.not_mem_nil)⟩)⟩)⟩) rfl (by decide) (hts _ mU_438) (va_Nw.use rfl (hB.2.1.1 _ zn_646)) hq1 hq2 hq3 ?_
      refine lv_astore (lv' := [(6, .ref q9), (0, .ref (ad 0)), (1, .int p1), (2, .int p2), (3, .int p3), (4, .int p4), (5, .ref (ad 74))]) hx hb dL_trade_28 hl (by decide) rfl (fun ls hl => ?_)
      refine lv_iconst (v := 4) hx hb dL_trade_30 (by decide) ?_
      have ho := (Option.some.inj hF).symm
      exact W.iret (v := 4) hx hb hr (fun t ht hW => ⟨⟨4, (zw1.2.1, zw1.2.2.1, zw1.2.2.2.1, zw1.2.2.2.2, jo), rfl, ⟨by rw [ho], by rw [ho]⟩, z_end ht hP⟩, hS.F ht⟩) hS.2.2 dL_trade_31
    have hF := z_neg hF zc4
    by_cases zc5 : zw1.1 = 3
    · have hF := z_pos hF zc5
      rw [zc5] at hq3
      have hq3 : s.vm.findClass "java/util/NoSuchElementException" = some ce.cls := hq3
      refine vx_catch (own := RL) (name := "java/util/NoSuchElementException") (E := "java/util/NoSuchElementException") hown [] (⟨0, 13, 16, 26⟩ : ExceptionTableEntry) [(⟨0, 13, 20, 13⟩ : ExceptionTableEntry), (⟨0, 13, 24, 15⟩ : ExceptionTableEntry), (⟨0, 13, 28, 17⟩ : ExceptionTableEntry)] (htab.trans rfl) (fun _ h => absurd h List.not_mem_nil) rfl (by decide) (hts _ mU_690) (va_Nw.use rfl (hB.2.1.1 _ zn_705)) hq1 hq2 hq3 ?_
      refine lv_astore (lv' := [(6, .ref q9), (0, .ref (ad 0)), (1, .int p1), (2, .int p2), (3, .int p3), (4, .int p4), (5, .ref (ad 74))]) hx hb dL_trade_16 hl (by decide) rfl (fun ls hl => ?_)
      refine lv_iconst (v := 1) hx hb dL_trade_18 (by decide) ?_
      have ho := (Option.some.inj hF).symm
      exact W.iret (v := 1) hx hb hr (fun t ht hW => ⟨⟨1, (zw1.2.1, zw1.2.2.1, zw1.2.2.2.1, zw1.2.2.2.2, jo), rfl, ⟨by rw [ho], by rw [ho]⟩, z_end ht hP⟩, hS.F ht⟩) hS.2.2 dL_trade_19
    have hF := z_neg hF zc5
    exact absurd hF (by simp)
  · obtain ⟨za1, rfl, rfl, rfl⟩ := hw
    have hF := z_okk hF
    have hP : va_P (gD g) zCl (wRootJ g ad za1.2.1 sv isS za1.2.2.1 za1.2.2.2.1 za1.2.2.2.2 seen dbef drec ptx plen ppos pcnt cmds stE stF lch llen jo) H := Eq.mp (congrArg (fun w => va_P (gD g) zCl w H) wRootJ_S) hP
    have hD : va_D A (wRootJ g ad za1.2.1 sv isS za1.2.2.1 za1.2.2.2.1 za1.2.2.2.2 seen dbef drec ptx plen ppos pcnt cmds stE stF lch llen jo) := Eq.mp (congrArg (fun w => va_D A w) wRootJ_S) hD
    refine va_last hx hb hK hP hD hS 74 2 rfl rfl (by unfold vp_in; decide) dL_trade_12 (fun H locs hP hD hS => ?_)
    have hP : va_P (gD g) zCl (wRootJ g ad za1.2.1 sv isS za1.2.2.1 za1.2.2.2.1 za1.2.2.2.2 seen dbef drec ptx plen ppos pcnt cmds stE stF lch llen (vp_updL jo (Int32.toNatClampNeg 0) za1.1)) H := hP
    have hD : va_D A (wRootJ g ad za1.2.1 sv isS za1.2.2.1 za1.2.2.2.1 za1.2.2.2.2 seen dbef drec ptx plen ppos pcnt cmds stE stF lch llen (vp_updL jo (Int32.toNatClampNeg 0) za1.1)) := hD
    refine lv_goto (tgt := 32) hx hb dL_trade_13 (by decide) ?_
    refine lv_iconst (v := 0) hx hb dL_trade_32 (by decide) ?_
    have ho := (Option.some.inj hF).symm
    exact W.iret (v := 0) hx hb hr (fun t ht hW => ⟨⟨0, (za1.2.1, za1.2.2.1, za1.2.2.2.1, za1.2.2.2.2, (vp_updL jo (Int32.toNatClampNeg 0) za1.1)), rfl, ⟨by rw [ho], by rw [ho]⟩, z_end ht hP⟩, hS.F ht⟩) hS.2.2 dL_trade_33
abbrev w_L_setScale : List Cond := .codeWith yL_setScale cL_setScale 5 (some .int) [(0, 10, 13, 26), (0, 10, 17, 13)] :: wU
abbrev r_L_setScale : Room := { frames := 9, cells := 2, slots := 12, locals := 151 }
abbrev q_L_setScale (g : GG) (ad : Nat → Nat) (st : SS) (sv : SS) (isS : Int32) (hst : Nat → SS) (spare : Int32) (undo : Int32) (seen : Nat → Int32) (dbef : Int32) (drec : Int32) (ptx : Nat → Int32) (plen : Int32) (ppos : Int32) (pcnt : Int32) (cmds : Nat → CC) (stE : Int32) (stF : Int32) (lch : Nat → Int32) (llen : Int32) (jo : Nat → Int64) (o : Int32 × SS × (Nat → SS) × Int32 × Int32 × (Nat → Int64)) (A : Nat → Prop) := va_Qi (fun (r : Int32) (u : SS × (Nat → SS) × Int32 × Int32 × (Nat → Int64)) => o.1 = r ∧ o.2 = u) (fun u t => va_P (gD g) zCl (wRootJ g ad u.1 sv isS u.2.1 u.2.2.1 u.2.2.2.1 seen dbef drec ptx plen ppos pcnt cmds stE stF lch llen u.2.2.2.2) t.heap) A
set_option maxHeartbeats 4000000 in
set_option maxRecDepth 100000 in
theorem c_L_setScale (l : Launch) (hl0 : l.stackTraces = false) (g : GG) (ad : Nat → Nat) (st : SS) (sv : SS) (isS : Int32) (hst : Nat → SS) (spare : Int32) (undo : Int32) (seen : Nat → Int32) (dbef : Int32) (drec : Int32) (ptx : Nat → Int32) (plen : Int32) (ppos : Int32) (pcnt : Int32) (cmds : Nat → CC) (stE : Int32) (stF : Int32) (lch : Nat → Int32) (llen : Int32) (jo : Nat → Int64) (sz : Nat) (p1 : Int32) (p2 : Int32) (fu : Nat) (o : Int32 × SS × (Nat → SS) × Int32 × Int32 × (Nat → Int64)) (hF : F_L_setScale fu st hst spare undo jo p1 p2 = some o) : Met l yL_setScale w_L_setScale r_L_setScale (va_Pc [.ref (ad 0), .int p1, .int p2, .ref (ad 74)] (zP g (wRootJ g ad st sv isS hst spare undo seen dbef drec ptx plen ppos pcnt cmds stE stF lch llen jo) sz)) (q_L_setScale g ad st sv isS hst spare undo seen dbef drec ptx plen ppos pcnt cmds stE stF lch llen jo o (va_A (wRootJ g ad st sv isS hst spare undo seen dbef drec ptx plen ppos pcnt cmds stE stF lch llen jo) sz)) 2 12 (va_A (wRootJ g ad st sv isS hst spare undo seen dbef drec ptx plen ppos pcnt cmds stE stF lch llen jo) sz) := by
  refine va_MetW (cc := cL_setScale) (maxL := 5) (ret := (some .int)) (by decide) rfl ?_
  intro p e s m args below meth c s₁ B hml hv
  obtain ⟨rfl, rfl, hP, hK, hD0, hB⟩ := hv
  have hx := B.exec
  have hb := B.bytes
  have hr := B.returns
  have htab : c.exceptionTable.toList = tableOf [(0, 10, 13, 26), (0, 10, 17, 13)] := vx_table (x := yL_setScale) B (atoms_spec (ws := w_L_setScale) B.pre _ List.mem_cons_self)
  have hts : ∀ w ∈ wU, w.before _ s = true := fun w h => atoms_spec (ws := w_L_setScale) B.pre w (List.mem_cons_of_mem _ h)
  have hown : s.vm.findClass RL = some m.cls := findClass_of_methodNamed B.named
  have hlocks := B.notSynchronized
  have hD := hD0.self (sz := s.heap.size)
  generalize hAe : va_A (wRootJ g ad st sv isS hst spare undo seen dbef drec ptx plen ppos pcnt cmds stE stF lch llen jo) s.heap.size = A at hD hB ⊢
  have hA : ∀ q : Nat, s.heap.size ≤ q → A q := fun q h => by rw [← hAe]; exact Or.inr h
  have hS : va_S A s.heap s.heap [] := va_S.rf
  have hl := lv_entry ([.ref (ad 0), .int p1, .int p2, .ref (ad 74)]) (n := 5) (Nat.le_of_ble_eq_true rfl)
  rw [lg_entry_eq]
  generalize (lg_sl ([.ref (ad 0), .int p1, .int p2, .ref (ad 74)]) ++ List.replicate (5 - (lg_sl ([.ref (ad 0), .int p1, .int p2, .ref (ad 74)])).length) Slot.unset).toArray = ls at hl ⊢
  have hl : lv_has ls 5 [(0, .ref (ad 0)), (1, .int p1), (2, .int p2), (3, .ref (ad 74))] := hl
  unfold F_L_setScale at hF
  refine lv_aload_n hx hb dL_setScale_0 rfl (lv_at hl 3 rfl) ?_
  refine lv_iconst (v := 0) hx hb dL_setScale_1 (by decide) ?_
  refine lv_aload_n hx hb dL_setScale_2 rfl (lv_at hl 0 rfl) ?_
  refine lv_iload_n hx hb dL_setScale_3 rfl (lv_at hl 1 rfl) ?_
  refine lv_iload_n hx hb dL_setScale_4 rfl (lv_at hl 2 rfl) ?_
  obtain ⟨zo1, hzo1, hF⟩ := z_bind hF
  refine z_calliX (fun (u : SS × (Nat → SS) × Int32 × Int32) => (wRoot g ad u.1 sv isS u.2.1 u.2.2.1 u.2.2.2 seen dbef drec ptx plen ppos pcnt cmds stE stF lch llen)) (fun (x : Nat × (SS × (Nat → SS) × Int32 × Int32)) => (wRoot g ad x.2.1 sv isS x.2.2.1 x.2.2.2.1 x.2.2.2.2 seen dbef drec ptx plen ppos pcnt cmds stE stF lch llen)) (fun (x : Nat × (SS × (Nat → SS) × Int32 × Int32)) => xN x.1) zRJ (vx_runV (As := [.int p1, .int p2]) (rest := [.int 0, .ref (ad 74)]) ⟨hx, hb, hml, hown, hts⟩ (c_X10_setScale l hl0 g ad st sv isS hst spare undo seen dbef drec ptx plen ppos pcnt cmds stE stF lch llen _ p1 p2 fu _ hzo1) (cwV 2 hts (gdV mU_760 mU_761 mU_762 mU_66 mU_763) rfl rfl rfl (by decide +kernel) ⟨Nat.le_of_ble_eq_true rfl, Nat.le_of_ble_eq_true rfl⟩) ⟨z_blind _ _ _ _, va_recv hK hP (ci := 6) (q0 := 0) rfl rfl, fun U hU hW => z_pre zRJ hP hD hK hB hS hA wRootJ_C wRootJ_N hU hW⟩ rfl rfl hl.1 rfl (lv_room (Nat.le_of_ble_eq_true rfl)) dL_setScale_5 ⟨Nat.le_of_ble_eq_true rfl, Nat.le_of_ble_eq_true rfl⟩) hP hD hS hA wRootJ_C (fun _ => rfl) (fun _ => rfl) (fun zw1 ce q9 H locs hw hP hD hS hq1 hq2 hq3 => ?_) (fun r u H locs hw hP hD hS => ?_)
  · subst hw
    have hF : _ = some o := hF
    have hP : va_P (gD g) zCl (wRootJ g ad zw1.2.1 sv isS zw1.2.2.1 zw1.2.2.2.1 zw1.2.2.2.2 seen dbef drec ptx plen ppos pcnt cmds stE stF lch llen jo) H := Eq.mp (congrArg (fun w => va_P (gD g) zCl w H) wRootJ_S) hP
    have hD : va_D A (wRootJ g ad zw1.2.1 sv isS zw1.2.2.1 zw1.2.2.2.1 zw1.2.2.2.2 seen dbef drec ptx plen ppos pcnt cmds stE stF lch llen jo) := Eq.mp (congrArg (fun w => va_D A w) wRootJ_S) hD
    have hF := z_err hF
    have hq3 : s.vm.findClass (xN zw1.1) = some ce.cls := hq3
    by_cases zc2 : zw1.1 = 0
    · have hF := z_pos hF zc2
      rw [zc2] at hq3
      have hq3 : s.vm.findClass "java/lang/IllegalArgumentException" = some ce.cls := hq3
      refine vx_catch (own := RL) (name := "java/lang/IllegalArgumentException") (E := "java/lang/IllegalArgumentException") hown [(⟨0, 10, 13, 26⟩ : ExceptionTableEntry)] (⟨0, 10, 17, 13⟩ : ExceptionTableEntry) [] (htab.trans rfl) (List.forall_mem_cons.mpr ⟨(Or.inr ⟨by decide, "java/util/NoSuchElementException", hts _ mU_690, hB.2.1.2.1 ("java/lang/IllegalArgumentException", "java/util/NoSuchElementException") (by decide +kernel)⟩), (fun _ h => absurd h List.not_mem_nil)⟩) rfl (by decide) (hts _ mU_436) (va_Nw.use rfl (hB.2.1.1 _ zn_458)) hq1 hq2 hq3 ?_
      refine lv_astore (lv' := [(4, .ref q9), (0, .ref (ad 0)), (1, .int p1), (2, .int p2), (3, .ref (ad 74))]) hx hb dL_setScale_17 hl (by decide) rfl (fun ls hl => ?_)
      refine lv_iconst (v := 2) hx hb dL_setScale_19 (by decide) ?_
      have ho := (Option.some.inj hF).symm
      exact W.iret (v := 2) hx hb hr (fun t ht hW => ⟨⟨2, (zw1.2.1, zw1.2.2.1, zw1.2.2.2.1, zw1.2.2.2.2, jo), rfl, ⟨by rw [ho], by rw [ho]⟩, z_end ht hP⟩, hS.F ht⟩) hS.2.2 dL_setScale_20
    have hF := z_neg hF zc2
    by_cases zc3 : zw1.1 = 3
    · have hF := z_pos hF zc3
      rw [zc3] at hq3
      have hq3 : s.vm.findClass "java/util/NoSuchElementException" = some ce.cls := hq3
      refine vx_catch (own := RL) (name := "java/util/NoSuchElementException") (E := "java/util/NoSuchElementException") hown [] (⟨0, 10, 13, 26⟩ : ExceptionTableEntry) [(⟨0, 10, 17, 13⟩ : ExceptionTableEntry)] (htab.trans rfl) (fun _ h => absurd h List.not_mem_nil) rfl (by decide) (hts _ mU_690) (va_Nw.use rfl (hB.2.1.1 _ zn_705)) hq1 hq2 hq3 ?_
      refine lv_astore (lv' := [(4, .ref q9), (0, .ref (ad 0)), (1, .int p1), (2, .int p2), (3, .ref (ad 74))]) hx hb dL_setScale_13 hl (by decide) rfl (fun ls hl => ?_)
      refine lv_iconst (v := 1) hx hb dL_setScale_15 (by decide) ?_
      have ho := (Option.some.inj hF).symm
      exact W.iret (v := 1) hx hb hr (fun t ht hW => ⟨⟨1, (zw1.2.1, zw1.2.2.1, zw1.2.2.2.1, zw1.2.2.2.2, jo), rfl, ⟨by rw [ho], by rw [ho]⟩, z_end ht hP⟩, hS.F ht⟩) hS.2.2 dL_setScale_16
    have hF := z_neg hF zc3
    exact absurd hF (by simp)
  · obtain ⟨za1, rfl, rfl, rfl⟩ := hw
    have hF := z_okk hF
    have hP : va_P (gD g) zCl (wRootJ g ad za1.2.1 sv isS za1.2.2.1 za1.2.2.2.1 za1.2.2.2.2 seen dbef drec ptx plen ppos pcnt cmds stE stF lch llen jo) H := Eq.mp (congrArg (fun w => va_P (gD g) zCl w H) wRootJ_S) hP
    have hD : va_D A (wRootJ g ad za1.2.1 sv isS za1.2.2.1 za1.2.2.2.1 za1.2.2.2.2 seen dbef drec ptx plen ppos pcnt cmds stE stF lch llen jo) := Eq.mp (congrArg (fun w => va_D A w) wRootJ_S) hD
    refine lv_i2l (v := (Int32.toInt64 za1.1)) hx hb dL_setScale_8 rfl ?_
    refine va_last hx hb hK hP hD hS 74 2 rfl rfl (by unfold vp_in; decide) dL_setScale_9 (fun H locs hP hD hS => ?_)
    have hP : va_P (gD g) zCl (wRootJ g ad za1.2.1 sv isS za1.2.2.1 za1.2.2.2.1 za1.2.2.2.2 seen dbef drec ptx plen ppos pcnt cmds stE stF lch llen (vp_updL jo (Int32.toNatClampNeg 0) (Int32.toInt64 za1.1))) H := hP
    have hD : va_D A (wRootJ g ad za1.2.1 sv isS za1.2.2.1 za1.2.2.2.1 za1.2.2.2.2 seen dbef drec ptx plen ppos pcnt cmds stE stF lch llen (vp_updL jo (Int32.toNatClampNeg 0) (Int32.toInt64 za1.1))) := hD
    refine lv_goto (tgt := 21) hx hb dL_setScale_10 (by decide) ?_
    refine lv_iconst (v := 0) hx hb dL_setScale_21 (by decide) ?_
    have ho := (Option.some.inj hF).symm
    exact W.iret (v := 0) hx hb hr (fun t ht hW => ⟨⟨0, (za1.2.1, za1.2.2.1, za1.2.2.2.1, za1.2.2.2.2, (vp_updL jo (Int32.toNatClampNeg 0) (Int32.toInt64 za1.1))), rfl, ⟨by rw [ho], by rw [ho]⟩, z_end ht hP⟩, hS.F ht⟩) hS.2.2 dL_setScale_22
abbrev w_L_setMode : List Cond := .codeWith yL_setMode cL_setMode 5 (some .int) [(0, 10, 13, 26), (0, 10, 17, 13)] :: wU
abbrev r_L_setMode : Room := { frames := 9, cells := 2, slots := 12, locals := 173 }
abbrev q_L_setMode (g : GG) (ad : Nat → Nat) (st : SS) (sv : SS) (isS : Int32) (hst : Nat → SS) (spare : Int32) (undo : Int32) (seen : Nat → Int32) (dbef : Int32) (drec : Int32) (ptx : Nat → Int32) (plen : Int32) (ppos : Int32) (pcnt : Int32) (cmds : Nat → CC) (stE : Int32) (stF : Int32) (lch : Nat → Int32) (llen : Int32) (jo : Nat → Int64) (o : Int32 × SS × (Nat → SS) × Int32 × Int32 × (Nat → Int64)) (A : Nat → Prop) := va_Qi (fun (r : Int32) (u : SS × (Nat → SS) × Int32 × Int32 × (Nat → Int64)) => o.1 = r ∧ o.2 = u) (fun u t => va_P (gD g) zCl (wRootJ g ad u.1 sv isS u.2.1 u.2.2.1 u.2.2.2.1 seen dbef drec ptx plen ppos pcnt cmds stE stF lch llen u.2.2.2.2) t.heap) A
set_option maxHeartbeats 4000000 in
set_option maxRecDepth 100000 in
theorem c_L_setMode (l : Launch) (hl0 : l.stackTraces = false) (g : GG) (ad : Nat → Nat) (st : SS) (sv : SS) (isS : Int32) (hst : Nat → SS) (spare : Int32) (undo : Int32) (seen : Nat → Int32) (dbef : Int32) (drec : Int32) (ptx : Nat → Int32) (plen : Int32) (ppos : Int32) (pcnt : Int32) (cmds : Nat → CC) (stE : Int32) (stF : Int32) (lch : Nat → Int32) (llen : Int32) (jo : Nat → Int64) (sz : Nat) (p1 : Int32) (p2 : Int32) (fu : Nat) (o : Int32 × SS × (Nat → SS) × Int32 × Int32 × (Nat → Int64)) (hF : F_L_setMode fu st hst spare undo jo p1 p2 = some o) : Met l yL_setMode w_L_setMode r_L_setMode (va_Pc [.ref (ad 0), .int p1, .int p2, .ref (ad 74)] (zP g (wRootJ g ad st sv isS hst spare undo seen dbef drec ptx plen ppos pcnt cmds stE stF lch llen jo) sz)) (q_L_setMode g ad st sv isS hst spare undo seen dbef drec ptx plen ppos pcnt cmds stE stF lch llen jo o (va_A (wRootJ g ad st sv isS hst spare undo seen dbef drec ptx plen ppos pcnt cmds stE stF lch llen jo) sz)) 2 12 (va_A (wRootJ g ad st sv isS hst spare undo seen dbef drec ptx plen ppos pcnt cmds stE stF lch llen jo) sz) := by
  refine va_MetW (cc := cL_setMode) (maxL := 5) (ret := (some .int)) (by decide) rfl ?_
  intro p e s m args below meth c s₁ B hml hv
  obtain ⟨rfl, rfl, hP, hK, hD0, hB⟩ := hv
  have hx := B.exec
  have hb := B.bytes
  have hr := B.returns
  have htab : c.exceptionTable.toList = tableOf [(0, 10, 13, 26), (0, 10, 17, 13)] := vx_table (x := yL_setMode) B (atoms_spec (ws := w_L_setMode) B.pre _ List.mem_cons_self)
  have hts : ∀ w ∈ wU, w.before _ s = true := fun w h => atoms_spec (ws := w_L_setMode) B.pre w (List.mem_cons_of_mem _ h)
  have hown : s.vm.findClass RL = some m.cls := findClass_of_methodNamed B.named
  have hlocks := B.notSynchronized
  have hD := hD0.self (sz := s.heap.size)
  generalize hAe : va_A (wRootJ g ad st sv isS hst spare undo seen dbef drec ptx plen ppos pcnt cmds stE stF lch llen jo) s.heap.size = A at hD hB ⊢
  have hA : ∀ q : Nat, s.heap.size ≤ q → A q := fun q h => by rw [← hAe]; exact Or.inr h
  have hS : va_S A s.heap s.heap [] := va_S.rf
  have hl := lv_entry ([.ref (ad 0), .int p1, .int p2, .ref (ad 74)]) (n := 5) (Nat.le_of_ble_eq_true rfl)
  rw [lg_entry_eq]
  generalize (lg_sl ([.ref (ad 0), .int p1, .int p2, .ref (ad 74)]) ++ List.replicate (5 - (lg_sl ([.ref (ad 0), .int p1, .int p2, .ref (ad 74)])).length) Slot.unset).toArray = ls at hl ⊢
  have hl : lv_has ls 5 [(0, .ref (ad 0)), (1, .int p1), (2, .int p2), (3, .ref (ad 74))] := hl
  unfold F_L_setMode at hF
  refine lv_aload_n hx hb dL_setMode_0 rfl (lv_at hl 3 rfl) ?_
  refine lv_iconst (v := 0) hx hb dL_setMode_1 (by decide) ?_
  refine lv_aload_n hx hb dL_setMode_2 rfl (lv_at hl 0 rfl) ?_
  refine lv_iload_n hx hb dL_setMode_3 rfl (lv_at hl 1 rfl) ?_
  refine lv_iload_n hx hb dL_setMode_4 rfl (lv_at hl 2 rfl) ?_
  obtain ⟨zo1, hzo1, hF⟩ := z_bind hF
  refine z_calliX (fun (u : SS × (Nat → SS) × Int32 × Int32) => (wRoot g ad u.1 sv isS u.2.1 u.2.2.1 u.2.2.2 seen dbef drec ptx plen ppos pcnt cmds stE stF lch llen)) (fun (x : Nat × (SS × (Nat → SS) × Int32 × Int32)) => (wRoot g ad x.2.1 sv isS x.2.2.1 x.2.2.2.1 x.2.2.2.2 seen dbef drec ptx plen ppos pcnt cmds stE stF lch llen)) (fun (x : Nat × (SS × (Nat → SS) × Int32 × Int32)) => xN x.1) zRJ (vx_runV (As := [.int p1, .int p2]) (rest := [.int 0, .ref (ad 74)]) ⟨hx, hb, hml, hown, hts⟩ (c_X10_setMode l hl0 g ad st sv isS hst spare undo seen dbef drec ptx plen ppos pcnt cmds stE stF lch llen _ p1 p2 fu _ hzo1) (cwV 2 hts (gdV mU_771 mU_772 mU_773 mU_66 mU_774) rfl rfl rfl (by decide +kernel) ⟨Nat.le_of_ble_eq_true rfl, Nat.le_of_ble_eq_true rfl⟩) ⟨z_blind _ _ _ _, va_recv hK hP (ci := 6) (q0 := 0) rfl rfl, fun U hU hW => z_pre zRJ hP hD hK hB hS hA wRootJ_C wRootJ_N hU hW⟩ rfl rfl hl.1 rfl (lv_room (Nat.le_of_ble_eq_true rfl)) dL_setMode_5 ⟨Nat.le_of_ble_eq_true rfl, Nat.le_of_ble_eq_true rfl⟩) hP hD hS hA wRootJ_C (fun _ => rfl) (fun _ => rfl) (fun zw1 ce q9 H locs hw hP hD hS hq1 hq2 hq3 => ?_) (fun r u H locs hw hP hD hS => ?_)
  · subst hw
    have hF : _ = some o := hF
    have hP : va_P (gD g) zCl (wRootJ g ad zw1.2.1 sv isS zw1.2.2.1 zw1.2.2.2.1 zw1.2.2.2.2 seen dbef drec ptx plen ppos pcnt cmds stE stF lch llen jo) H := Eq.mp (congrArg (fun w => va_P (gD g) zCl w H) wRootJ_S) hP
    have hD : va_D A (wRootJ g ad zw1.2.1 sv isS zw1.2.2.1 zw1.2.2.2.1 zw1.2.2.2.2 seen dbef drec ptx plen ppos pcnt cmds stE stF lch llen jo) := Eq.mp (congrArg (fun w => va_D A w) wRootJ_S) hD
    have hF := z_err hF
    have hq3 : s.vm.findClass (xN zw1.1) = some ce.cls := hq3
    by_cases zc2 : zw1.1 = 0
    · have hF := z_pos hF zc2
      rw [zc2] at hq3
      have hq3 : s.vm.findClass "java/lang/IllegalArgumentException" = some ce.cls := hq3
      refine vx_catch (own := RL) (name := "java/lang/IllegalArgumentException") (E := "java/lang/IllegalArgumentException") hown [(⟨0, 10, 13, 26⟩ : ExceptionTableEntry)] (⟨0, 10, 17, 13⟩ : ExceptionTableEntry) [] (htab.trans rfl) (List.forall_mem_cons.mpr ⟨(Or.inr ⟨by decide, "java/util/NoSuchElementException", hts _ mU_690, hB.2.1.2.1 ("java/lang/IllegalArgumentException", "java/util/NoSuchElementException") (by decide +kernel)⟩), (fun _ h => absurd h List.not_mem_nil)⟩) rfl (by decide) (hts _ mU_436) (va_Nw.use rfl (hB.2.1.1 _ zn_458)) hq1 hq2 hq3 ?_
      refine lv_astore (lv' := [(4, .ref q9), (0, .ref (ad 0)), (1, .int p1), (2, .int p2), (3, .ref (ad 74))]) hx hb dL_setMode_17 hl (by decide) rfl (fun ls hl => ?_)
      refine lv_iconst (v := 2) hx hb dL_setMode_19 (by decide) ?_
      have ho := (Option.some.inj hF).symm
      exact W.iret (v := 2) hx hb hr (fun t ht hW => ⟨⟨2, (zw1.2.1, zw1.2.2.1, zw1.2.2.2.1, zw1.2.2.2.2, jo), rfl, ⟨by rw [ho], by rw [ho]⟩, z_end ht hP⟩, hS.F ht⟩) hS.2.2 dL_setMode_20
    have hF := z_neg hF zc2
    by_cases zc3 : zw1.1 = 3
    · have hF := z_pos hF zc3
      rw [zc3] at hq3
      have hq3 : s.vm.findClass "java/util/NoSuchElementException" = some ce.cls := hq3
      refine vx_catch (own := RL) (name := "java/util/NoSuchElementException") (E := "java/util/NoSuchElementException") hown [] (⟨0, 10, 13, 26⟩ : ExceptionTableEntry) [(⟨0, 10, 17, 13⟩ : ExceptionTableEntry)] (htab.trans rfl) (fun _ h => absurd h List.not_mem_nil) rfl (by decide) (hts _ mU_690) (va_Nw.use rfl (hB.2.1.1 _ zn_705)) hq1 hq2 hq3 ?_
      refine lv_astore (lv' := [(4, .ref q9), (0, .ref (ad 0)), (1, .int p1), (2, .int p2), (3, .ref (ad 74))]) hx hb dL_setMode_13 hl (by decide) rfl (fun ls hl => ?_)
      refine lv_iconst (v := 1) hx hb dL_setMode_15 (by decide) ?_
      have ho := (Option.some.inj hF).symm
      exact W.iret (v := 1) hx hb hr (fun t ht hW => ⟨⟨1, (zw1.2.1, zw1.2.2.1, zw1.2.2.2.1, zw1.2.2.2.2, jo), rfl, ⟨by rw [ho], by rw [ho]⟩, z_end ht hP⟩, hS.F ht⟩) hS.2.2 dL_setMode_16
    have hF := z_neg hF zc3
    exact absurd hF (by simp)
  · obtain ⟨za1, rfl, rfl, rfl⟩ := hw
    have hF := z_okk hF
    have hP : va_P (gD g) zCl (wRootJ g ad za1.2.1 sv isS za1.2.2.1 za1.2.2.2.1 za1.2.2.2.2 seen dbef drec ptx plen ppos pcnt cmds stE stF lch llen jo) H := Eq.mp (congrArg (fun w => va_P (gD g) zCl w H) wRootJ_S) hP
    have hD : va_D A (wRootJ g ad za1.2.1 sv isS za1.2.2.1 za1.2.2.2.1 za1.2.2.2.2 seen dbef drec ptx plen ppos pcnt cmds stE stF lch llen jo) := Eq.mp (congrArg (fun w => va_D A w) wRootJ_S) hD
    refine lv_i2l (v := (Int32.toInt64 za1.1)) hx hb dL_setMode_8 rfl ?_
    refine va_last hx hb hK hP hD hS 74 2 rfl rfl (by unfold vp_in; decide) dL_setMode_9 (fun H locs hP hD hS => ?_)
    have hP : va_P (gD g) zCl (wRootJ g ad za1.2.1 sv isS za1.2.2.1 za1.2.2.2.1 za1.2.2.2.2 seen dbef drec ptx plen ppos pcnt cmds stE stF lch llen (vp_updL jo (Int32.toNatClampNeg 0) (Int32.toInt64 za1.1))) H := hP
    have hD : va_D A (wRootJ g ad za1.2.1 sv isS za1.2.2.1 za1.2.2.2.1 za1.2.2.2.2 seen dbef drec ptx plen ppos pcnt cmds stE stF lch llen (vp_updL jo (Int32.toNatClampNeg 0) (Int32.toInt64 za1.1))) := hD
    refine lv_goto (tgt := 21) hx hb dL_setMode_10 (by decide) ?_
    refine lv_iconst (v := 0) hx hb dL_setMode_21 (by decide) ?_
    have ho := (Option.some.inj hF).symm
    exact W.iret (v := 0) hx hb hr (fun t ht hW => ⟨⟨0, (za1.2.1, za1.2.2.1, za1.2.2.2.1, za1.2.2.2.2, (vp_updL jo (Int32.toNatClampNeg 0) (Int32.toInt64 za1.1))), rfl, ⟨by rw [ho], by rw [ho]⟩, z_end ht hP⟩, hS.F ht⟩) hS.2.2 dL_setMode_22
abbrev w_L_roundTogether : List Cond := .codeWith yL_roundTogether cL_roundTogether 4 (some .int) [(0, 9, 12, 13)] :: wU
abbrev r_L_roundTogether : Room := { frames := 9, cells := 1, slots := 6, locals := 149 }
abbrev q_L_roundTogether (g : GG) (ad : Nat → Nat) (st : SS) (sv : SS) (isS : Int32) (hst : Nat → SS) (spare : Int32) (undo : Int32) (seen : Nat → Int32) (dbef : Int32) (drec : Int32) (ptx : Nat → Int32) (plen : Int32) (ppos : Int32) (pcnt : Int32) (cmds : Nat → CC) (stE : Int32) (stF : Int32) (lch : Nat → Int32) (llen : Int32) (jo : Nat → Int64) (o : Int32 × SS × (Nat → SS) × Int32 × Int32 × (Nat → Int64)) (A : Nat → Prop) := va_Qi (fun (r : Int32) (u : SS × (Nat → SS) × Int32 × Int32 × (Nat → Int64)) => o.1 = r ∧ o.2 = u) (fun u t => va_P (gD g) zCl (wRootJ g ad u.1 sv isS u.2.1 u.2.2.1 u.2.2.2.1 seen dbef drec ptx plen ppos pcnt cmds stE stF lch llen u.2.2.2.2) t.heap) A
set_option maxHeartbeats 4000000 in
set_option maxRecDepth 100000 in
theorem c_L_roundTogether (l : Launch) (hl0 : l.stackTraces = false) (g : GG) (ad : Nat → Nat) (st : SS) (sv : SS) (isS : Int32) (hst : Nat → SS) (spare : Int32) (undo : Int32) (seen : Nat → Int32) (dbef : Int32) (drec : Int32) (ptx : Nat → Int32) (plen : Int32) (ppos : Int32) (pcnt : Int32) (cmds : Nat → CC) (stE : Int32) (stF : Int32) (lch : Nat → Int32) (llen : Int32) (jo : Nat → Int64) (sz : Nat) (p1 : Int32) (fu : Nat) (o : Int32 × SS × (Nat → SS) × Int32 × Int32 × (Nat → Int64)) (hF : F_L_roundTogether fu st hst spare undo jo p1 = some o) : Met l yL_roundTogether w_L_roundTogether r_L_roundTogether (va_Pc [.ref (ad 0), .int p1, .ref (ad 74)] (zP g (wRootJ g ad st sv isS hst spare undo seen dbef drec ptx plen ppos pcnt cmds stE stF lch llen jo) sz)) (q_L_roundTogether g ad st sv isS hst spare undo seen dbef drec ptx plen ppos pcnt cmds stE stF lch llen jo o (va_A (wRootJ g ad st sv isS hst spare undo seen dbef drec ptx plen ppos pcnt cmds stE stF lch llen jo) sz)) 1 6 (va_A (wRootJ g ad st sv isS hst spare undo seen dbef drec ptx plen ppos pcnt cmds stE stF lch llen jo) sz) := by
  refine va_MetW (cc := cL_roundTogether) (maxL := 4) (ret := (some .int)) (by decide) rfl ?_
  intro p e s m args below meth c s₁ B hml hv
  obtain ⟨rfl, rfl, hP, hK, hD0, hB⟩ := hv
  have hx := B.exec
  have hb := B.bytes
  have hr := B.returns
  have htab : c.exceptionTable.toList = tableOf [(0, 9, 12, 13)] := vx_table (x := yL_roundTogether) B (atoms_spec (ws := w_L_roundTogether) B.pre _ List.mem_cons_self)
  have hts : ∀ w ∈ wU, w.before _ s = true := fun w h => atoms_spec (ws := w_L_roundTogether) B.pre w (List.mem_cons_of_mem _ h)
  have hown : s.vm.findClass RL = some m.cls := findClass_of_methodNamed B.named
  have hlocks := B.notSynchronized
  have hD := hD0.self (sz := s.heap.size)
  generalize hAe : va_A (wRootJ g ad st sv isS hst spare undo seen dbef drec ptx plen ppos pcnt cmds stE stF lch llen jo) s.heap.size = A at hD hB ⊢
  have hA : ∀ q : Nat, s.heap.size ≤ q → A q := fun q h => by rw [← hAe]; exact Or.inr h
  have hS : va_S A s.heap s.heap [] := va_S.rf
  have hl := lv_entry ([.ref (ad 0), .int p1, .ref (ad 74)]) (n := 4) (Nat.le_of_ble_eq_true rfl)
  rw [lg_entry_eq]
  generalize (lg_sl ([.ref (ad 0), .int p1, .ref (ad 74)]) ++ List.replicate (4 - (lg_sl ([.ref (ad 0), .int p1, .ref (ad 74)])).length) Slot.unset).toArray = ls at hl ⊢
  have hl : lv_has ls 4 [(0, .ref (ad 0)), (1, .int p1), (2, .ref (ad 74))] := hl
  unfold F_L_roundTogether at hF
  refine lv_aload_n hx hb dL_roundTogether_0 rfl (lv_at hl 2 rfl) ?_
  refine lv_iconst (v := 0) hx hb dL_roundTogether_1 (by decide) ?_
  refine lv_aload_n hx hb dL_roundTogether_2 rfl (lv_at hl 0 rfl) ?_
  refine lv_iload_n hx hb dL_roundTogether_3 rfl (lv_at hl 1 rfl) ?_
  obtain ⟨zo1, hzo1, hF⟩ := z_bind hF
  refine z_calliX (fun (u : SS × (Nat → SS) × Int32 × Int32) => (wRoot g ad u.1 sv isS u.2.1 u.2.2.1 u.2.2.2 seen dbef drec ptx plen ppos pcnt cmds stE stF lch llen)) (fun (x : Nat × (SS × (Nat → SS) × Int32 × Int32)) => (wRoot g ad x.2.1 sv isS x.2.2.1 x.2.2.2.1 x.2.2.2.2 seen dbef drec ptx plen ppos pcnt cmds stE stF lch llen)) (fun (x : Nat × (SS × (Nat → SS) × Int32 × Int32)) => xN x.1) zRJ (vx_runV (As := [.int p1]) (rest := [.int 0, .ref (ad 74)]) ⟨hx, hb, hml, hown, hts⟩ (c_X10_roundTogether l hl0 g ad st sv isS hst spare undo seen dbef drec ptx plen ppos pcnt cmds stE stF lch llen _ p1 fu _ hzo1) (cwV 1 hts (gdV mU_782 mU_783 mU_784 mU_66 mU_785) rfl rfl rfl (by decide +kernel) ⟨Nat.le_of_ble_eq_true rfl, Nat.le_of_ble_eq_true rfl⟩) ⟨z_blind _ _ _ _, va_recv hK hP (ci := 6) (q0 := 0) rfl rfl, fun U hU hW => z_pre zRJ hP hD hK hB hS hA wRootJ_C wRootJ_N hU hW⟩ rfl rfl hl.1 rfl (lv_room (Nat.le_of_ble_eq_true rfl)) dL_roundTogether_4 ⟨Nat.le_of_ble_eq_true rfl, Nat.le_of_ble_eq_true rfl⟩) hP hD hS hA wRootJ_C (fun _ => rfl) (fun _ => rfl) (fun zw1 ce q9 H locs hw hP hD hS hq1 hq2 hq3 => ?_) (fun r u H locs hw hP hD hS => ?_)
  · subst hw
    have hF : _ = some o := hF
    have hP : va_P (gD g) zCl (wRootJ g ad zw1.2.1 sv isS zw1.2.2.1 zw1.2.2.2.1 zw1.2.2.2.2 seen dbef drec ptx plen ppos pcnt cmds stE stF lch llen jo) H := Eq.mp (congrArg (fun w => va_P (gD g) zCl w H) wRootJ_S) hP
    have hD : va_D A (wRootJ g ad zw1.2.1 sv isS zw1.2.2.1 zw1.2.2.2.1 zw1.2.2.2.2 seen dbef drec ptx plen ppos pcnt cmds stE stF lch llen jo) := Eq.mp (congrArg (fun w => va_D A w) wRootJ_S) hD
    have hF := z_err hF
    have hq3 : s.vm.findClass (xN zw1.1) = some ce.cls := hq3
    by_cases zc2 : zw1.1 = 0
    · have hF := z_pos hF zc2
      rw [zc2] at hq3
      have hq3 : s.vm.findClass "java/lang/IllegalArgumentException" = some ce.cls := hq3
      refine vx_catch (own := RL) (name := "java/lang/IllegalArgumentException") (E := "java/lang/IllegalArgumentException") hown [] (⟨0, 9, 12, 13⟩ : ExceptionTableEntry) [] (htab.trans rfl) (fun _ h => absurd h List.not_mem_nil) rfl (by decide) (hts _ mU_436) (va_Nw.use rfl (hB.2.1.1 _ zn_458)) hq1 hq2 hq3 ?_
      refine lv_astore_n (lv' := [(3, .ref q9), (0, .ref (ad 0)), (1, .int p1), (2, .ref (ad 74))]) hx hb dL_roundTogether_12 rfl hl (by decide) rfl (fun ls hl => ?_)
      refine lv_iconst (v := 1) hx hb dL_roundTogether_13 (by decide) ?_
      have ho := (Option.some.inj hF).symm
      exact W.iret (v := 1) hx hb hr (fun t ht hW => ⟨⟨1, (zw1.2.1, zw1.2.2.1, zw1.2.2.2.1, zw1.2.2.2.2, jo), rfl, ⟨by rw [ho], by rw [ho]⟩, z_end ht hP⟩, hS.F ht⟩) hS.2.2 dL_roundTogether_14
    have hF := z_neg hF zc2
    exact absurd hF (by simp)
  · obtain ⟨za1, rfl, rfl, rfl⟩ := hw
    have hF := z_okk hF
    have hP : va_P (gD g) zCl (wRootJ g ad za1.2.1 sv isS za1.2.2.1 za1.2.2.2.1 za1.2.2.2.2 seen dbef drec ptx plen ppos pcnt cmds stE stF lch llen jo) H := Eq.mp (congrArg (fun w => va_P (gD g) zCl w H) wRootJ_S) hP
    have hD : va_D A (wRootJ g ad za1.2.1 sv isS za1.2.2.1 za1.2.2.2.1 za1.2.2.2.2 seen dbef drec ptx plen ppos pcnt cmds stE stF lch llen jo) := Eq.mp (congrArg (fun w => va_D A w) wRootJ_S) hD
    refine lv_i2l (v := (Int32.toInt64 za1.1)) hx hb dL_roundTogether_7 rfl ?_
    refine va_last hx hb hK hP hD hS 74 2 rfl rfl (by unfold vp_in; decide) dL_roundTogether_8 (fun H locs hP hD hS => ?_)
    have hP : va_P (gD g) zCl (wRootJ g ad za1.2.1 sv isS za1.2.2.1 za1.2.2.2.1 za1.2.2.2.2 seen dbef drec ptx plen ppos pcnt cmds stE stF lch llen (vp_updL jo (Int32.toNatClampNeg 0) (Int32.toInt64 za1.1))) H := hP
    have hD : va_D A (wRootJ g ad za1.2.1 sv isS za1.2.2.1 za1.2.2.2.1 za1.2.2.2.2 seen dbef drec ptx plen ppos pcnt cmds stE stF lch llen (vp_updL jo (Int32.toNatClampNeg 0) (Int32.toInt64 za1.1))) := hD
    refine lv_goto (tgt := 15) hx hb dL_roundTogether_9 (by decide) ?_
    refine lv_iconst (v := 0) hx hb dL_roundTogether_15 (by decide) ?_
    have ho := (Option.some.inj hF).symm
    exact W.iret (v := 0) hx hb hr (fun t ht hW => ⟨⟨0, (za1.2.1, za1.2.2.1, za1.2.2.2.1, za1.2.2.2.2, (vp_updL jo (Int32.toNatClampNeg 0) (Int32.toInt64 za1.1))), rfl, ⟨by rw [ho], by rw [ho]⟩, z_end ht hP⟩, hS.F ht⟩) hS.2.2 dL_roundTogether_16
abbrev w_L_numberAt : List Cond := .codeWith yL_numberAt cL_numberAt 4 (some .int) [(0, 9, 12, 51)] :: wU
abbrev r_L_numberAt : Room := { frames := 7, cells := 1, slots := 6, locals := 103 }
abbrev q_L_numberAt (g : GG) (ad : Nat → Nat) (st : SS) (sv : SS) (isS : Int32) (hst : Nat → SS) (spare : Int32) (undo : Int32) (seen : Nat → Int32) (dbef : Int32) (drec : Int32) (ptx : Nat → Int32) (plen : Int32) (ppos : Int32) (pcnt : Int32) (cmds : Nat → CC) (stE : Int32) (stF : Int32) (lch : Nat → Int32) (llen : Int32) (jo : Nat → Int64) (o : Int32 × (Nat → Int64)) (A : Nat → Prop) := va_Qi (fun (r : Int32) (u : (Nat → Int64)) => o.1 = r ∧ o.2 = u) (fun u t => va_P (gD g) zCl (wRootJ g ad st sv isS hst spare undo seen dbef drec ptx plen ppos pcnt cmds stE stF lch llen u) t.heap) A
set_option maxHeartbeats 4000000 in
set_option maxRecDepth 100000 in
theorem c_L_numberAt (l : Launch) (hl0 : l.stackTraces = false) (g : GG) (ad : Nat → Nat) (st : SS) (sv : SS) (isS : Int32) (hst : Nat → SS) (spare : Int32) (undo : Int32) (seen : Nat → Int32) (dbef : Int32) (drec : Int32) (ptx : Nat → Int32) (plen : Int32) (ppos : Int32) (pcnt : Int32) (cmds : Nat → CC) (stE : Int32) (stF : Int32) (lch : Nat → Int32) (llen : Int32) (jo : Nat → Int64) (sz : Nat) (p1 : Int32) (o : Int32 × (Nat → Int64)) (hF : F_L_numberAt st jo p1 = some o) : Met l yL_numberAt w_L_numberAt r_L_numberAt (va_Pc [.ref (ad 0), .int p1, .ref (ad 74)] (zP g (wRootJ g ad st sv isS hst spare undo seen dbef drec ptx plen ppos pcnt cmds stE stF lch llen jo) sz)) (q_L_numberAt g ad st sv isS hst spare undo seen dbef drec ptx plen ppos pcnt cmds stE stF lch llen jo o (va_A (wRootJ g ad st sv isS hst spare undo seen dbef drec ptx plen ppos pcnt cmds stE stF lch llen jo) sz)) 1 6 (va_A (wRootJ g ad st sv isS hst spare undo seen dbef drec ptx plen ppos pcnt cmds stE stF lch llen jo) sz) := by
  refine va_MetW (cc := cL_numberAt) (maxL := 4) (ret := (some .int)) (by decide) rfl ?_
  intro p e s m args below meth c s₁ B hml hv
  obtain ⟨rfl, rfl, hP, hK, hD0, hB⟩ := hv
  have hx := B.exec
  have hb := B.bytes
  have hr := B.returns
  have htab : c.exceptionTable.toList = tableOf [(0, 9, 12, 51)] := vx_table (x := yL_numberAt) B (atoms_spec (ws := w_L_numberAt) B.pre _ List.mem_cons_self)
  have hts : ∀ w ∈ wU, w.before _ s = true := fun w h => atoms_spec (ws := w_L_numberAt) B.pre w (List.mem_cons_of_mem _ h)
  have hown : s.vm.findClass RL = some m.cls := findClass_of_methodNamed B.named
  have hlocks := B.notSynchronized
  have hD := hD0.self (sz := s.heap.size)
  generalize hAe : va_A (wRootJ g ad st sv isS hst spare undo seen dbef drec ptx plen ppos pcnt cmds stE stF lch llen jo) s.heap.size = A at hD hB ⊢
  have hA : ∀ q : Nat, s.heap.size ≤ q → A q := fun q h => by rw [← hAe]; exact Or.inr h
  have hS : va_S A s.heap s.heap [] := va_S.rf
  have hl := lv_entry ([.ref (ad 0), .int p1, .ref (ad 74)]) (n := 4) (Nat.le_of_ble_eq_true rfl)
  rw [lg_entry_eq]
  generalize (lg_sl ([.ref (ad 0), .int p1, .ref (ad 74)]) ++ List.replicate (4 - (lg_sl ([.ref (ad 0), .int p1, .ref (ad 74)])).length) Slot.unset).toArray = ls at hl ⊢
  have hl : lv_has ls 4 [(0, .ref (ad 0)), (1, .int p1), (2, .ref (ad 74))] := hl
  unfold F_L_numberAt at hF
  refine lv_aload_n hx hb dL_numberAt_0 rfl (lv_at hl 2 rfl) ?_
  refine lv_iconst (v := 0) hx hb dL_numberAt_1 (by decide) ?_
  refine lv_aload_n hx hb dL_numberAt_2 rfl (lv_at hl 0 rfl) ?_
  refine lv_iload_n hx hb dL_numberAt_3 rfl (lv_at hl 1 rfl) ?_
  obtain ⟨zo1, hzo1, hF⟩ := z_bind hF
  refine z_calliX (fun (_ : Unit) => (wRoot g ad st sv isS hst spare undo seen dbef drec ptx plen ppos pcnt cmds stE stF lch llen)) (fun (x : Nat × (Unit)) => (wRoot g ad st sv isS hst spare undo seen dbef drec ptx plen ppos pcnt cmds stE stF lch llen)) (fun (x : Nat × (Unit)) => xN x.1) zRJ (vx_runV (As := [.int p1]) (rest := [.int 0, .ref (ad 74)]) ⟨hx, hb, hml, hown, hts⟩ (c_X10_numberAt l hl0 g ad st sv isS hst spare undo seen dbef drec ptx plen ppos pcnt cmds stE stF lch llen _ p1 _ hzo1) (cwV 1 hts (gdV mU_820 mU_821 mU_822 mU_66 mU_823) rfl rfl rfl (by decide +kernel) ⟨Nat.le_of_ble_eq_true rfl, Nat.le_of_ble_eq_true rfl⟩) ⟨z_blind _ _ _ _, va_recv hK hP (ci := 6) (q0 := 0) rfl rfl, fun U hU hW => z_pre zRJ hP hD hK hB hS hA wRootJ_C wRootJ_N hU hW⟩ rfl rfl hl.1 rfl (lv_room (Nat.le_of_ble_eq_true rfl)) dL_numberAt_4 ⟨Nat.le_of_ble_eq_true rfl, Nat.le_of_ble_eq_true rfl⟩) hP hD hS hA wRootJ_C (fun _ => rfl) (fun _ => rfl) (fun zw1 ce q9 H locs hw hP hD hS hq1 hq2 hq3 => ?_) (fun r u H locs hw hP hD hS => ?_)
  · subst hw
    have hF : _ = some o := hF
    have hP : va_P (gD g) zCl (wRootJ g ad st sv isS hst spare undo seen dbef drec ptx plen ppos pcnt cmds stE stF lch llen jo) H := Eq.mp (congrArg (fun w => va_P (gD g) zCl w H) wRootJ_S) hP
    have hD : va_D A (wRootJ g ad st sv isS hst spare undo seen dbef drec ptx plen ppos pcnt cmds stE stF lch llen jo) := Eq.mp (congrArg (fun w => va_D A w) wRootJ_S) hD
    have hF := z_err hF
    have hq3 : s.vm.findClass (xN zw1.1) = some ce.cls := hq3
    by_cases zc2 : zw1.1 = 4
    · have hF := z_pos hF zc2
      rw [zc2] at hq3
      have hq3 : s.vm.findClass "java/lang/IndexOutOfBoundsException" = some ce.cls := hq3
      refine vx_catch (own := RL) (name := "java/lang/IndexOutOfBoundsException") (E := "java/lang/IndexOutOfBoundsException") hown [] (⟨0, 9, 12, 51⟩ : ExceptionTableEntry) [] (htab.trans rfl) (fun _ h => absurd h List.not_mem_nil) rfl (by decide) (hts _ mU_796) (va_Nw.use rfl (hB.2.1.1 _ zn_826)) hq1 hq2 hq3 ?_
      refine lv_astore_n (lv' := [(3, .ref q9), (0, .ref (ad 0)), (1, .int p1), (2, .ref (ad 74))]) hx hb dL_numberAt_12 rfl hl (by decide) rfl (fun ls hl => ?_)
      refine lv_iconst (v := 1) hx hb dL_numberAt_13 (by decide) ?_
      have ho := (Option.some.inj hF).symm
      exact W.iret (v := 1) hx hb hr (fun t ht hW => ⟨⟨1, jo, rfl, ⟨by rw [ho], by rw [ho]⟩, z_end ht hP⟩, hS.F ht⟩) hS.2.2 dL_numberAt_14
    have hF := z_neg hF zc2
    exact absurd hF (by simp)
  · obtain ⟨za1, rfl, rfl⟩ := hw
    have hF := z_okk hF
    have hP : va_P (gD g) zCl (wRootJ g ad st sv isS hst spare undo seen dbef drec ptx plen ppos pcnt cmds stE stF lch llen jo) H := Eq.mp (congrArg (fun w => va_P (gD g) zCl w H) wRootJ_S) hP
    have hD : va_D A (wRootJ g ad st sv isS hst spare undo seen dbef drec ptx plen ppos pcnt cmds stE stF lch llen jo) := Eq.mp (congrArg (fun w => va_D A w) wRootJ_S) hD
    refine lv_i2l (v := (Int32.toInt64 za1)) hx hb dL_numberAt_7 rfl ?_
    refine va_last hx hb hK hP hD hS 74 2 rfl rfl (by unfold vp_in; decide) dL_numberAt_8 (fun H locs hP hD hS => ?_)
    have hP : va_P (gD g) zCl (wRootJ g ad st sv isS hst spare undo seen dbef drec ptx plen ppos pcnt cmds stE stF lch llen (vp_updL jo (Int32.toNatClampNeg 0) (Int32.toInt64 za1))) H := hP
    have hD : va_D A (wRootJ g ad st sv isS hst spare undo seen dbef drec ptx plen ppos pcnt cmds stE stF lch llen (vp_updL jo (Int32.toNatClampNeg 0) (Int32.toInt64 za1))) := hD
    refine lv_goto (tgt := 15) hx hb dL_numberAt_9 (by decide) ?_
    refine lv_iconst (v := 0) hx hb dL_numberAt_15 (by decide) ?_
    have ho := (Option.some.inj hF).symm
    exact W.iret (v := 0) hx hb hr (fun t ht hW => ⟨⟨0, (vp_updL jo (Int32.toNatClampNeg 0) (Int32.toInt64 za1)), rfl, ⟨by rw [ho], by rw [ho]⟩, z_end ht hP⟩, hS.F ht⟩) hS.2.2 dL_numberAt_16
abbrev w_L_value : List Cond := .codeWith yL_value cL_value 4 (some .int) [(0, 8, 11, 26)] :: wU
abbrev r_L_value : Room := { frames := 8, cells := 1, slots := 6, locals := 125 }
abbrev q_L_value (g : GG) (ad : Nat → Nat) (st : SS) (sv : SS) (isS : Int32) (hst : Nat → SS) (spare : Int32) (undo : Int32) (seen : Nat → Int32) (dbef : Int32) (drec : Int32) (ptx : Nat → Int32) (plen : Int32) (ppos : Int32) (pcnt : Int32) (cmds : Nat → CC) (stE : Int32) (stF : Int32) (lch : Nat → Int32) (llen : Int32) (jo : Nat → Int64) (o : Int32 × (Nat → Int64)) (A : Nat → Prop) := va_Qi (fun (r : Int32) (u : (Nat → Int64)) => o.1 = r ∧ o.2 = u) (fun u t => va_P (gD g) zCl (wRootJ g ad st sv isS hst spare undo seen dbef drec ptx plen ppos pcnt cmds stE stF lch llen u) t.heap) A
set_option maxHeartbeats 4000000 in
set_option maxRecDepth 100000 in
theorem c_L_value (l : Launch) (hl0 : l.stackTraces = false) (g : GG) (ad : Nat → Nat) (st : SS) (sv : SS) (isS : Int32) (hst : Nat → SS) (spare : Int32) (undo : Int32) (seen : Nat → Int32) (dbef : Int32) (drec : Int32) (ptx : Nat → Int32) (plen : Int32) (ppos : Int32) (pcnt : Int32) (cmds : Nat → CC) (stE : Int32) (stF : Int32) (lch : Nat → Int32) (llen : Int32) (jo : Nat → Int64) (sz : Nat) (p1 : Int32) (fu : Nat) (o : Int32 × (Nat → Int64)) (hF : F_L_value fu st jo p1 = some o) : Met l yL_value w_L_value r_L_value (va_Pc [.ref (ad 0), .int p1, .ref (ad 74)] (zP g (wRootJ g ad st sv isS hst spare undo seen dbef drec ptx plen ppos pcnt cmds stE stF lch llen jo) sz)) (q_L_value g ad st sv isS hst spare undo seen dbef drec ptx plen ppos pcnt cmds stE stF lch llen jo o (va_A (wRootJ g ad st sv isS hst spare undo seen dbef drec ptx plen ppos pcnt cmds stE stF lch llen jo) sz)) 1 6 (va_A (wRootJ g ad st sv isS hst spare undo seen dbef drec ptx plen ppos pcnt cmds stE stF lch llen jo) sz) := by
  refine va_MetW (cc := cL_value) (maxL := 4) (ret := (some .int)) (by decide) rfl ?_
  intro p e s m args below meth c s₁ B hml hv
  obtain ⟨rfl, rfl, hP, hK, hD0, hB⟩ := hv
  have hx := B.exec
  have hb := B.bytes
  have hr := B.returns
  have htab : c.exceptionTable.toList = tableOf [(0, 8, 11, 26)] := vx_table (x := yL_value) B (atoms_spec (ws := w_L_value) B.pre _ List.mem_cons_self)
  have hts : ∀ w ∈ wU, w.before _ s = true := fun w h => atoms_spec (ws := w_L_value) B.pre w (List.mem_cons_of_mem _ h)
  have hown : s.vm.findClass RL = some m.cls := findClass_of_methodNamed B.named
  have hlocks := B.notSynchronized
  have hD := hD0.self (sz := s.heap.size)
  generalize hAe : va_A (wRootJ g ad st sv isS hst spare undo seen dbef drec ptx plen ppos pcnt cmds stE stF lch llen jo) s.heap.size = A at hD hB ⊢
  have hA : ∀ q : Nat, s.heap.size ≤ q → A q := fun q h => by rw [← hAe]; exact Or.inr h
  have hS : va_S A s.heap s.heap [] := va_S.rf
  have hl := lv_entry ([.ref (ad 0), .int p1, .ref (ad 74)]) (n := 4) (Nat.le_of_ble_eq_true rfl)
  rw [lg_entry_eq]
  generalize (lg_sl ([.ref (ad 0), .int p1, .ref (ad 74)]) ++ List.replicate (4 - (lg_sl ([.ref (ad 0), .int p1, .ref (ad 74)])).length) Slot.unset).toArray = ls at hl ⊢
  have hl : lv_has ls 4 [(0, .ref (ad 0)), (1, .int p1), (2, .ref (ad 74))] := hl
  unfold F_L_value at hF
  refine lv_aload_n hx hb dL_value_0 rfl (lv_at hl 2 rfl) ?_
  refine lv_iconst (v := 0) hx hb dL_value_1 (by decide) ?_
  refine lv_aload_n hx hb dL_value_2 rfl (lv_at hl 0 rfl) ?_
  refine lv_iload_n hx hb dL_value_3 rfl (lv_at hl 1 rfl) ?_
  obtain ⟨zo1, hzo1, hF⟩ := z_bind hF
  refine z_calllX (fun (_ : Unit) => (wRoot g ad st sv isS hst spare undo seen dbef drec ptx plen ppos pcnt cmds stE stF lch llen)) (fun (x : Nat × (Unit)) => (wRoot g ad st sv isS hst spare undo seen dbef drec ptx plen ppos pcnt cmds stE stF lch llen)) (fun (x : Nat × (Unit)) => xN x.1) zRJ (vx_runV (As := [.int p1]) (rest := [.int 0, .ref (ad 74)]) ⟨hx, hb, hml, hown, hts⟩ (c_X10_value l hl0 g ad st sv isS hst spare undo seen dbef drec ptx plen ppos pcnt cmds stE stF lch llen _ p1 fu _ hzo1) (cwV 1 hts (gdV mU_840 mU_841 mU_842 mU_66 mU_843) rfl rfl rfl (by decide +kernel) ⟨Nat.le_of_ble_eq_true rfl, Nat.le_of_ble_eq_true rfl⟩) ⟨z_blind _ _ _ _, va_recv hK hP (ci := 6) (q0 := 0) rfl rfl, fun U hU hW => z_pre zRJ hP hD hK hB hS hA wRootJ_C wRootJ_N hU hW⟩ rfl rfl hl.1 rfl (lv_room (Nat.le_of_ble_eq_true rfl)) dL_value_4 ⟨Nat.le_of_ble_eq_true rfl, Nat.le_of_ble_eq_true rfl⟩) hP hD hS hA wRootJ_C (fun _ => rfl) (fun _ => rfl) (fun zw1 ce q9 H locs hw hP hD hS hq1 hq2 hq3 => ?_) (fun r u H locs hw hP hD hS => ?_)
  · subst hw
    have hF : _ = some o := hF
    have hP : va_P (gD g) zCl (wRootJ g ad st sv isS hst spare undo seen dbef drec ptx plen ppos pcnt cmds stE stF lch llen jo) H := Eq.mp (congrArg (fun w => va_P (gD g) zCl w H) wRootJ_S) hP
    have hD : va_D A (wRootJ g ad st sv isS hst spare undo seen dbef drec ptx plen ppos pcnt cmds stE stF lch llen jo) := Eq.mp (congrArg (fun w => va_D A w) wRootJ_S) hD
    have hF := z_err hF
    have hq3 : s.vm.findClass (xN zw1.1) = some ce.cls := hq3
    by_cases zc2 : zw1.1 = 3
    · have hF := z_pos hF zc2
      rw [zc2] at hq3
      have hq3 : s.vm.findClass "java/util/NoSuchElementException" = some ce.cls := hq3
      refine vx_catch (own := RL) (name := "java/util/NoSuchElementException") (E := "java/util/NoSuchElementException") hown [] (⟨0, 8, 11, 26⟩ : ExceptionTableEntry) [] (htab.trans rfl) (fun _ h => absurd h List.not_mem_nil) rfl (by decide) (hts _ mU_690) (va_Nw.use rfl (hB.2.1.1 _ zn_705)) hq1 hq2 hq3 ?_
      refine lv_astore_n (lv' := [(3, .ref q9), (0, .ref (ad 0)), (1, .int p1), (2, .ref (ad 74))]) hx hb dL_value_11 rfl hl (by decide) rfl (fun ls hl => ?_)
      refine lv_iconst (v := 1) hx hb dL_value_12 (by decide) ?_
      have ho := (Option.some.inj hF).symm
      exact W.iret (v := 1) hx hb hr (fun t ht hW => ⟨⟨1, jo, rfl, ⟨by rw [ho], by rw [ho]⟩, z_end ht hP⟩, hS.F ht⟩) hS.2.2 dL_value_13
    have hF := z_neg hF zc2
    exact absurd hF (by simp)
  · obtain ⟨za1, rfl, rfl⟩ := hw
    have hF := z_okk hF
    have hP : va_P (gD g) zCl (wRootJ g ad st sv isS hst spare undo seen dbef drec ptx plen ppos pcnt cmds stE stF lch llen jo) H := Eq.mp (congrArg (fun w => va_P (gD g) zCl w H) wRootJ_S) hP
    have hD : va_D A (wRootJ g ad st sv isS hst spare undo seen dbef drec ptx plen ppos pcnt cmds stE stF lch llen jo) := Eq.mp (congrArg (fun w => va_D A w) wRootJ_S) hD
    refine va_last hx hb hK hP hD hS 74 2 rfl rfl (by unfold vp_in; decide) dL_value_7 (fun H locs hP hD hS => ?_)
    have hP : va_P (gD g) zCl (wRootJ g ad st sv isS hst spare undo seen dbef drec ptx plen ppos pcnt cmds stE stF lch llen (vp_updL jo (Int32.toNatClampNeg 0) za1)) H := hP
    have hD : va_D A (wRootJ g ad st sv isS hst spare undo seen dbef drec ptx plen ppos pcnt cmds stE stF lch llen (vp_updL jo (Int32.toNatClampNeg 0) za1)) := hD
    refine lv_goto (tgt := 14) hx hb dL_value_8 (by decide) ?_
    refine lv_iconst (v := 0) hx hb dL_value_14 (by decide) ?_
    have ho := (Option.some.inj hF).symm
    exact W.iret (v := 0) hx hb hr (fun t ht hW => ⟨⟨0, (vp_updL jo (Int32.toNatClampNeg 0) za1), rfl, ⟨by rw [ho], by rw [ho]⟩, z_end ht hP⟩, hS.F ht⟩) hS.2.2 dL_value_15
abbrev w_L_scale : List Cond := .codeWith yL_scale cL_scale 4 (some .int) [(0, 9, 12, 26)] :: wU
abbrev r_L_scale : Room := { frames := 8, cells := 1, slots := 6, locals := 125 }
abbrev q_L_scale (g : GG) (ad : Nat → Nat) (st : SS) (sv : SS) (isS : Int32) (hst : Nat → SS) (spare : Int32) (undo : Int32) (seen : Nat → Int32) (dbef : Int32) (drec : Int32) (ptx : Nat → Int32) (plen : Int32) (ppos : Int32) (pcnt : Int32) (cmds : Nat → CC) (stE : Int32) (stF : Int32) (lch : Nat → Int32) (llen : Int32) (jo : Nat → Int64) (o : Int32 × (Nat → Int64)) (A : Nat → Prop) := va_Qi (fun (r : Int32) (u : (Nat → Int64)) => o.1 = r ∧ o.2 = u) (fun u t => va_P (gD g) zCl (wRootJ g ad st sv isS hst spare undo seen dbef drec ptx plen ppos pcnt cmds stE stF lch llen u) t.heap) A
set_option maxHeartbeats 4000000 in
set_option maxRecDepth 100000 in
theorem c_L_scale (l : Launch) (hl0 : l.stackTraces = false) (g : GG) (ad : Nat → Nat) (st : SS) (sv : SS) (isS : Int32) (hst : Nat → SS) (spare : Int32) (undo : Int32) (seen : Nat → Int32) (dbef : Int32) (drec : Int32) (ptx : Nat → Int32) (plen : Int32) (ppos : Int32) (pcnt : Int32) (cmds : Nat → CC) (stE : Int32) (stF : Int32) (lch : Nat → Int32) (llen : Int32) (jo : Nat → Int64) (sz : Nat) (p1 : Int32) (fu : Nat) (o : Int32 × (Nat → Int64)) (hF : F_L_scale fu st jo p1 = some o) : Met l yL_scale w_L_scale r_L_scale (va_Pc [.ref (ad 0), .int p1, .ref (ad 74)] (zP g (wRootJ g ad st sv isS hst spare undo seen dbef drec ptx plen ppos pcnt cmds stE stF lch llen jo) sz)) (q_L_scale g ad st sv isS hst spare undo seen dbef drec ptx plen ppos pcnt cmds stE stF lch llen jo o (va_A (wRootJ g ad st sv isS hst spare undo seen dbef drec ptx plen ppos pcnt cmds stE stF lch llen jo) sz)) 1 6 (va_A (wRootJ g ad st sv isS hst spare undo seen dbef drec ptx plen ppos pcnt cmds stE stF lch llen jo) sz) := by
  refine va_MetW (cc := cL_scale) (maxL := 4) (ret := (some .int)) (by decide) rfl ?_
  intro p e s m args below meth c s₁ B hml hv
  obtain ⟨rfl, rfl, hP, hK, hD0, hB⟩ := hv
  have hx := B.exec
  have hb := B.bytes
  have hr := B.returns
  have htab : c.exceptionTable.toList = tableOf [(0, 9, 12, 26)] := vx_table (x := yL_scale) B (atoms_spec (ws := w_L_scale) B.pre _ List.mem_cons_self)
  have hts : ∀ w ∈ wU, w.before _ s = true := fun w h => atoms_spec (ws := w_L_scale) B.pre w (List.mem_cons_of_mem _ h)
  have hown : s.vm.findClass RL = some m.cls := findClass_of_methodNamed B.named
  have hlocks := B.notSynchronized
  have hD := hD0.self (sz := s.heap.size)
  generalize hAe : va_A (wRootJ g ad st sv isS hst spare undo seen dbef drec ptx plen ppos pcnt cmds stE stF lch llen jo) s.heap.size = A at hD hB ⊢
  have hA : ∀ q : Nat, s.heap.size ≤ q → A q := fun q h => by rw [← hAe]; exact Or.inr h
  have hS : va_S A s.heap s.heap [] := va_S.rf
  have hl := lv_entry ([.ref (ad 0), .int p1, .ref (ad 74)]) (n := 4) (Nat.le_of_ble_eq_true rfl)
  rw [lg_entry_eq]
  generalize (lg_sl ([.ref (ad 0), .int p1, .ref (ad 74)]) ++ List.replicate (4 - (lg_sl ([.ref (ad 0), .int p1, .ref (ad 74)])).length) Slot.unset).toArray = ls at hl ⊢
  have hl : lv_has ls 4 [(0, .ref (ad 0)), (1, .int p1), (2, .ref (ad 74))] := hl
  unfold F_L_scale at hF
  refine lv_aload_n hx hb dL_scale_0 rfl (lv_at hl 2 rfl) ?_
  refine lv_iconst (v := 0) hx hb dL_scale_1 (by decide) ?_
  refine lv_aload_n hx hb dL_scale_2 rfl (lv_at hl 0 rfl) ?_
  refine lv_iload_n hx hb dL_scale_3 rfl (lv_at hl 1 rfl) ?_
  obtain ⟨zo1, hzo1, hF⟩ := z_bind hF
  refine z_calliX (fun (_ : Unit) => (wRoot g ad st sv isS hst spare undo seen dbef drec ptx plen ppos pcnt cmds stE stF lch llen)) (fun (x : Nat × (Unit)) => (wRoot g ad st sv isS hst spare undo seen dbef drec ptx plen ppos pcnt cmds stE stF lch llen)) (fun (x : Nat × (Unit)) => xN x.1) zRJ (vx_runV (As := [.int p1]) (rest := [.int 0, .ref (ad 74)]) ⟨hx, hb, hml, hown, hts⟩ (c_X10_scale l hl0 g ad st sv isS hst spare undo seen dbef drec ptx plen ppos pcnt cmds stE stF lch llen _ p1 fu _ hzo1) (cwV 1 hts (gdV mU_847 mU_848 mU_849 mU_66 mU_850) rfl rfl rfl (by decide +kernel) ⟨Nat.le_of_ble_eq_true rfl, Nat.le_of_ble_eq_true rfl⟩) ⟨z_blind _ _ _ _, va_recv hK hP (ci := 6) (q0 := 0) rfl rfl, fun U hU hW => z_pre zRJ hP hD hK hB hS hA wRootJ_C wRootJ_N hU hW⟩ rfl rfl hl.1 rfl (lv_room (Nat.le_of_ble_eq_true rfl)) dL_scale_4 ⟨Nat.le_of_ble_eq_true rfl, Nat.le_of_ble_eq_true rfl⟩) hP hD hS hA wRootJ_C (fun _ => rfl) (fun _ => rfl) (fun zw1 ce q9 H locs hw hP hD hS hq1 hq2 hq3 => ?_) (fun r u H locs hw hP hD hS => ?_)
  · subst hw
    have hF : _ = some o := hF
    have hP : va_P (gD g) zCl (wRootJ g ad st sv isS hst spare undo seen dbef drec ptx plen ppos pcnt cmds stE stF lch llen jo) H := Eq.mp (congrArg (fun w => va_P (gD g) zCl w H) wRootJ_S) hP
    have hD : va_D A (wRootJ g ad st sv isS hst spare undo seen dbef drec ptx plen ppos pcnt cmds stE stF lch llen jo) := Eq.mp (congrArg (fun w => va_D A w) wRootJ_S) hD
    have hF := z_err hF
    have hq3 : s.vm.findClass (xN zw1.1) = some ce.cls := hq3
    by_cases zc2 : zw1.1 = 3
    · have hF := z_pos hF zc2
      rw [zc2] at hq3
      have hq3 : s.vm.findClass "java/util/NoSuchElementException" = some ce.cls := hq3
      refine vx_catch (own := RL) (name := "java/util/NoSuchElementException") (E := "java/util/NoSuchElementException") hown [] (⟨0, 9, 12, 26⟩ : ExceptionTableEntry) [] (htab.trans rfl) (fun _ h => absurd h List.not_mem_nil) rfl (by decide) (hts _ mU_690) (va_Nw.use rfl (hB.2.1.1 _ zn_705)) hq1 hq2 hq3 ?_
      refine lv_astore_n (lv' := [(3, .ref q9), (0, .ref (ad 0)), (1, .int p1), (2, .ref (ad 74))]) hx hb dL_scale_12 rfl hl (by decide) rfl (fun ls hl => ?_)
      refine lv_iconst (v := 1) hx hb dL_scale_13 (by decide) ?_
      have ho := (Option.some.inj hF).symm
      exact W.iret (v := 1) hx hb hr (fun t ht hW => ⟨⟨1, jo, rfl, ⟨by rw [ho], by rw [ho]⟩, z_end ht hP⟩, hS.F ht⟩) hS.2.2 dL_scale_14
    have hF := z_neg hF zc2
    exact absurd hF (by simp)
  · obtain ⟨za1, rfl, rfl⟩ := hw
    have hF := z_okk hF
    have hP : va_P (gD g) zCl (wRootJ g ad st sv isS hst spare undo seen dbef drec ptx plen ppos pcnt cmds stE stF lch llen jo) H := Eq.mp (congrArg (fun w => va_P (gD g) zCl w H) wRootJ_S) hP
    have hD : va_D A (wRootJ g ad st sv isS hst spare undo seen dbef drec ptx plen ppos pcnt cmds stE stF lch llen jo) := Eq.mp (congrArg (fun w => va_D A w) wRootJ_S) hD
    refine lv_i2l (v := (Int32.toInt64 za1)) hx hb dL_scale_7 rfl ?_
    refine va_last hx hb hK hP hD hS 74 2 rfl rfl (by unfold vp_in; decide) dL_scale_8 (fun H locs hP hD hS => ?_)
    have hP : va_P (gD g) zCl (wRootJ g ad st sv isS hst spare undo seen dbef drec ptx plen ppos pcnt cmds stE stF lch llen (vp_updL jo (Int32.toNatClampNeg 0) (Int32.toInt64 za1))) H := hP
    have hD : va_D A (wRootJ g ad st sv isS hst spare undo seen dbef drec ptx plen ppos pcnt cmds stE stF lch llen (vp_updL jo (Int32.toNatClampNeg 0) (Int32.toInt64 za1))) := hD
    refine lv_goto (tgt := 15) hx hb dL_scale_9 (by decide) ?_
    refine lv_iconst (v := 0) hx hb dL_scale_15 (by decide) ?_
    have ho := (Option.some.inj hF).symm
    exact W.iret (v := 0) hx hb hr (fun t ht hW => ⟨⟨0, (vp_updL jo (Int32.toNatClampNeg 0) (Int32.toInt64 za1)), rfl, ⟨by rw [ho], by rw [ho]⟩, z_end ht hP⟩, hS.F ht⟩) hS.2.2 dL_scale_16
abbrev w_L_mode : List Cond := .codeWith yL_mode cL_mode 4 (some .int) [(0, 9, 12, 26)] :: wU
abbrev r_L_mode : Room := { frames := 8, cells := 1, slots := 6, locals := 125 }
abbrev q_L_mode (g : GG) (ad : Nat → Nat) (st : SS) (sv : SS) (isS : Int32) (hst : Nat → SS) (spare : Int32) (undo : Int32) (seen : Nat → Int32) (dbef : Int32) (drec : Int32) (ptx : Nat → Int32) (plen : Int32) (ppos : Int32) (pcnt : Int32) (cmds : Nat → CC) (stE : Int32) (stF : Int32) (lch : Nat → Int32) (llen : Int32) (jo : Nat → Int64) (o : Int32 × (Nat → Int64)) (A : Nat → Prop) := va_Qi (fun (r : Int32) (u : (Nat → Int64)) => o.1 = r ∧ o.2 = u) (fun u t => va_P (gD g) zCl (wRootJ g ad st sv isS hst spare undo seen dbef drec ptx plen ppos pcnt cmds stE stF lch llen u) t.heap) A
set_option maxHeartbeats 4000000 in
set_option maxRecDepth 100000 in
theorem c_L_mode (l : Launch) (hl0 : l.stackTraces = false) (g : GG) (ad : Nat → Nat) (st : SS) (sv : SS) (isS : Int32) (hst : Nat → SS) (spare : Int32) (undo : Int32) (seen : Nat → Int32) (dbef : Int32) (drec : Int32) (ptx : Nat → Int32) (plen : Int32) (ppos : Int32) (pcnt : Int32) (cmds : Nat → CC) (stE : Int32) (stF : Int32) (lch : Nat → Int32) (llen : Int32) (jo : Nat → Int64) (sz : Nat) (p1 : Int32) (fu : Nat) (o : Int32 × (Nat → Int64)) (hF : F_L_mode fu st jo p1 = some o) : Met l yL_mode w_L_mode r_L_mode (va_Pc [.ref (ad 0), .int p1, .ref (ad 74)] (zP g (wRootJ g ad st sv isS hst spare undo seen dbef drec ptx plen ppos pcnt cmds stE stF lch llen jo) sz)) (q_L_mode g ad st sv isS hst spare undo seen dbef drec ptx plen ppos pcnt cmds stE stF lch llen jo o (va_A (wRootJ g ad st sv isS hst spare undo seen dbef drec ptx plen ppos pcnt cmds stE stF lch llen jo) sz)) 1 6 (va_A (wRootJ g ad st sv isS hst spare undo seen dbef drec ptx plen ppos pcnt cmds stE stF lch llen jo) sz) := by
  refine va_MetW (cc := cL_mode) (maxL := 4) (ret := (some .int)) (by decide) rfl ?_
  intro p e s m args below meth c s₁ B hml hv
  obtain ⟨rfl, rfl, hP, hK, hD0, hB⟩ := hv
  have hx := B.exec
  have hb := B.bytes
  have hr := B.returns
  have htab : c.exceptionTable.toList = tableOf [(0, 9, 12, 26)] := vx_table (x := yL_mode) B (atoms_spec (ws := w_L_mode) B.pre _ List.mem_cons_self)
  have hts : ∀ w ∈ wU, w.before _ s = true := fun w h => atoms_spec (ws := w_L_mode) B.pre w (List.mem_cons_of_mem _ h)
  have hown : s.vm.findClass RL = some m.cls := findClass_of_methodNamed B.named
  have hlocks := B.notSynchronized
  have hD := hD0.self (sz := s.heap.size)
  generalize hAe : va_A (wRootJ g ad st sv isS hst spare undo seen dbef drec ptx plen ppos pcnt cmds stE stF lch llen jo) s.heap.size = A at hD hB ⊢
  have hA : ∀ q : Nat, s.heap.size ≤ q → A q := fun q h => by rw [← hAe]; exact Or.inr h
  have hS : va_S A s.heap s.heap [] := va_S.rf
  have hl := lv_entry ([.ref (ad 0), .int p1, .ref (ad 74)]) (n := 4) (Nat.le_of_ble_eq_true rfl)
  rw [lg_entry_eq]
  generalize (lg_sl ([.ref (ad 0), .int p1, .ref (ad 74)]) ++ List.replicate (4 - (lg_sl ([.ref (ad 0), .int p1, .ref (ad 74)])).length) Slot.unset).toArray = ls at hl ⊢
  have hl : lv_has ls 4 [(0, .ref (ad 0)), (1, .int p1), (2, .ref (ad 74))] := hl
  unfold F_L_mode at hF
  refine lv_aload_n hx hb dL_mode_0 rfl (lv_at hl 2 rfl) ?_
  refine lv_iconst (v := 0) hx hb dL_mode_1 (by decide) ?_
  refine lv_aload_n hx hb dL_mode_2 rfl (lv_at hl 0 rfl) ?_
  refine lv_iload_n hx hb dL_mode_3 rfl (lv_at hl 1 rfl) ?_
  obtain ⟨zo1, hzo1, hF⟩ := z_bind hF
  refine z_calliX (fun (_ : Unit) => (wRoot g ad st sv isS hst spare undo seen dbef drec ptx plen ppos pcnt cmds stE stF lch llen)) (fun (x : Nat × (Unit)) => (wRoot g ad st sv isS hst spare undo seen dbef drec ptx plen ppos pcnt cmds stE stF lch llen)) (fun (x : Nat × (Unit)) => xN x.1) zRJ (vx_runV (As := [.int p1]) (rest := [.int 0, .ref (ad 74)]) ⟨hx, hb, hml, hown, hts⟩ (c_X10_mode l hl0 g ad st sv isS hst spare undo seen dbef drec ptx plen ppos pcnt cmds stE stF lch llen _ p1 fu _ hzo1) (cwV 1 hts (gdV mU_854 mU_855 mU_856 mU_66 mU_857) rfl rfl rfl (by decide +kernel) ⟨Nat.le_of_ble_eq_true rfl, Nat.le_of_ble_eq_true rfl⟩) ⟨z_blind _ _ _ _, va_recv hK hP (ci := 6) (q0 := 0) rfl rfl, fun U hU hW => z_pre zRJ hP hD hK hB hS hA wRootJ_C wRootJ_N hU hW⟩ rfl rfl hl.1 rfl (lv_room (Nat.le_of_ble_eq_true rfl)) dL_mode_4 ⟨Nat.le_of_ble_eq_true rfl, Nat.le_of_ble_eq_true rfl⟩) hP hD hS hA wRootJ_C (fun _ => rfl) (fun _ => rfl) (fun zw1 ce q9 H locs hw hP hD hS hq1 hq2 hq3 => ?_) (fun r u H locs hw hP hD hS => ?_)
  · subst hw
    have hF : _ = some o := hF
    have hP : va_P (gD g) zCl (wRootJ g ad st sv isS hst spare undo seen dbef drec ptx plen ppos pcnt cmds stE stF lch llen jo) H := Eq.mp (congrArg (fun w => va_P (gD g) zCl w H) wRootJ_S) hP
    have hD : va_D A (wRootJ g ad st sv isS hst spare undo seen dbef drec ptx plen ppos pcnt cmds stE stF lch llen jo) := Eq.mp (congrArg (fun w => va_D A w) wRootJ_S) hD
    have hF := z_err hF
    have hq3 : s.vm.findClass (xN zw1.1) = some ce.cls := hq3
    by_cases zc2 : zw1.1 = 3
    · have hF := z_pos hF zc2
      rw [zc2] at hq3
      have hq3 : s.vm.findClass "java/util/NoSuchElementException" = some ce.cls := hq3
      refine vx_catch (own := RL) (name := "java/util/NoSuchElementException") (E := "java/util/NoSuchElementException") hown [] (⟨0, 9, 12, 26⟩ : ExceptionTableEntry) [] (htab.trans rfl) (fun _ h => absurd h List.not_mem_nil) rfl (by decide) (hts _ mU_690) (va_Nw.use rfl (hB.2.1.1 _ zn_705)) hq1 hq2 hq3 ?_
      refine lv_astore_n (lv' := [(3, .ref q9), (0, .ref (ad 0)), (1, .int p1), (2, .ref (ad 74))]) hx hb dL_mode_12 rfl hl (by decide) rfl (fun ls hl => ?_)
      refine lv_iconst (v := 1) hx hb dL_mode_13 (by decide) ?_
      have ho := (Option.some.inj hF).symm
      exact W.iret (v := 1) hx hb hr (fun t ht hW => ⟨⟨1, jo, rfl, ⟨by rw [ho], by rw [ho]⟩, z_end ht hP⟩, hS.F ht⟩) hS.2.2 dL_mode_14
    have hF := z_neg hF zc2
    exact absurd hF (by simp)
  · obtain ⟨za1, rfl, rfl⟩ := hw
    have hF := z_okk hF
    have hP : va_P (gD g) zCl (wRootJ g ad st sv isS hst spare undo seen dbef drec ptx plen ppos pcnt cmds stE stF lch llen jo) H := Eq.mp (congrArg (fun w => va_P (gD g) zCl w H) wRootJ_S) hP
    have hD : va_D A (wRootJ g ad st sv isS hst spare undo seen dbef drec ptx plen ppos pcnt cmds stE stF lch llen jo) := Eq.mp (congrArg (fun w => va_D A w) wRootJ_S) hD
    refine lv_i2l (v := (Int32.toInt64 za1)) hx hb dL_mode_7 rfl ?_
    refine va_last hx hb hK hP hD hS 74 2 rfl rfl (by unfold vp_in; decide) dL_mode_8 (fun H locs hP hD hS => ?_)
    have hP : va_P (gD g) zCl (wRootJ g ad st sv isS hst spare undo seen dbef drec ptx plen ppos pcnt cmds stE stF lch llen (vp_updL jo (Int32.toNatClampNeg 0) (Int32.toInt64 za1))) H := hP
    have hD : va_D A (wRootJ g ad st sv isS hst spare undo seen dbef drec ptx plen ppos pcnt cmds stE stF lch llen (vp_updL jo (Int32.toNatClampNeg 0) (Int32.toInt64 za1))) := hD
    refine lv_goto (tgt := 15) hx hb dL_mode_9 (by decide) ?_
    refine lv_iconst (v := 0) hx hb dL_mode_15 (by decide) ?_
    have ho := (Option.some.inj hF).symm
    exact W.iret (v := 0) hx hb hr (fun t ht hW => ⟨⟨0, (vp_updL jo (Int32.toNatClampNeg 0) (Int32.toInt64 za1)), rfl, ⟨by rw [ho], by rw [ho]⟩, z_end ht hP⟩, hS.F ht⟩) hS.2.2 dL_mode_16
