abbrev w_L_digit : List Cond := .codeWith yL_digit cL_digit 5 (some .int) [(0, 10, 13, 26), (0, 10, 17, 51)] :: wU
abbrev r_L_digit : Room := { frames := 8, cells := 2, slots := 12, locals := 127 }
abbrev q_L_digit (g : GG) (ad : Nat → Nat) (st : SS) (sv : SS) (isS : Int32) (hst : Nat → SS) (spare : Int32) (undo : Int32) (seen : Nat → Int32) (dbef : Int32) (drec : Int32) (ptx : Nat → Int32) (plen : Int32) (ppos : Int32) (pcnt : Int32) (cmds : Nat → CC) (stE : Int32) (stF : Int32) (lch : Nat → Int32) (llen : Int32) (jo : Nat → Int64) (o : Int32 × (Nat → Int64)) (A : Nat → Prop) := va_Qi (fun (r : Int32) (u : (Nat → Int64)) => o.1 = r ∧ o.2 = u) (fun u t => va_P (gD g) zCl (wRootJ g ad st sv isS hst spare undo seen dbef drec ptx plen ppos pcnt cmds stE stF lch llen u) t.heap) A
set_option maxHeartbeats 4000000 in
set_option maxRecDepth 100000 in
theorem c_L_digit (l : Launch) (hl0 : l.stackTraces = false) (g : GG) (ad : Nat → Nat) (st : SS) (sv : SS) (isS : Int32) (hst : Nat → SS) (spare : Int32) (undo : Int32) (seen : Nat → Int32) (dbef : Int32) (drec : Int32) (ptx : Nat → Int32) (plen : Int32) (ppos : Int32) (pcnt : Int32) (cmds : Nat → CC) (stE : Int32) (stF : Int32) (lch : Nat → Int32) (llen : Int32) (jo : Nat → Int64) (sz : Nat) (p1 : Int32) (p2 : Int32) (fu : Nat) (o : Int32 × (Nat → Int64)) (hF : F_L_digit fu st jo p1 p2 = some o) : Met l yL_digit w_L_digit r_L_digit (va_Pc [.ref (ad 0), .int p1, .int p2, .ref (ad 74)] (zP g (wRootJ g ad st sv isS hst spare undo seen dbef drec ptx plen ppos pcnt cmds stE stF lch llen jo) sz)) (q_L_digit g ad st sv isS hst spare undo seen dbef drec ptx plen ppos pcnt cmds stE stF lch llen jo o (va_A (wRootJ g ad st sv isS hst spare undo seen dbef drec ptx plen ppos pcnt cmds stE stF lch llen jo) sz)) 2 12 (va_A (wRootJ g ad st sv isS hst spare undo seen dbef drec ptx plen ppos pcnt cmds stE stF lch llen jo) sz) := by
  refine va_MetW (cc := cL_digit) (maxL := 5) (ret := (some .int)) (by decide) rfl ?_
  intro p e s m args below meth c s₁ B hml hv
  obtain ⟨rfl, rfl, hP, hK, hD0, hB⟩ := hv
  have hx := B.exec
  have hb := B.bytes
  have hr := B.returns
  have htab : c.exceptionTable.toList = tableOf [(0, 10, 13, 26), (0, 10, 17, 51)] := vx_table (x := yL_digit) B (atoms_spec (ws := w_L_digit) B.pre _ List.mem_cons_self)
  have hts : ∀ w ∈ wU, w.before _ s = true := fun w h => atoms_spec (ws := w_L_digit) B.pre w (List.mem_cons_of_mem _ h)
  have hown : s.vm.findClass RL = some m.cls := findClass_of_methodNamed B.named
  have hlocks := B.notSynchronized
  have hD := hD0.self (sz := s.heap.size)
  generalize hAe : va_A (wRootJ g ad st sv isS hst spare undo seen dbef drec ptx plen ppos pcnt cmds stE stF lch llen jo) s.heap.size = A at hD hB ⊢
  have hA : ∀ q : Nat, s.heap.size ≤ q → A q := fun q h => by rw [← hAe]; exact Or.inr h
  have hS : va_S A s.heap s.heap [] := va_S.rf
  have hl := lv_entry ([.ref (ad 0), .int p1, .int p2, .ref (ad 74)]) (n := 5) (Nat.le_of_ble_eq_true rfl)
  rw [lg_entry_eq]
  generalize (lg_sl ([.ref (ad 0), .int p1, .int p2, .ref (ad 74)]) ++ List.replicate (5 - (lg_sl ([.ref (ad 0), .int p1, .int p2, .ref (ad 74)])).length) Slot.unset).toArray = ls at hl ⊢
  have hl : lv_has ls 5 [(0, .ref (ad 0)), (1, .int p1), (2, .int p2), (3, .ref (ad 74))] := hl
  unfold F_L_digit at hF
  refine lv_aload_n hx hb dL_digit_0 rfl (lv_at hl 3 rfl) ?_
  refine lv_iconst (v := 0) hx hb dL_digit_1 (by decide) ?_
  refine lv_aload_n hx hb dL_digit_2 rfl (lv_at hl 0 rfl) ?_
  refine lv_iload_n hx hb dL_digit_3 rfl (lv_at hl 1 rfl) ?_
  refine lv_iload_n hx hb dL_digit_4 rfl (lv_at hl 2 rfl) ?_
  obtain ⟨zo1, hzo1, hF⟩ := z_bind hF
  refine z_calliX (fun (_ : Unit) => (wRoot g ad st sv isS hst spare undo seen dbef drec ptx plen ppos pcnt cmds stE stF lch llen)) (fun (x : Nat × (Unit)) => (wRoot g ad st sv isS hst spare undo seen dbef drec ptx plen ppos pcnt cmds stE stF lch llen)) (fun (x : Nat × (Unit)) => xN x.1) zRJ (vx_runV (As := [.int p1, .int p2]) (rest := [.int 0, .ref (ad 74)]) ⟨hx, hb, hml, hown, hts⟩ (c_X10_digit l hl0 g ad st sv isS hst spare undo seen dbef drec ptx plen ppos pcnt cmds stE stF lch llen _ p1 p2 fu _ hzo1) (cwV 2 hts (gdV mU_861 mU_862 mU_863 mU_66 mU_864) rfl rfl rfl (by decide +kernel) ⟨Nat.le_of_ble_eq_true rfl, Nat.le_of_ble_eq_true rfl⟩) ⟨z_blind _ _ _ _, va_recv hK hP (ci := 6) (q0 := 0) rfl rfl, fun U hU hW => z_pre zRJ hP hD hK hB hS hA wRootJ_C wRootJ_N hU hW⟩ rfl rfl hl.1 rfl (lv_room (Nat.le_of_ble_eq_true rfl)) dL_digit_5 ⟨Nat.le_of_ble_eq_true rfl, Nat.le_of_ble_eq_true rfl⟩) hP hD hS hA wRootJ_C (fun _ => rfl) (fun _ => rfl) (fun zw1 ce q9 H locs hw hP hD hS hq1 hq2 hq3 => ?_) (fun r u H locs hw hP hD hS => ?_)
  · subst hw
    have hF : _ = some o := hF
    have hP : va_P (gD g) zCl (wRootJ g ad st sv isS hst spare undo seen dbef drec ptx plen ppos pcnt cmds stE stF lch llen jo) H := Eq.mp (congrArg (fun w => va_P (gD g) zCl w H) wRootJ_S) hP
    have hD : va_D A (wRootJ g ad st sv isS hst spare undo seen dbef drec ptx plen ppos pcnt cmds stE stF lch llen jo) := Eq.mp (congrArg (fun w => va_D A w) wRootJ_S) hD
    have hF := z_err hF
    have hq3 : s.vm.findClass (xN zw1.1) = some ce.cls := hq3
    by_cases zc2 : zw1.1 = 3
    · have hF := z_pos hF zc2
      rw [zc2] at hq3
      have hq3 : s.vm.findClass "java/util/NoSuchElementException" = some ce.cls := hq3
      refine vx_catch (own := RL) (name := "java/util/NoSuchElementException") (E := "java/util/NoSuchElementException") hown [] (⟨0, 10, 13, 26⟩ : ExceptionTableEntry) [(⟨0, 10, 17, 51⟩ : ExceptionTableEntry)] (htab.trans rfl) (fun _ h => absurd h List.not_mem_nil) rfl (by decide) (hts _ mU_690) (va_Nw.use rfl (hB.2.1.1 _ zn_705)) hq1 hq2 hq3 ?_
      refine lv_astore (lv' := [(4, .ref q9), (0, .ref (ad 0)), (1, .int p1), (2, .int p2), (3, .ref (ad 74))]) hx hb dL_digit_13 hl (by decide) rfl (fun ls hl => ?_)
      refine lv_iconst (v := 1) hx hb dL_digit_15 (by decide) ?_
      have ho := (Option.some.inj hF).symm
      exact W.iret (v := 1) hx hb hr (fun t ht hW => ⟨⟨1, jo, rfl, ⟨by rw [ho], by rw [ho]⟩, z_end ht hP⟩, hS.F ht⟩) hS.2.2 dL_digit_16
    have hF := z_neg hF zc2
    by_cases zc3 : zw1.1 = 4
    · have hF := z_pos hF zc3
      rw [zc3] at hq3
      have hq3 : s.vm.findClass "java/lang/IndexOutOfBoundsException" = some ce.cls := hq3
      refine vx_catch (own := RL) (name := "java/lang/IndexOutOfBoundsException") (E := "java/lang/IndexOutOfBoundsException") hown [(⟨0, 10, 13, 26⟩ : ExceptionTableEntry)] (⟨0, 10, 17, 51⟩ : ExceptionTableEntry) [] (htab.trans rfl) (List.forall_mem_cons.mpr ⟨(Or.inr ⟨by decide, "java/util/NoSuchElementException", hts _ mU_690, hB.2.1.2.1 ("java/lang/IndexOutOfBoundsException", "java/util/NoSuchElementException") (by decide +kernel)⟩), (fun _ h => absurd h List.not_mem_nil)⟩) rfl (by decide) (hts _ mU_796) (va_Nw.use rfl (hB.2.1.1 _ zn_826)) hq1 hq2 hq3 ?_
      refine lv_astore (lv' := [(4, .ref q9), (0, .ref (ad 0)), (1, .int p1), (2, .int p2), (3, .ref (ad 74))]) hx hb dL_digit_17 hl (by decide) rfl (fun ls hl => ?_)
      refine lv_iconst (v := 2) hx hb dL_digit_19 (by decide) ?_
      have ho := (Option.some.inj hF).symm
      exact W.iret (v := 2) hx hb hr (fun t ht hW => ⟨⟨2, jo, rfl, ⟨by rw [ho], by rw [ho]⟩, z_end ht hP⟩, hS.F ht⟩) hS.2.2 dL_digit_20
    have hF := z_neg hF zc3
    exact absurd hF (by simp)
  · obtain ⟨za1, rfl, rfl⟩ := hw
    have hF := z_okk hF
    have hP : va_P (gD g) zCl (wRootJ g ad st sv isS hst spare undo seen dbef drec ptx plen ppos pcnt cmds stE stF lch llen jo) H := Eq.mp (congrArg (fun w => va_P (gD g) zCl w H) wRootJ_S) hP
    have hD : va_D A (wRootJ g ad st sv isS hst spare undo seen dbef drec ptx plen ppos pcnt cmds stE stF lch llen jo) := Eq.mp (congrArg (fun w => va_D A w) wRootJ_S) hD
    refine lv_i2l (v := (Int32.toInt64 za1)) hx hb dL_digit_8 rfl ?_
    refine va_last hx hb hK hP hD hS 74 2 rfl rfl (by unfold vp_in; decide) dL_digit_9 (fun H locs hP hD hS => ?_)
    have hP : va_P (gD g) zCl (wRootJ g ad st sv isS hst spare undo seen dbef drec ptx plen ppos pcnt cmds stE stF lch llen (vp_updL jo (Int32.toNatClampNeg 0) (Int32.toInt64 za1))) H := hP
    have hD : va_D A (wRootJ g ad st sv isS hst spare undo seen dbef drec ptx plen ppos pcnt cmds stE stF lch llen (vp_updL jo (Int32.toNatClampNeg 0) (Int32.toInt64 za1))) := hD
    refine lv_goto (tgt := 21) hx hb dL_digit_10 (by decide) ?_
    refine lv_iconst (v := 0) hx hb dL_digit_21 (by decide) ?_
    have ho := (Option.some.inj hF).symm
    exact W.iret (v := 0) hx hb hr (fun t ht hW => ⟨⟨0, (vp_updL jo (Int32.toNatClampNeg 0) (Int32.toInt64 za1)), rfl, ⟨by rw [ho], by rw [ho]⟩, z_end ht hP⟩, hS.F ht⟩) hS.2.2 dL_digit_22
abbrev w_L_digitSum : List Cond := .codeWith yL_digitSum cL_digitSum 4 (some .int) [(0, 9, 12, 26)] :: wU
abbrev r_L_digitSum : Room := { frames := 8, cells := 1, slots := 6, locals := 125 }
abbrev q_L_digitSum (g : GG) (ad : Nat → Nat) (st : SS) (sv : SS) (isS : Int32) (hst : Nat → SS) (spare : Int32) (undo : Int32) (seen : Nat → Int32) (dbef : Int32) (drec : Int32) (ptx : Nat → Int32) (plen : Int32) (ppos : Int32) (pcnt : Int32) (cmds : Nat → CC) (stE : Int32) (stF : Int32) (lch : Nat → Int32) (llen : Int32) (jo : Nat → Int64) (o : Int32 × (Nat → Int64)) (A : Nat → Prop) := va_Qi (fun (r : Int32) (u : (Nat → Int64)) => o.1 = r ∧ o.2 = u) (fun u t => va_P (gD g) zCl (wRootJ g ad st sv isS hst spare undo seen dbef drec ptx plen ppos pcnt cmds stE stF lch llen u) t.heap) A
set_option maxHeartbeats 4000000 in
set_option maxRecDepth 100000 in
theorem c_L_digitSum (l : Launch) (hl0 : l.stackTraces = false) (g : GG) (ad : Nat → Nat) (st : SS) (sv : SS) (isS : Int32) (hst : Nat → SS) (spare : Int32) (undo : Int32) (seen : Nat → Int32) (dbef : Int32) (drec : Int32) (ptx : Nat → Int32) (plen : Int32) (ppos : Int32) (pcnt : Int32) (cmds : Nat → CC) (stE : Int32) (stF : Int32) (lch : Nat → Int32) (llen : Int32) (jo : Nat → Int64) (sz : Nat) (p1 : Int32) (fu : Nat) (o : Int32 × (Nat → Int64)) (hF : F_L_digitSum fu st jo p1 = some o) : Met l yL_digitSum w_L_digitSum r_L_digitSum (va_Pc [.ref (ad 0), .int p1, .ref (ad 74)] (zP g (wRootJ g ad st sv isS hst spare undo seen dbef drec ptx plen ppos pcnt cmds stE stF lch llen jo) sz)) (q_L_digitSum g ad st sv isS hst spare undo seen dbef drec ptx plen ppos pcnt cmds stE stF lch llen jo o (va_A (wRootJ g ad st sv isS hst spare undo seen dbef drec ptx plen ppos pcnt cmds stE stF lch llen jo) sz)) 1 6 (va_A (wRootJ g ad st sv isS hst spare undo seen dbef drec ptx plen ppos pcnt cmds stE stF lch llen jo) sz) := by
  refine va_MetW (cc := cL_digitSum) (maxL := 4) (ret := (some .int)) (by decide) rfl ?_
  intro p e s m args below meth c s₁ B hml hv
  obtain ⟨rfl, rfl, hP, hK, hD0, hB⟩ := hv
  have hx := B.exec
  have hb := B.bytes
  have hr := B.returns
  have htab : c.exceptionTable.toList = tableOf [(0, 9, 12, 26)] := vx_table (x := yL_digitSum) B (atoms_spec (ws := w_L_digitSum) B.pre _ List.mem_cons_self)
  have hts : ∀ w ∈ wU, w.before _ s = true := fun w h => atoms_spec (ws := w_L_digitSum) B.pre w (List.mem_cons_of_mem _ h)
  have hown : s.vm.findClass RL = some m.cls := findClass_of_methodNamed B.named
  have hlocks := B.notSynchronized
  have hD := hD0.self (sz := s.heap.size)
  generalize hAe : va_A (wRootJ g ad st sv isS hst spare undo seen dbef drec ptx plen ppos pcnt cmds stE stF lch llen jo) s.heap.size = A at hD hB ⊢
  have hA : ∀ q : Nat, s.heap.size ≤ q → A q := fun q h => by rw [← hAe]; exact Or.inr h
  have hS : va_S A s.heap s.heap [] := va_S.rf
  have hl := lv_entry ([.ref (ad 0), .int p1, .ref (ad 74)]) (n := 4) (Nat.le_of_ble_eq_true rfl)
  rw [lg_entry_eq]
  generalize (lg_sl ([.ref (ad 0), .int p1, .ref (ad 74)]) ++ List.replicate (4 - (lg_sl ([.ref (ad 0), .int p1, .ref (ad 74)])).length) Slot.unset).toArray = ls at hl ⊢
  have hl : lv_has ls 4 [(0, .ref (ad 0)), (1, .int p1), (2, .ref (ad 74))] := hl
  unfold F_L_digitSum at hF
  refine lv_aload_n hx hb dL_digitSum_0 rfl (lv_at hl 2 rfl) ?_
  refine lv_iconst (v := 0) hx hb dL_digitSum_1 (by decide) ?_
  refine lv_aload_n hx hb dL_digitSum_2 rfl (lv_at hl 0 rfl) ?_
  refine lv_iload_n hx hb dL_digitSum_3 rfl (lv_at hl 1 rfl) ?_
  obtain ⟨zo1, hzo1, hF⟩ := z_bind hF
  refine z_calliX (fun (_ : Unit) => (wRoot g ad st sv isS hst spare undo seen dbef drec ptx plen ppos pcnt cmds stE stF lch llen)) (fun (x : Nat × (Unit)) => (wRoot g ad st sv isS hst spare undo seen dbef drec ptx plen ppos pcnt cmds stE stF lch llen)) (fun (x : Nat × (Unit)) => xN x.1) zRJ (vx_runV (As := [.int p1]) (rest := [.int 0, .ref (ad 74)]) ⟨hx, hb, hml, hown, hts⟩ (c_X10_digitSum l hl0 g ad st sv isS hst spare undo seen dbef drec ptx plen ppos pcnt cmds stE stF lch llen _ p1 fu _ hzo1) (cwV 1 hts (gdV mU_869 mU_870 mU_871 mU_66 mU_872) rfl rfl rfl (by decide +kernel) ⟨Nat.le_of_ble_eq_true rfl, Nat.le_of_ble_eq_true rfl⟩) ⟨z_blind _ _ _ _, va_recv hK hP (ci := 6) (q0 := 0) rfl rfl, fun U hU hW => z_pre zRJ hP hD hK hB hS hA wRootJ_C wRootJ_N hU hW⟩ rfl rfl hl.1 rfl (lv_room (Nat.le_of_ble_eq_true rfl)) dL_digitSum_4 ⟨Nat.le_of_ble_eq_true rfl, Nat.le_of_ble_eq_true rfl⟩) hP hD hS hA wRootJ_C (fun _ => rfl) (fun _ => rfl) (fun zw1 ce q9 H locs hw hP hD hS hq1 hq2 hq3 => ?_) (fun r u H locs hw hP hD hS => ?_)
  · subst hw
    have hF : _ = some o := hF
    have hP : va_P (gD g) zCl (wRootJ g ad st sv isS hst spare undo seen dbef drec ptx plen ppos pcnt cmds stE stF lch llen jo) H := Eq.mp (congrArg (fun w => va_P (gD g) zCl w H) wRootJ_S) hP
    have hD : va_D A (wRootJ g ad st sv isS hst spare undo seen dbef drec ptx plen ppos pcnt cmds stE stF lch llen jo) := Eq.mp (congrArg (fun w => va_D A w) wRootJ_S) hD
    have hF := z_err hF
    have hq3 : s.vm.findClass (xN zw1.1) = some ce.cls := hq3
    by_cases zc2 : zw1.1 = 3
    · have hF := z_pos hF zc2
      rw [zc2] at hq3
      have hq3 : s.vm.findClass "java/util/NoSuchElementException" = some ce.cls := hq3
      refine vx_catch (own := RL) (name := "java/util/NoSuchElementException") (E := "java/util/NoSuchElementException") hown [] (⟨0, 9, 12, 26⟩ : ExceptionTableEntry) [] (htab.trans rfl) (fun _ h => absurd h List.not_mem_nil) rfl (by decide) (hts _ mU_690) (va_Nw.use rfl (hB.2.1.1 _ zn_705)) hq1 hq2 hq3 ?_
      refine lv_astore_n (lv' := [(3, .ref q9), (0, .ref (ad 0)), (1, .int p1), (2, .ref (ad 74))]) hx hb dL_digitSum_12 rfl hl (by decide) rfl (fun ls hl => ?_)
      refine lv_iconst (v := 1) hx hb dL_digitSum_13 (by decide) ?_
      have ho := (Option.some.inj hF).symm
      exact W.iret (v := 1) hx hb hr (fun t ht hW => ⟨⟨1, jo, rfl, ⟨by rw [ho], by rw [ho]⟩, z_end ht hP⟩, hS.F ht⟩) hS.2.2 dL_digitSum_14
    have hF := z_neg hF zc2
    exact absurd hF (by simp)
  · obtain ⟨za1, rfl, rfl⟩ := hw
    have hF := z_okk hF
    have hP : va_P (gD g) zCl (wRootJ g ad st sv isS hst spare undo seen dbef drec ptx plen ppos pcnt cmds stE stF lch llen jo) H := Eq.mp (congrArg (fun w => va_P (gD g) zCl w H) wRootJ_S) hP
    have hD : va_D A (wRootJ g ad st sv isS hst spare undo seen dbef drec ptx plen ppos pcnt cmds stE stF lch llen jo) := Eq.mp (congrArg (fun w => va_D A w) wRootJ_S) hD
    refine lv_i2l (v := (Int32.toInt64 za1)) hx hb dL_digitSum_7 rfl ?_
    refine va_last hx hb hK hP hD hS 74 2 rfl rfl (by unfold vp_in; decide) dL_digitSum_8 (fun H locs hP hD hS => ?_)
    have hP : va_P (gD g) zCl (wRootJ g ad st sv isS hst spare undo seen dbef drec ptx plen ppos pcnt cmds stE stF lch llen (vp_updL jo (Int32.toNatClampNeg 0) (Int32.toInt64 za1))) H := hP
    have hD : va_D A (wRootJ g ad st sv isS hst spare undo seen dbef drec ptx plen ppos pcnt cmds stE stF lch llen (vp_updL jo (Int32.toNatClampNeg 0) (Int32.toInt64 za1))) := hD
    refine lv_goto (tgt := 15) hx hb dL_digitSum_9 (by decide) ?_
    refine lv_iconst (v := 0) hx hb dL_digitSum_15 (by decide) ?_
    have ho := (Option.some.inj hF).symm
    exact W.iret (v := 0) hx hb hr (fun t ht hW => ⟨⟨0, (vp_updL jo (Int32.toNatClampNeg 0) (Int32.toInt64 za1)), rfl, ⟨by rw [ho], by rw [ho]⟩, z_end ht hP⟩, hS.F ht⟩) hS.2.2 dL_digitSum_16
abbrev w_L_numberAtRank : List Cond := .codeWith yL_numberAtRank cL_numberAtRank 4 (some .int) [(0, 9, 12, 51)] :: wU
abbrev r_L_numberAtRank : Room := { frames := 7, cells := 1, slots := 6, locals := 104 }
abbrev q_L_numberAtRank (g : GG) (ad : Nat → Nat) (st : SS) (sv : SS) (isS : Int32) (hst : Nat → SS) (spare : Int32) (undo : Int32) (seen : Nat → Int32) (dbef : Int32) (drec : Int32) (ptx : Nat → Int32) (plen : Int32) (ppos : Int32) (pcnt : Int32) (cmds : Nat → CC) (stE : Int32) (stF : Int32) (lch : Nat → Int32) (llen : Int32) (jo : Nat → Int64) (o : Int32 × (Nat → Int64)) (A : Nat → Prop) := va_Qi (fun (r : Int32) (u : (Nat → Int64)) => o.1 = r ∧ o.2 = u) (fun u t => va_P (gD g) zCl (wRootJ g ad st sv isS hst spare undo seen dbef drec ptx plen ppos pcnt cmds stE stF lch llen u) t.heap) A
set_option maxHeartbeats 4000000 in
set_option maxRecDepth 100000 in
theorem c_L_numberAtRank (l : Launch) (hl0 : l.stackTraces = false) (g : GG) (ad : Nat → Nat) (st : SS) (sv : SS) (isS : Int32) (hst : Nat → SS) (spare : Int32) (undo : Int32) (seen : Nat → Int32) (dbef : Int32) (drec : Int32) (ptx : Nat → Int32) (plen : Int32) (ppos : Int32) (pcnt : Int32) (cmds : Nat → CC) (stE : Int32) (stF : Int32) (lch : Nat → Int32) (llen : Int32) (jo : Nat → Int64) (sz : Nat) (p1 : Int32) (fu : Nat) (o : Int32 × (Nat → Int64)) (hF : F_L_numberAtRank fu st jo p1 = some o) : Met l yL_numberAtRank w_L_numberAtRank r_L_numberAtRank (va_Pc [.ref (ad 0), .int p1, .ref (ad 74)] (zP g (wRootJ g ad st sv isS hst spare undo seen dbef drec ptx plen ppos pcnt cmds stE stF lch llen jo) sz)) (q_L_numberAtRank g ad st sv isS hst spare undo seen dbef drec ptx plen ppos pcnt cmds stE stF lch llen jo o (va_A (wRootJ g ad st sv isS hst spare undo seen dbef drec ptx plen ppos pcnt cmds stE stF lch llen jo) sz)) 1 6 (va_A (wRootJ g ad st sv isS hst spare undo seen dbef drec ptx plen ppos pcnt cmds stE stF lch llen jo) sz) := by
  refine va_MetW (cc := cL_numberAtRank) (maxL := 4) (ret := (some .int)) (by decide) rfl ?_
  intro p e s m args below meth c s₁ B hml hv
  obtain ⟨rfl, rfl, hP, hK, hD0, hB⟩ := hv
  have hx := B.exec
  have hb := B.bytes
  have hr := B.returns
  have htab : c.exceptionTable.toList = tableOf [(0, 9, 12, 51)] := vx_table (x := yL_numberAtRank) B (atoms_spec (ws := w_L_numberAtRank) B.pre _ List.mem_cons_self)
  have hts : ∀ w ∈ wU, w.before _ s = true := fun w h => atoms_spec (ws := w_L_numberAtRank) B.pre w (List.mem_cons_of_mem _ h)
  have hown : s.vm.findClass RL = some m.cls := findClass_of_methodNamed B.named
  have hlocks := B.notSynchronized
  have hD := hD0.self (sz := s.heap.size)
  generalize hAe : va_A (wRootJ g ad st sv isS hst spare undo seen dbef drec ptx plen ppos pcnt cmds stE stF lch llen jo) s.heap.size = A at hD hB ⊢
  have hA : ∀ q : Nat, s.heap.size ≤ q → A q := fun q h => by rw [← hAe]; exact Or.inr h
  have hS : va_S A s.heap s.heap [] := va_S.rf
  have hl := lv_entry ([.ref (ad 0), .int p1, .ref (ad 74)]) (n := 4) (Nat.le_of_ble_eq_true rfl)
  rw [lg_entry_eq]
  generalize (lg_sl ([.ref (ad 0), .int p1, .ref (ad 74)]) ++ List.replicate (4 - (lg_sl ([.ref (ad 0), .int p1, .ref (ad 74)])).length) Slot.unset).toArray = ls at hl ⊢
  have hl : lv_has ls 4 [(0, .ref (ad 0)), (1, .int p1), (2, .ref (ad 74))] := hl
  unfold F_L_numberAtRank at hF
  refine lv_aload_n hx hb dL_numberAtRank_0 rfl (lv_at hl 2 rfl) ?_
  refine lv_iconst (v := 0) hx hb dL_numberAtRank_1 (by decide) ?_
  refine lv_aload_n hx hb dL_numberAtRank_2 rfl (lv_at hl 0 rfl) ?_
  refine lv_iload_n hx hb dL_numberAtRank_3 rfl (lv_at hl 1 rfl) ?_
  obtain ⟨zo1, hzo1, hF⟩ := z_bind hF
  refine z_calliX (fun (_ : Unit) => (wRoot g ad st sv isS hst spare undo seen dbef drec ptx plen ppos pcnt cmds stE stF lch llen)) (fun (x : Nat × (Unit)) => (wRoot g ad st sv isS hst spare undo seen dbef drec ptx plen ppos pcnt cmds stE stF lch llen)) (fun (x : Nat × (Unit)) => xN x.1) zRJ (vx_runV (As := [.int p1]) (rest := [.int 0, .ref (ad 74)]) ⟨hx, hb, hml, hown, hts⟩ (c_X10_numberAtRank l hl0 g ad st sv isS hst spare undo seen dbef drec ptx plen ppos pcnt cmds stE stF lch llen _ p1 fu _ hzo1) (cwV 1 hts (gdV mU_876 mU_877 mU_878 mU_66 mU_879) rfl rfl rfl (by decide +kernel) ⟨Nat.le_of_ble_eq_true rfl, Nat.le_of_ble_eq_true rfl⟩) ⟨z_blind _ _ _ _, va_recv hK hP (ci := 6) (q0 := 0) rfl rfl, fun U hU hW => z_pre zRJ hP hD hK hB hS hA wRootJ_C wRootJ_N hU hW⟩ rfl rfl hl.1 rfl (lv_room (Nat.le_of_ble_eq_true rfl)) dL_numberAtRank_4 ⟨Nat.le_of_ble_eq_true rfl, Nat.le_of_ble_eq_true rfl⟩) hP hD hS hA wRootJ_C (fun _ => rfl) (fun _ => rfl) (fun zw1 ce q9 H locs hw hP hD hS hq1 hq2 hq3 => ?_) (fun r u H locs hw hP hD hS => ?_)
  · subst hw
    have hF : _ = some o := hF
    have hP : va_P (gD g) zCl (wRootJ g ad st sv isS hst spare undo seen dbef drec ptx plen ppos pcnt cmds stE stF lch llen jo) H := Eq.mp (congrArg (fun w => va_P (gD g) zCl w H) wRootJ_S) hP
    have hD : va_D A (wRootJ g ad st sv isS hst spare undo seen dbef drec ptx plen ppos pcnt cmds stE stF lch llen jo) := Eq.mp (congrArg (fun w => va_D A w) wRootJ_S) hD
    have hF := z_err hF
    have hq3 : s.vm.findClass (xN zw1.1) = some ce.cls := hq3
    by_cases zc2 : zw1.1 = 4
    · have hF := z_pos hF zc2
      rw [zc2] at hq3
      have hq3 : s.vm.findClass "java/lang/IndexOutOfBoundsException" = some ce.cls := hq3
      refine vx_catch (own := RL) (name := "java/lang/IndexOutOfBoundsException") (E := "java/lang/IndexOutOfBoundsException") hown [] (⟨0, 9, 12, 51⟩ : ExceptionTableEntry) [] (htab.trans rfl) (fun _ h => absurd h List.not_mem_nil) rfl (by decide) (hts _ mU_796) (va_Nw.use rfl (hB.2.1.1 _ zn_826)) hq1 hq2 hq3 ?_
      refine lv_astore_n (lv' := [(3, .ref q9), (0, .ref (ad 0)), (1, .int p1), (2, .ref (ad 74))]) hx hb dL_numberAtRank_12 rfl hl (by decide) rfl (fun ls hl => ?_)
      refine lv_iconst (v := 1) hx hb dL_numberAtRank_13 (by decide) ?_
      have ho := (Option.some.inj hF).symm
      exact W.iret (v := 1) hx hb hr (fun t ht hW => ⟨⟨1, jo, rfl, ⟨by rw [ho], by rw [ho]⟩, z_end ht hP⟩, hS.F ht⟩) hS.2.2 dL_numberAtRank_14
    have hF := z_neg hF zc2
    exact absurd hF (by simp)
  · obtain ⟨za1, rfl, rfl⟩ := hw
    have hF := z_okk hF
    have hP : va_P (gD g) zCl (wRootJ g ad st sv isS hst spare undo seen dbef drec ptx plen ppos pcnt cmds stE stF lch llen jo) H := Eq.mp (congrArg (fun w => va_P (gD g) zCl w H) wRootJ_S) hP
    have hD : va_D A (wRootJ g ad st sv isS hst spare undo seen dbef drec ptx plen ppos pcnt cmds stE stF lch llen jo) := Eq.mp (congrArg (fun w => va_D A w) wRootJ_S) hD
    refine lv_i2l (v := (Int32.toInt64 za1)) hx hb dL_numberAtRank_7 rfl ?_
    refine va_last hx hb hK hP hD hS 74 2 rfl rfl (by unfold vp_in; decide) dL_numberAtRank_8 (fun H locs hP hD hS => ?_)
    have hP : va_P (gD g) zCl (wRootJ g ad st sv isS hst spare undo seen dbef drec ptx plen ppos pcnt cmds stE stF lch llen (vp_updL jo (Int32.toNatClampNeg 0) (Int32.toInt64 za1))) H := hP
    have hD : va_D A (wRootJ g ad st sv isS hst spare undo seen dbef drec ptx plen ppos pcnt cmds stE stF lch llen (vp_updL jo (Int32.toNatClampNeg 0) (Int32.toInt64 za1))) := hD
    refine lv_goto (tgt := 15) hx hb dL_numberAtRank_9 (by decide) ?_
    refine lv_iconst (v := 0) hx hb dL_numberAtRank_15 (by decide) ?_
    have ho := (Option.some.inj hF).symm
    exact W.iret (v := 0) hx hb hr (fun t ht hW => ⟨⟨0, (vp_updL jo (Int32.toNatClampNeg 0) (Int32.toInt64 za1)), rfl, ⟨by rw [ho], by rw [ho]⟩, z_end ht hP⟩, hS.F ht⟩) hS.2.2 dL_numberAtRank_16
abbrev w_L_rounded : List Cond := .codeWith yL_rounded cL_rounded 6 (some .int) [(0, 11, 14, 26), (0, 11, 18, 13)] :: wU
abbrev r_L_rounded : Room := { frames := 8, cells := 3, slots := 18, locals := 150 }
abbrev q_L_rounded (g : GG) (ad : Nat → Nat) (st : SS) (sv : SS) (isS : Int32) (hst : Nat → SS) (spare : Int32) (undo : Int32) (seen : Nat → Int32) (dbef : Int32) (drec : Int32) (ptx : Nat → Int32) (plen : Int32) (ppos : Int32) (pcnt : Int32) (cmds : Nat → CC) (stE : Int32) (stF : Int32) (lch : Nat → Int32) (llen : Int32) (jo : Nat → Int64) (o : Int32 × (Nat → Int64)) (A : Nat → Prop) := va_Qi (fun (r : Int32) (u : (Nat → Int64)) => o.1 = r ∧ o.2 = u) (fun u t => va_P (gD g) zCl (wRootJ g ad st sv isS hst spare undo seen dbef drec ptx plen ppos pcnt cmds stE stF lch llen u) t.heap) A
set_option maxHeartbeats 4000000 in
set_option maxRecDepth 100000 in
theorem c_L_rounded (l : Launch) (hl0 : l.stackTraces = false) (g : GG) (ad : Nat → Nat) (st : SS) (sv : SS) (isS : Int32) (hst : Nat → SS) (spare : Int32) (undo : Int32) (seen : Nat → Int32) (dbef : Int32) (drec : Int32) (ptx : Nat → Int32) (plen : Int32) (ppos : Int32) (pcnt : Int32) (cmds : Nat → CC) (stE : Int32) (stF : Int32) (lch : Nat → Int32) (llen : Int32) (jo : Nat → Int64) (sz : Nat) (p1 : Int32) (p2 : Int32) (p3 : Int32) (fu : Nat) (o : Int32 × (Nat → Int64)) (hF : F_L_rounded fu st jo p1 p2 p3 = some o) : Met l yL_rounded w_L_rounded r_L_rounded (va_Pc [.ref (ad 0), .int p1, .int p2, .int p3, .ref (ad 74)] (zP g (wRootJ g ad st sv isS hst spare undo seen dbef drec ptx plen ppos pcnt cmds stE stF lch llen jo) sz)) (q_L_rounded g ad st sv isS hst spare undo seen dbef drec ptx plen ppos pcnt cmds stE stF lch llen jo o (va_A (wRootJ g ad st sv isS hst spare undo seen dbef drec ptx plen ppos pcnt cmds stE stF lch llen jo) sz)) 3 18 (va_A (wRootJ g ad st sv isS hst spare undo seen dbef drec ptx plen ppos pcnt cmds stE stF lch llen jo) sz) := by
  refine va_MetW (cc := cL_rounded) (maxL := 6) (ret := (some .int)) (by decide) rfl ?_
  intro p e s m args below meth c s₁ B hml hv
  obtain ⟨rfl, rfl, hP, hK, hD0, hB⟩ := hv
  have hx := B.exec
  have hb := B.bytes
  have hr := B.returns
  have htab : c.exceptionTable.toList = tableOf [(0, 11, 14, 26), (0, 11, 18, 13)] := vx_table (x := yL_rounded) B (atoms_spec (ws := w_L_rounded) B.pre _ List.mem_cons_self)
  have hts : ∀ w ∈ wU, w.before _ s = true := fun w h => atoms_spec (ws := w_L_rounded) B.pre w (List.mem_cons_of_mem _ h)
  have hown : s.vm.findClass RL = some m.cls := findClass_of_methodNamed B.named
  have hlocks := B.notSynchronized
  have hD := hD0.self (sz := s.heap.size)
  generalize hAe : va_A (wRootJ g ad st sv isS hst spare undo seen dbef drec ptx plen ppos pcnt cmds stE stF lch llen jo) s.heap.size = A at hD hB ⊢
  have hA : ∀ q : Nat, s.heap.size ≤ q → A q := fun q h => by rw [← hAe]; exact Or.inr h
  have hS : va_S A s.heap s.heap [] := va_S.rf
  have hl := lv_entry ([.ref (ad 0), .int p1, .int p2, .int p3, .ref (ad 74)]) (n := 6) (Nat.le_of_ble_eq_true rfl)
  rw [lg_entry_eq]
  generalize (lg_sl ([.ref (ad 0), .int p1, .int p2, .int p3, .ref (ad 74)]) ++ List.replicate (6 - (lg_sl ([.ref (ad 0), .int p1, .int p2, .int p3, .ref (ad 74)])).length) Slot.unset).toArray = ls at hl ⊢
  have hl : lv_has ls 6 [(0, .ref (ad 0)), (1, .int p1), (2, .int p2), (3, .int p3), (4, .ref (ad 74))] := hl
  unfold F_L_rounded at hF
  refine lv_aload hx hb dL_rounded_0 (lv_at hl 4 rfl) ?_
  refine lv_iconst (v := 0) hx hb dL_rounded_2 (by decide) ?_
  refine lv_aload_n hx hb dL_rounded_3 rfl (lv_at hl 0 rfl) ?_
  refine lv_iload_n hx hb dL_rounded_4 rfl (lv_at hl 1 rfl) ?_
  refine lv_iload_n hx hb dL_rounded_5 rfl (lv_at hl 2 rfl) ?_
  refine lv_iload_n hx hb dL_rounded_6 rfl (lv_at hl 3 rfl) ?_
  obtain ⟨zo1, hzo1, hF⟩ := z_bind hF
  refine z_calllX (fun (_ : Unit) => (wRoot g ad st sv isS hst spare undo seen dbef drec ptx plen ppos pcnt cmds stE stF lch llen)) (fun (x : Nat × (Unit)) => (wRoot g ad st sv isS hst spare undo seen dbef drec ptx plen ppos pcnt cmds stE stF lch llen)) (fun (x : Nat × (Unit)) => xN x.1) zRJ (vx_runV (As := [.int p1, .int p2, .int p3]) (rest := [.int 0, .ref (ad 74)]) ⟨hx, hb, hml, hown, hts⟩ (c_X10_rounded l hl0 g ad st sv isS hst spare undo seen dbef drec ptx plen ppos pcnt cmds stE stF lch llen _ p1 p2 p3 fu _ hzo1) (cwV 3 hts (gdV mU_892 mU_893 mU_894 mU_66 mU_895) rfl rfl rfl (by decide +kernel) ⟨Nat.le_of_ble_eq_true rfl, Nat.le_of_ble_eq_true rfl⟩) ⟨z_blind _ _ _ _, va_recv hK hP (ci := 6) (q0 := 0) rfl rfl, fun U hU hW => z_pre zRJ hP hD hK hB hS hA wRootJ_C wRootJ_N hU hW⟩ rfl rfl hl.1 rfl (lv_room (Nat.le_of_ble_eq_true rfl)) dL_rounded_7 ⟨Nat.le_of_ble_eq_true rfl, Nat.le_of_ble_eq_true rfl⟩) hP hD hS hA wRootJ_C (fun _ => rfl) (fun _ => rfl) (fun zw1 ce q9 H locs hw hP hD hS hq1 hq2 hq3 => ?_) (fun r u H locs hw hP hD hS => ?_)
  · subst hw
    have hF : _ = some o := hF
    have hP : va_P (gD g) zCl (wRootJ g ad st sv isS hst spare undo seen dbef drec ptx plen ppos pcnt cmds stE stF lch llen jo) H := Eq.mp (congrArg (fun w => va_P (gD g) zCl w H) wRootJ_S) hP
    have hD : va_D A (wRootJ g ad st sv isS hst spare undo seen dbef drec ptx plen ppos pcnt cmds stE stF lch llen jo) := Eq.mp (congrArg (fun w => va_D A w) wRootJ_S) hD
    have hF := z_err hF
    have hq3 : s.vm.findClass (xN zw1.1) = some ce.cls := hq3
    by_cases zc2 : zw1.1 = 0
    · have hF := z_pos hF zc2
      rw [zc2] at hq3
      have hq3 : s.vm.findClass "java/lang/IllegalArgumentException" = some ce.cls := hq3
      refine vx_catch (own := RL) (name := "java/lang/IllegalArgumentException") (E := "java/lang/IllegalArgumentException") hown [(⟨0, 11, 14, 26⟩ : ExceptionTableEntry)] (⟨0, 11, 18, 13⟩ : ExceptionTableEntry) [] (htab.trans rfl) (List.forall_mem_cons.mpr ⟨(Or.inr ⟨by decide, "java/util/NoSuchElementException", hts _ mU_690, hB.2.1.2.1 ("java/lang/IllegalArgumentException", "java/util/NoSuchElementException") (by decide +kernel)⟩), (fun _ h => absurd h List.not_mem_nil)⟩) rfl (by decide) (hts _ mU_436) (va_Nw.use rfl (hB.2.1.1 _ zn_458)) hq1 hq2 hq3 ?_
      refine lv_astore (lv' := [(5, .ref q9), (0, .ref (ad 0)), (1, .int p1), (2, .int p2), (3, .int p3), (4, .ref (ad 74))]) hx hb dL_rounded_18 hl (by decide) rfl (fun ls hl => ?_)
      refine lv_iconst (v := 2) hx hb dL_rounded_20 (by decide) ?_
      have ho := (Option.some.inj hF).symm
      exact W.iret (v := 2) hx hb hr (fun t ht hW => ⟨⟨2, jo, rfl, ⟨by rw [ho], by rw [ho]⟩, z_end ht hP⟩, hS.F ht⟩) hS.2.2 dL_rounded_21
    have hF := z_neg hF zc2
    by_cases zc3 : zw1.1 = 3
    · have hF := z_pos hF zc3
      rw [zc3] at hq3
      have hq3 : s.vm.findClass "java/util/NoSuchElementException" = some ce.cls := hq3
      refine vx_catch (own := RL) (name := "java/util/NoSuchElementException") (E := "java/util/NoSuchElementException") hown [] (⟨0, 11, 14, 26⟩ : ExceptionTableEntry) [(⟨0, 11, 18, 13⟩ : ExceptionTableEntry)] (htab.trans rfl) (fun _ h => absurd h List.not_mem_nil) rfl (by decide) (hts _ mU_690) (va_Nw.use rfl (hB.2.1.1 _ zn_705)) hq1 hq2 hq3 ?_
      refine lv_astore (lv' := [(5, .ref q9), (0, .ref (ad 0)), (1, .int p1), (2, .int p2), (3, .int p3), (4, .ref (ad 74))]) hx hb dL_rounded_14 hl (by decide) rfl (fun ls hl => ?_)
      refine lv_iconst (v := 1) hx hb dL_rounded_16 (by decide) ?_
      have ho := (Option.some.inj hF).symm
      exact W.iret (v := 1) hx hb hr (fun t ht hW => ⟨⟨1, jo, rfl, ⟨by rw [ho], by rw [ho]⟩, z_end ht hP⟩, hS.F ht⟩) hS.2.2 dL_rounded_17
    have hF := z_neg hF zc3
    exact absurd hF (by simp)
  · obtain ⟨za1, rfl, rfl⟩ := hw
    have hF := z_okk hF
    have hP : va_P (gD g) zCl (wRootJ g ad st sv isS hst spare undo seen dbef drec ptx plen ppos pcnt cmds stE stF lch llen jo) H := Eq.mp (congrArg (fun w => va_P (gD g) zCl w H) wRootJ_S) hP
    have hD : va_D A (wRootJ g ad st sv isS hst spare undo seen dbef drec ptx plen ppos pcnt cmds stE stF lch llen jo) := Eq.mp (congrArg (fun w => va_D A w) wRootJ_S) hD
    refine va_last hx hb hK hP hD hS 74 2 rfl rfl (by unfold vp_in; decide) dL_rounded_10 (fun H locs hP hD hS => ?_)
    have hP : va_P (gD g) zCl (wRootJ g ad st sv isS hst spare undo seen dbef drec ptx plen ppos pcnt cmds stE stF lch llen (vp_updL jo (Int32.toNatClampNeg 0) za1)) H := hP
    have hD : va_D A (wRootJ g ad st sv isS hst spare undo seen dbef drec ptx plen ppos pcnt cmds stE stF lch llen (vp_updL jo (Int32.toNatClampNeg 0) za1)) := hD
    refine lv_goto (tgt := 22) hx hb dL_rounded_11 (by decide) ?_
    refine lv_iconst (v := 0) hx hb dL_rounded_22 (by decide) ?_
    have ho := (Option.some.inj hF).symm
    exact W.iret (v := 0) hx hb hr (fun t ht hW => ⟨⟨0, (vp_updL jo (Int32.toNatClampNeg 0) za1), rfl, ⟨by rw [ho], by rw [ho]⟩, z_end ht hP⟩, hS.F ht⟩) hS.2.2 dL_rounded_23
abbrev w_L_part : List Cond := .codeWith yL_part cL_part 6 (some .int) [(0, 11, 14, 26), (0, 11, 18, 13), (0, 11, 22, 51)] :: wU
abbrev r_L_part : Room := { frames := 8, cells := 2, slots := 12, locals := 134 }
abbrev q_L_part (g : GG) (ad : Nat → Nat) (st : SS) (sv : SS) (isS : Int32) (hst : Nat → SS) (spare : Int32) (undo : Int32) (seen : Nat → Int32) (dbef : Int32) (drec : Int32) (ptx : Nat → Int32) (plen : Int32) (ppos : Int32) (pcnt : Int32) (cmds : Nat → CC) (stE : Int32) (stF : Int32) (lch : Nat → Int32) (llen : Int32) (jo : Nat → Int64) (o : Int32 × (Nat → Int64)) (A : Nat → Prop) := va_Qi (fun (r : Int32) (u : (Nat → Int64)) => o.1 = r ∧ o.2 = u) (fun u t => va_P (gD g) zCl (wRootJ g ad st sv isS hst spare undo seen dbef drec ptx plen ppos pcnt cmds stE stF lch llen u) t.heap) A
set_option maxHeartbeats 4000000 in
set_option maxRecDepth 100000 in
theorem c_L_part (l : Launch) (hl0 : l.stackTraces = false) (g : GG) (ad : Nat → Nat) (st : SS) (sv : SS) (isS : Int32) (hst : Nat → SS) (spare : Int32) (undo : Int32) (seen : Nat → Int32) (dbef : Int32) (drec : Int32) (ptx : Nat → Int32) (plen : Int32) (ppos : Int32) (pcnt : Int32) (cmds : Nat → CC) (stE : Int32) (stF : Int32) (lch : Nat → Int32) (llen : Int32) (jo : Nat → Int64) (sz : Nat) (p1 : Int32) (p2 : Int32) (p3 : Int32) (fu : Nat) (o : Int32 × (Nat → Int64)) (hF : F_L_part fu st jo p1 p2 p3 = some o) : Met l yL_part w_L_part r_L_part (va_Pc [.ref (ad 0), .int p1, .int p2, .int p3, .ref (ad 74)] (zP g (wRootJ g ad st sv isS hst spare undo seen dbef drec ptx plen ppos pcnt cmds stE stF lch llen jo) sz)) (q_L_part g ad st sv isS hst spare undo seen dbef drec ptx plen ppos pcnt cmds stE stF lch llen jo o (va_A (wRootJ g ad st sv isS hst spare undo seen dbef drec ptx plen ppos pcnt cmds stE stF lch llen jo) sz)) 2 12 (va_A (wRootJ g ad st sv isS hst spare undo seen dbef drec ptx plen ppos pcnt cmds stE stF lch llen jo) sz) := by
  refine va_MetW (cc := cL_part) (maxL := 6) (ret := (some .int)) (by decide) rfl ?_
  intro p e s m args below meth c s₁ B hml hv
  obtain ⟨rfl, rfl, hP, hK, hD0, hB⟩ := hv
  have hx := B.exec
  have hb := B.bytes
  have hr := B.returns
  have htab : c.exceptionTable.toList = tableOf [(0, 11, 14, 26), (0, 11, 18, 13), (0, 11, 22, 51)] := vx_table (x := yL_part) B (atoms_spec (ws := w_L_part) B.pre _ List.mem_cons_self)
  have hts : ∀ w ∈ wU, w.before _ s = true := fun w h => atoms_spec (ws := w_L_part) B.pre w (List.mem_cons_of_mem _ h)
  have hown : s.vm.findClass RL = some m.cls := findClass_of_methodNamed B.named
  have hlocks := B.notSynchronized
  have hD := hD0.self (sz := s.heap.size)
  generalize hAe : va_A (wRootJ g ad st sv isS hst spare undo seen dbef drec ptx plen ppos pcnt cmds stE stF lch llen jo) s.heap.size = A at hD hB ⊢
  have hA : ∀ q : Nat, s.heap.size ≤ q → A q := fun q h => by rw [← hAe]; exact Or.inr h
  have hS : va_S A s.heap s.heap [] := va_S.rf
  have hl := lv_entry ([.ref (ad 0), .int p1, .int p2, .int p3, .ref (ad 74)]) (n := 6) (Nat.le_of_ble_eq_true rfl)
  rw [lg_entry_eq]
  generalize (lg_sl ([.ref (ad 0), .int p1, .int p2, .int p3, .ref (ad 74)]) ++ List.replicate (6 - (lg_sl ([.ref (ad 0), .int p1, .int p2, .int p3, .ref (ad 74)])).length) Slot.unset).toArray = ls at hl ⊢
  have hl : lv_has ls 6 [(0, .ref (ad 0)), (1, .int p1), (2, .int p2), (3, .int p3), (4, .ref (ad 74))] := hl
  unfold F_L_part at hF
  refine lv_aload hx hb dL_part_0 (lv_at hl 4 rfl) ?_
  refine lv_iconst (v := 0) hx hb dL_part_2 (by decide) ?_
  refine lv_aload_n hx hb dL_part_3 rfl (lv_at hl 0 rfl) ?_
  refine lv_iload_n hx hb dL_part_4 rfl (lv_at hl 1 rfl) ?_
  refine lv_iload_n hx hb dL_part_5 rfl (lv_at hl 2 rfl) ?_
  refine lv_iload_n hx hb dL_part_6 rfl (lv_at hl 3 rfl) ?_
  obtain ⟨zo1, hzo1, hF⟩ := z_bind hF
  refine z_calllX (fun (_ : Unit) => (wRoot g ad st sv isS hst spare undo seen dbef drec ptx plen ppos pcnt cmds stE stF lch llen)) (fun (x : Nat × (Unit)) => (wRoot g ad st sv isS hst spare undo seen dbef drec ptx plen ppos pcnt cmds stE stF lch llen)) (fun (x : Nat × (Unit)) => xN x.1) zRJ (vx_runV (As := [.int p1, .int p2, .int p3]) (rest := [.int 0, .ref (ad 74)]) ⟨hx, hb, hml, hown, hts⟩ (c_X10_part l hl0 g ad st sv isS hst spare undo seen dbef drec ptx plen ppos pcnt cmds stE stF lch llen _ p1 p2 p3 fu _ hzo1) (cwV 3 hts (gdV mU_900 mU_901 mU_902 mU_66 mU_903) rfl rfl rfl (by decide +kernel) ⟨Nat.le_of_ble_eq_true rfl, Nat.le_of_ble_eq_true rfl⟩) ⟨z_blind _ _ _ _, va_recv hK hP (ci := 6) (q0 := 0) rfl rfl, fun U hU hW => z_pre zRJ hP hD hK hB hS hA wRootJ_C wRootJ_N hU hW⟩ rfl rfl hl.1 rfl (lv_room (Nat.le_of_ble_eq_true rfl)) dL_part_7 ⟨Nat.le_of_ble_eq_true rfl, Nat.le_of_ble_eq_true rfl⟩) hP hD hS hA wRootJ_C (fun _ => rfl) (fun _ => rfl) (fun zw1 ce q9 H locs hw hP hD hS hq1 hq2 hq3 => ?_) (fun r u H locs hw hP hD hS => ?_)
  · subst hw
    have hF : _ = some o := hF
    have hP : va_P (gD g) zCl (wRootJ g ad st sv isS hst spare undo seen dbef drec ptx plen ppos pcnt cmds stE stF lch llen jo) H := Eq.mp (congrArg (fun w => va_P (gD g) zCl w H) wRootJ_S) hP
    have hD : va_D A (wRootJ g ad st sv isS hst spare undo seen dbef drec ptx plen ppos pcnt cmds stE stF lch llen jo) := Eq.mp (congrArg (fun w => va_D A w) wRootJ_S) hD
    have hF := z_err hF
    have hq3 : s.vm.findClass (xN zw1.1) = some ce.cls := hq3
    by_cases zc2 : zw1.1 = 0
    · have hF := z_pos hF zc2
      rw [zc2] at hq3
      have hq3 : s.vm.findClass "java/lang/IllegalArgumentException" = some ce.cls := hq3
      refine vx_catch (own := RL) (name := "java/lang/IllegalArgumentException") (E := "java/lang/IllegalArgumentException") hown [(⟨0, 11, 14, 26⟩ : ExceptionTableEntry)] (⟨0, 11, 18, 13⟩ : ExceptionTableEntry) [(⟨0, 11, 22, 51⟩ : ExceptionTableEntry)] (htab.trans rfl) (List.forall_mem_cons.mpr ⟨(Or.inr ⟨by decide, "java/util/NoSuchElementException", hts _ mU_690, hB.2.1.2.1 ("java/lang/IllegalArgumentException", "java/util/NoSuchElementException") (by decide +kernel)⟩), (fun _ h => absurd h List.not_mem_nil)⟩) rfl (by decide) (hts _ mU_436) (va_Nw.use rfl (hB.2.1.1 _ zn_458)) hq1 hq2 hq3 ?_
      refine lv_astore (lv' := [(5, .ref q9), (0, .ref (ad 0)), (1, .int p1), (2, .int p2), (3, .int p3), (4, .ref (ad 74))]) hx hb dL_part_18 hl (by decide) rfl (fun ls hl => ?_)
      refine lv_iconst (v := 2) hx hb dL_part_20 (by decide) ?_
      have ho := (Option.some.inj hF).symm
      exact W.iret (v := 2) hx hb hr (fun t ht hW => ⟨⟨2, jo, rfl, ⟨by rw [ho], by rw [ho]⟩, z_end ht hP⟩, hS.F ht⟩) hS.2.2 dL_part_21
    have hF := z_neg hF zc2
    by_cases zc3 : zw1.1 = 3
    · have hF := z_pos hF zc3
      rw [zc3] at hq3
      have hq3 : s.vm.findClass "java/util/NoSuchElementException" = some ce.cls := hq3
      refine vx_catch (own := RL) (name := "java/util/NoSuchElementException") (E := "java/util/NoSuchElementException") hown [] (⟨0, 11, 14, 26⟩ : ExceptionTableEntry) [(⟨0, 11, 18, 13⟩ : ExceptionTableEntry), (⟨0, 11, 22, 51⟩ : ExceptionTableEntry)] (htab.trans rfl) (fun _ h => absurd h List.not_mem_nil) rfl (by decide) (hts _ mU_690) (va_Nw.use rfl (hB.2.1.1 _ zn_705)) hq1 hq2 hq3 ?_
      refine lv_astore (lv' := [(5, .ref q9), (0, .ref (ad 0)), (1, .int p1), (2, .int p2), (3, .int p3), (4, .ref (ad 74))]) hx hb dL_part_14 hl (by decide) rfl (fun ls hl => ?_)
      refine lv_iconst (v := 1) hx hb dL_part_16 (by decide) ?_
      have ho := (Option.some.inj hF).symm
      exact W.iret (v := 1) hx hb hr (fun t ht hW => ⟨⟨1, jo, rfl, ⟨by rw [ho], by rw [ho]⟩, z_end ht hP⟩, hS.F ht⟩) hS.2.2 dL_part_17
    have hF := z_neg hF zc3
    by_cases zc4 : zw1.1 = 4
    · have hF := z_pos hF zc4
      rw [zc4] at hq3
      have hq3 : s.vm.findClass "java/lang/IndexOutOfBoundsException" = some ce.cls := hq3
      refine vx_catch (own := RL) (name := "java/lang/IndexOutOfBoundsException") (E := "java/lang/IndexOutOfBoundsException") hown [(⟨0, 11, 14, 26⟩ : ExceptionTableEntry), (⟨0, 11, 18, 13⟩ : ExceptionTableEntry)] (⟨0, 11, 22, 51⟩ : ExceptionTableEntry) [] (htab.trans rfl) (List.forall_mem_cons.mpr ⟨(Or.inr ⟨by decide, "java/util/NoSuchElementException", hts _ mU_690, hB.2.1.2.1 ("java/lang/IndexOutOfBoundsException", "java/util/NoSuchElementException") (by decide +kernel)⟩), (List.forall_mem_cons.mpr ⟨(Or.inr ⟨by decide, "java/lang/IllegalArgumentException", hts _ mU_436, hB.2.1.2.1 ("java/lang/IndexOutOfBoundsException", "java/lang/IllegalArgumentException") (by decide +kernel)⟩), (fun _ h => absurd h List.not_mem_nil)⟩)⟩) rfl (by decide) (hts _ mU_796) (va_Nw.use rfl (hB.2.1.1 _ zn_826)) hq1 hq2 hq3 ?_
      refine lv_astore (lv' := [(5, .ref q9), (0, .ref (ad 0)), (1, .int p1), (2, .int p2), (3, .int p3), (4, .ref (ad 74))]) hx hb dL_part_22 hl (by decide) rfl (fun ls hl => ?_)
      refine lv_iconst (v := 3) hx hb dL_part_24 (by decide) ?_
      have ho := (Option.some.inj hF).symm
      exact W.iret (v := 3) hx hb hr (fun t ht hW => ⟨⟨3, jo, rfl, ⟨by rw [ho], by rw [ho]⟩, z_end ht hP⟩, hS.F ht⟩) hS.2.2 dL_part_25
    have hF := z_neg hF zc4
    exact absurd hF (by simp)
  · obtain ⟨za1, rfl, rfl⟩ := hw
    have hF := z_okk hF
    have hP : va_P (gD g) zCl (wRootJ g ad st sv isS hst spare undo seen dbef drec ptx plen ppos pcnt cmds stE stF lch llen jo) H := Eq.mp (congrArg (fun w => va_P (gD g) zCl w H) wRootJ_S) hP
    have hD : va_D A (wRootJ g ad st sv isS hst spare undo seen dbef drec ptx plen ppos pcnt cmds stE stF lch llen jo) := Eq.mp (congrArg (fun w => va_D A w) wRootJ_S) hD
    refine va_last hx hb hK hP hD hS 74 2 rfl rfl (by unfold vp_in; decide) dL_part_10 (fun H locs hP hD hS => ?_)
    have hP : va_P (gD g) zCl (wRootJ g ad st sv isS hst spare undo seen dbef drec ptx plen ppos pcnt cmds stE stF lch llen (vp_updL jo (Int32.toNatClampNeg 0) za1)) H := hP
    have hD : va_D A (wRootJ g ad st sv isS hst spare undo seen dbef drec ptx plen ppos pcnt cmds stE stF lch llen (vp_updL jo (Int32.toNatClampNeg 0) za1)) := hD
    refine lv_goto (tgt := 26) hx hb dL_part_11 (by decide) ?_
    refine lv_iconst (v := 0) hx hb dL_part_26 (by decide) ?_
    have ho := (Option.some.inj hF).symm
    exact W.iret (v := 0) hx hb hr (fun t ht hW => ⟨⟨0, (vp_updL jo (Int32.toNatClampNeg 0) za1), rfl, ⟨by rw [ho], by rw [ho]⟩, z_end ht hP⟩, hS.F ht⟩) hS.2.2 dL_part_27
abbrev w_L_carries : List Cond := .codeWith yL_carries cL_carries 6 (some .int) [(0, 12, 15, 26), (0, 12, 19, 13)] :: wU
abbrev r_L_carries : Room := { frames := 8, cells := 2, slots := 12, locals := 128 }
abbrev q_L_carries (g : GG) (ad : Nat → Nat) (st : SS) (sv : SS) (isS : Int32) (hst : Nat → SS) (spare : Int32) (undo : Int32) (seen : Nat → Int32) (dbef : Int32) (drec : Int32) (ptx : Nat → Int32) (plen : Int32) (ppos : Int32) (pcnt : Int32) (cmds : Nat → CC) (stE : Int32) (stF : Int32) (lch : Nat → Int32) (llen : Int32) (jo : Nat → Int64) (o : Int32 × (Nat → Int64)) (A : Nat → Prop) := va_Qi (fun (r : Int32) (u : (Nat → Int64)) => o.1 = r ∧ o.2 = u) (fun u t => va_P (gD g) zCl (wRootJ g ad st sv isS hst spare undo seen dbef drec ptx plen ppos pcnt cmds stE stF lch llen u) t.heap) A
set_option maxHeartbeats 4000000 in
set_option maxRecDepth 100000 in
theorem c_L_carries (l : Launch) (hl0 : l.stackTraces = false) (g : GG) (ad : Nat → Nat) (st : SS) (sv : SS) (isS : Int32) (hst : Nat → SS) (spare : Int32) (undo : Int32) (seen : Nat → Int32) (dbef : Int32) (drec : Int32) (ptx : Nat → Int32) (plen : Int32) (ppos : Int32) (pcnt : Int32) (cmds : Nat → CC) (stE : Int32) (stF : Int32) (lch : Nat → Int32) (llen : Int32) (jo : Nat → Int64) (sz : Nat) (p1 : Int32) (p2 : Int32) (p3 : Int32) (fu : Nat) (o : Int32 × (Nat → Int64)) (hF : F_L_carries fu st jo p1 p2 p3 = some o) : Met l yL_carries w_L_carries r_L_carries (va_Pc [.ref (ad 0), .int p1, .int p2, .int p3, .ref (ad 74)] (zP g (wRootJ g ad st sv isS hst spare undo seen dbef drec ptx plen ppos pcnt cmds stE stF lch llen jo) sz)) (q_L_carries g ad st sv isS hst spare undo seen dbef drec ptx plen ppos pcnt cmds stE stF lch llen jo o (va_A (wRootJ g ad st sv isS hst spare undo seen dbef drec ptx plen ppos pcnt cmds stE stF lch llen jo) sz)) 2 12 (va_A (wRootJ g ad st sv isS hst spare undo seen dbef drec ptx plen ppos pcnt cmds stE stF lch llen jo) sz) := by
  refine va_MetW (cc := cL_carries) (maxL := 6) (ret := (some .int)) (by decide) rfl ?_
  intro p e s m args below meth c s₁ B hml hv
  obtain ⟨rfl, rfl, hP, hK, hD0, hB⟩ := hv
  have hx := B.exec
  have hb := B.bytes
  have hr := B.returns
  have htab : c.exceptionTable.toList = tableOf [(0, 12, 15, 26), (0, 12, 19, 13)] := vx_table (x := yL_carries) B (atoms_spec (ws := w_L_carries) B.pre _ List.mem_cons_self)
  have hts : ∀ w ∈ wU, w.before _ s = true := fun w h => atoms_spec (ws := w_L_carries) B.pre w (List.mem_cons_of_mem _ h)
  have hown : s.vm.findClass RL = some m.cls := findClass_of_methodNamed B.named
  have hlocks := B.notSynchronized
  have hD := hD0.self (sz := s.heap.size)
  generalize hAe : va_A (wRootJ g ad st sv isS hst spare undo seen dbef drec ptx plen ppos pcnt cmds stE stF lch llen jo) s.heap.size = A at hD hB ⊢
  have hA : ∀ q : Nat, s.heap.size ≤ q → A q := fun q h => by rw [← hAe]; exact Or.inr h
  have hS : va_S A s.heap s.heap [] := va_S.rf
  have hl := lv_entry ([.ref (ad 0), .int p1, .int p2, .int p3, .ref (ad 74)]) (n := 6) (Nat.le_of_ble_eq_true rfl)
  rw [lg_entry_eq]
  generalize (lg_sl ([.ref (ad 0), .int p1, .int p2, .int p3, .ref (ad 74)]) ++ List.replicate (6 - (lg_sl ([.ref (ad 0), .int p1, .int p2, .int p3, .ref (ad 74)])).length) Slot.unset).toArray = ls at hl ⊢
  have hl : lv_has ls 6 [(0, .ref (ad 0)), (1, .int p1), (2, .int p2), (3, .int p3), (4, .ref (ad 74))] := hl
  unfold F_L_carries at hF
  refine lv_aload hx hb dL_carries_0 (lv_at hl 4 rfl) ?_
  refine lv_iconst (v := 0) hx hb dL_carries_2 (by decide) ?_
  refine lv_aload_n hx hb dL_carries_3 rfl (lv_at hl 0 rfl) ?_
  refine lv_iload_n hx hb dL_carries_4 rfl (lv_at hl 1 rfl) ?_
  refine lv_iload_n hx hb dL_carries_5 rfl (lv_at hl 2 rfl) ?_
  refine lv_iload_n hx hb dL_carries_6 rfl (lv_at hl 3 rfl) ?_
  obtain ⟨zo1, hzo1, hF⟩ := z_bind hF
  refine z_calliX (fun (_ : Unit) => (wRoot g ad st sv isS hst spare undo seen dbef drec ptx plen ppos pcnt cmds stE stF lch llen)) (fun (x : Nat × (Unit)) => (wRoot g ad st sv isS hst spare undo seen dbef drec ptx plen ppos pcnt cmds stE stF lch llen)) (fun (x : Nat × (Unit)) => xN x.1) zRJ (vx_runV (As := [.int p1, .int p2, .int p3]) (rest := [.int 0, .ref (ad 74)]) ⟨hx, hb, hml, hown, hts⟩ (c_X10_carries l hl0 g ad st sv isS hst spare undo seen dbef drec ptx plen ppos pcnt cmds stE stF lch llen _ p1 p2 p3 fu _ hzo1) (cwV 3 hts (gdV mU_909 mU_910 mU_911 mU_66 mU_912) rfl rfl rfl (by decide +kernel) ⟨Nat.le_of_ble_eq_true rfl, Nat.le_of_ble_eq_true rfl⟩) ⟨z_blind _ _ _ _, va_recv hK hP (ci := 6) (q0 := 0) rfl rfl, fun U hU hW => z_pre zRJ hP hD hK hB hS hA wRootJ_C wRootJ_N hU hW⟩ rfl rfl hl.1 rfl (lv_room (Nat.le_of_ble_eq_true rfl)) dL_carries_7 ⟨Nat.le_of_ble_eq_true rfl, Nat.le_of_ble_eq_true rfl⟩) hP hD hS hA wRootJ_C (fun _ => rfl) (fun _ => rfl) (fun zw1 ce q9 H locs hw hP hD hS hq1 hq2 hq3 => ?_) (fun r u H locs hw hP hD hS => ?_)
  · subst hw
    have hF : _ = some o := hF
    have hP : va_P (gD g) zCl (wRootJ g ad st sv isS hst spare undo seen dbef drec ptx plen ppos pcnt cmds stE stF lch llen jo) H := Eq.mp (congrArg (fun w => va_P (gD g) zCl w H) wRootJ_S) hP
    have hD : va_D A (wRootJ g ad st sv isS hst spare undo seen dbef drec ptx plen ppos pcnt cmds stE stF lch llen jo) := Eq.mp (congrArg (fun w => va_D A w) wRootJ_S) hD
    have hF := z_err hF
    have hq3 : s.vm.findClass (xN zw1.1) = some ce.cls := hq3
    by_cases zc2 : zw1.1 = 0
    · have hF := z_pos hF zc2
      rw [zc2] at hq3
      have hq3 : s.vm.findClass "java/lang/IllegalArgumentException" = some ce.cls := hq3
      refine vx_catch (own := RL) (name := "java/lang/IllegalArgumentException") (E := "java/lang/IllegalArgumentException") hown [(⟨0, 12, 15, 26⟩ : ExceptionTableEntry)] (⟨0, 12, 19, 13⟩ : ExceptionTableEntry) [] (htab.trans rfl) (List.forall_mem_cons.mpr ⟨(Or.inr ⟨by decide, "java/util/NoSuchElementException", hts _ mU_690, hB.2.1.2.1 ("java/lang/IllegalArgumentException", "java/util/NoSuchElementException") (by decide +kernel)⟩), (fun _ h => absurd h List.not_mem_nil)⟩) rfl (by decide) (hts _ mU_436) (va_Nw.use rfl (hB.2.1.1 _ zn_458)) hq1 hq2 hq3 ?_
      refine lv_astore (lv' := [(5, .ref q9), (0, .ref (ad 0)), (1, .int p1), (2, .int p2), (3, .int p3), (4, .ref (ad 74))]) hx hb dL_carries_19 hl (by decide) rfl (fun ls hl => ?_)
      refine lv_iconst (v := 2) hx hb dL_carries_21 (by decide) ?_
      have ho := (Option.some.inj hF).symm
      exact W.iret (v := 2) hx hb hr (fun t ht hW => ⟨⟨2, jo, rfl, ⟨by rw [ho], by rw [ho]⟩, z_end ht hP⟩, hS.F ht⟩) hS.2.2 dL_carries_22
    have hF := z_neg hF zc2
    by_cases zc3 : zw1.1 = 3
    · have hF := z_pos hF zc3
      rw [zc3] at hq3
      have hq3 : s.vm.findClass "java/util/NoSuchElementException" = some ce.cls := hq3
      refine vx_catch (own := RL) (name := "java/util/NoSuchElementException") (E := "java/util/NoSuchElementException") hown [] (⟨0, 12, 15, 26⟩ : ExceptionTableEntry) [(⟨0, 12, 19, 13⟩ : ExceptionTableEntry)] (htab.trans rfl) (fun _ h => absurd h List.not_mem_nil) rfl (by decide) (hts _ mU_690) (va_Nw.use rfl (hB.2.1.1 _ zn_705)) hq1 hq2 hq3 ?_
      refine lv_astore (lv' := [(5, .ref q9), (0, .ref (ad 0)), (1, .int p1), (2, .int p2), (3, .int p3), (4, .ref (ad 74))]) hx hb dL_carries_15 hl (by decide) rfl (fun ls hl => ?_)
      refine lv_iconst (v := 1) hx hb dL_carries_17 (by decide) ?_
      have ho := (Option.some.inj hF).symm
      exact W.iret (v := 1) hx hb hr (fun t ht hW => ⟨⟨1, jo, rfl, ⟨by rw [ho], by rw [ho]⟩, z_end ht hP⟩, hS.F ht⟩) hS.2.2 dL_carries_18
    have hF := z_neg hF zc3
    exact absurd hF (by simp)
  · obtain ⟨za1, rfl, rfl⟩ := hw
    have hF := z_okk hF
    have hP : va_P (gD g) zCl (wRootJ g ad st sv isS hst spare undo seen dbef drec ptx plen ppos pcnt cmds stE stF lch llen jo) H := Eq.mp (congrArg (fun w => va_P (gD g) zCl w H) wRootJ_S) hP
    have hD : va_D A (wRootJ g ad st sv isS hst spare undo seen dbef drec ptx plen ppos pcnt cmds stE stF lch llen jo) := Eq.mp (congrArg (fun w => va_D A w) wRootJ_S) hD
    refine lv_i2l (v := (Int32.toInt64 za1)) hx hb dL_carries_10 rfl ?_
    refine va_last hx hb hK hP hD hS 74 2 rfl rfl (by unfold vp_in; decide) dL_carries_11 (fun H locs hP hD hS => ?_)
    have hP : va_P (gD g) zCl (wRootJ g ad st sv isS hst spare undo seen dbef drec ptx plen ppos pcnt cmds stE stF lch llen (vp_updL jo (Int32.toNatClampNeg 0) (Int32.toInt64 za1))) H := hP
    have hD : va_D A (wRootJ g ad st sv isS hst spare undo seen dbef drec ptx plen ppos pcnt cmds stE stF lch llen (vp_updL jo (Int32.toNatClampNeg 0) (Int32.toInt64 za1))) := hD
    refine lv_goto (tgt := 23) hx hb dL_carries_12 (by decide) ?_
    refine lv_iconst (v := 0) hx hb dL_carries_23 (by decide) ?_
    have ho := (Option.some.inj hF).symm
    exact W.iret (v := 0) hx hb hr (fun t ht hW => ⟨⟨0, (vp_updL jo (Int32.toNatClampNeg 0) (Int32.toInt64 za1)), rfl, ⟨by rw [ho], by rw [ho]⟩, z_end ht hP⟩, hS.F ht⟩) hS.2.2 dL_carries_24
abbrev w_L_carriesBySums : List Cond := .codeWith yL_carriesBySums cL_carriesBySums 6 (some .int) [(0, 12, 15, 26), (0, 12, 19, 13)] :: wU
abbrev r_L_carriesBySums : Room := { frames := 8, cells := 2, slots := 12, locals := 128 }
abbrev q_L_carriesBySums (g : GG) (ad : Nat → Nat) (st : SS) (sv : SS) (isS : Int32) (hst : Nat → SS) (spare : Int32) (undo : Int32) (seen : Nat → Int32) (dbef : Int32) (drec : Int32) (ptx : Nat → Int32) (plen : Int32) (ppos : Int32) (pcnt : Int32) (cmds : Nat → CC) (stE : Int32) (stF : Int32) (lch : Nat → Int32) (llen : Int32) (jo : Nat → Int64) (o : Int32 × (Nat → Int64)) (A : Nat → Prop) := va_Qi (fun (r : Int32) (u : (Nat → Int64)) => o.1 = r ∧ o.2 = u) (fun u t => va_P (gD g) zCl (wRootJ g ad st sv isS hst spare undo seen dbef drec ptx plen ppos pcnt cmds stE stF lch llen u) t.heap) A
set_option maxHeartbeats 4000000 in
set_option maxRecDepth 100000 in
theorem c_L_carriesBySums (l : Launch) (hl0 : l.stackTraces = false) (g : GG) (ad : Nat → Nat) (st : SS) (sv : SS) (isS : Int32) (hst : Nat → SS) (spare : Int32) (undo : Int32) (seen : Nat → Int32) (dbef : Int32) (drec : Int32) (ptx : Nat → Int32) (plen : Int32) (ppos : Int32) (pcnt : Int32) (cmds : Nat → CC) (stE : Int32) (stF : Int32) (lch : Nat → Int32) (llen : Int32) (jo : Nat → Int64) (sz : Nat) (p1 : Int32) (p2 : Int32) (p3 : Int32) (fu : Nat) (o : Int32 × (Nat → Int64)) (hF : F_L_carriesBySums fu st jo p1 p2 p3 = some o) : Met l yL_carriesBySums w_L_carriesBySums r_L_carriesBySums (va_Pc [.ref (ad 0), .int p1, .int p2, .int p3, .ref (ad 74)] (zP g (wRootJ g ad st sv isS hst spare undo seen dbef drec ptx plen ppos pcnt cmds stE stF lch llen jo) sz)) (q_L_carriesBySums g ad st sv isS hst spare undo seen dbef drec ptx plen ppos pcnt cmds stE stF lch llen jo o (va_A (wRootJ g ad st sv isS hst spare undo seen dbef drec ptx plen ppos pcnt cmds stE stF lch llen jo) sz)) 2 12 (va_A (wRootJ g ad st sv isS hst spare undo seen dbef drec ptx plen ppos pcnt cmds stE stF lch llen jo) sz) := by
  refine va_MetW (cc := cL_carriesBySums) (maxL := 6) (ret := (some .int)) (by decide) rfl ?_
  intro p e s m args below meth c s₁ B hml hv
  obtain ⟨rfl, rfl, hP, hK, hD0, hB⟩ := hv
  have hx := B.exec
  have hb := B.bytes
  have hr := B.returns
  have htab : c.exceptionTable.toList = tableOf [(0, 12, 15, 26), (0, 12, 19, 13)] := vx_table (x := yL_carriesBySums) B (atoms_spec (ws := w_L_carriesBySums) B.pre _ List.mem_cons_self)
  have hts : ∀ w ∈ wU, w.before _ s = true := fun w h => atoms_spec (ws := w_L_carriesBySums) B.pre w (List.mem_cons_of_mem _ h)
  have hown : s.vm.findClass RL = some m.cls := findClass_of_methodNamed B.named
  have hlocks := B.notSynchronized
  have hD := hD0.self (sz := s.heap.size)
  generalize hAe : va_A (wRootJ g ad st sv isS hst spare undo seen dbef drec ptx plen ppos pcnt cmds stE stF lch llen jo) s.heap.size = A at hD hB ⊢
  have hA : ∀ q : Nat, s.heap.size ≤ q → A q := fun q h => by rw [← hAe]; exact Or.inr h
  have hS : va_S A s.heap s.heap [] := va_S.rf
  have hl := lv_entry ([.ref (ad 0), .int p1, .int p2, .int p3, .ref (ad 74)]) (n := 6) (Nat.le_of_ble_eq_true rfl)
  rw [lg_entry_eq]
  generalize (lg_sl ([.ref (ad 0), .int p1, .int p2, .int p3, .ref (ad 74)]) ++ List.replicate (6 - (lg_sl ([.ref (ad 0), .int p1, .int p2, .int p3, .ref (ad 74)])).length) Slot.unset).toArray = ls at hl ⊢
  have hl : lv_has ls 6 [(0, .ref (ad 0)), (1, .int p1), (2, .int p2), (3, .int p3), (4, .ref (ad 74))] := hl
  unfold F_L_carriesBySums at hF
  refine lv_aload hx hb dL_carriesBySums_0 (lv_at hl 4 rfl) ?_
  refine lv_iconst (v := 0) hx hb dL_carriesBySums_2 (by decide) ?_
  refine lv_aload_n hx hb dL_carriesBySums_3 rfl (lv_at hl 0 rfl) ?_
  refine lv_iload_n hx hb dL_carriesBySums_4 rfl (lv_at hl 1 rfl) ?_
  refine lv_iload_n hx hb dL_carriesBySums_5 rfl (lv_at hl 2 rfl) ?_
  refine lv_iload_n hx hb dL_carriesBySums_6 rfl (lv_at hl 3 rfl) ?_
  obtain ⟨zo1, hzo1, hF⟩ := z_bind hF
  refine z_calliX (fun (_ : Unit) => (wRoot g ad st sv isS hst spare undo seen dbef drec ptx plen ppos pcnt cmds stE stF lch llen)) (fun (x : Nat × (Unit)) => (wRoot g ad st sv isS hst spare undo seen dbef drec ptx plen ppos pcnt cmds stE stF lch llen)) (fun (x : Nat × (Unit)) => xN x.1) zRJ (vx_runV (As := [.int p1, .int p2, .int p3]) (rest := [.int 0, .ref (ad 74)]) ⟨hx, hb, hml, hown, hts⟩ (c_X10_carriesBySums l hl0 g ad st sv isS hst spare undo seen dbef drec ptx plen ppos pcnt cmds stE stF lch llen _ p1 p2 p3 fu _ hzo1) (cwV 3 hts (gdV mU_916 mU_917 mU_918 mU_66 mU_919) rfl rfl rfl (by decide +kernel) ⟨Nat.le_of_ble_eq_true rfl, Nat.le_of_ble_eq_true rfl⟩) ⟨z_blind _ _ _ _, va_recv hK hP (ci := 6) (q0 := 0) rfl rfl, fun U hU hW => z_pre zRJ hP hD hK hB hS hA wRootJ_C wRootJ_N hU hW⟩ rfl rfl hl.1 rfl (lv_room (Nat.le_of_ble_eq_true rfl)) dL_carriesBySums_7 ⟨Nat.le_of_ble_eq_true rfl, Nat.le_of_ble_eq_true rfl⟩) hP hD hS hA wRootJ_C (fun _ => rfl) (fun _ => rfl) (fun zw1 ce q9 H locs hw hP hD hS hq1 hq2 hq3 => ?_) (fun r u H locs hw hP hD hS => ?_)
  · subst hw
    have hF : _ = some o := hF
    have hP : va_P (gD g) zCl (wRootJ g ad st sv isS hst spare undo seen dbef drec ptx plen ppos pcnt cmds stE stF lch llen jo) H := Eq.mp (congrArg (fun w => va_P (gD g) zCl w H) wRootJ_S) hP
    have hD : va_D A (wRootJ g ad st sv isS hst spare undo seen dbef drec ptx plen ppos pcnt cmds stE stF lch llen jo) := Eq.mp (congrArg (fun w => va_D A w) wRootJ_S) hD
    have hF := z_err hF
    have hq3 : s.vm.findClass (xN zw1.1) = some ce.cls := hq3
    by_cases zc2 : zw1.1 = 0
    · have hF := z_pos hF zc2
      rw [zc2] at hq3
      have hq3 : s.vm.findClass "java/lang/IllegalArgumentException" = some ce.cls := hq3
      refine vx_catch (own := RL) (name := "java/lang/IllegalArgumentException") (E := "java/lang/IllegalArgumentException") hown [(⟨0, 12, 15, 26⟩ : ExceptionTableEntry)] (⟨0, 12, 19, 13⟩ : ExceptionTableEntry) [] (htab.trans rfl) (List.forall_mem_cons.mpr ⟨(Or.inr ⟨by decide, "java/util/NoSuchElementException", hts _ mU_690, hB.2.1.2.1 ("java/lang/IllegalArgumentException", "java/util/NoSuchElementException") (by decide +kernel)⟩), (fun _ h => absurd h List.not_mem_nil)⟩) rfl (by decide) (hts _ mU_436) (va_Nw.use rfl (hB.2.1.1 _ zn_458)) hq1 hq2 hq3 ?_
      refine lv_astore (lv' := [(5, .ref q9), (0, .ref (ad 0)), (1, .int p1), (2, .int p2), (3, .int p3), (4, .ref (ad 74))]) hx hb dL_carriesBySums_19 hl (by decide) rfl (fun ls hl => ?_)
      refine lv_iconst (v := 2) hx hb dL_carriesBySums_21 (by decide) ?_
      have ho := (Option.some.inj hF).symm
      exact W.iret (v := 2) hx hb hr (fun t ht hW => ⟨⟨2, jo, rfl, ⟨by rw [ho], by rw [ho]⟩, z_end ht hP⟩, hS.F ht⟩) hS.2.2 dL_carriesBySums_22
    have hF := z_neg hF zc2
    by_cases zc3 : zw1.1 = 3
    · have hF := z_pos hF zc3
      rw [zc3] at hq3
      have hq3 : s.vm.findClass "java/util/NoSuchElementException" = some ce.cls := hq3
      refine vx_catch (own := RL) (name := "java/util/NoSuchElementException") (E := "java/util/NoSuchElementException") hown [] (⟨0, 12, 15, 26⟩ : ExceptionTableEntry) [(⟨0, 12, 19, 13⟩ : ExceptionTableEntry)] (htab.trans rfl) (fun _ h => absurd h List.not_mem_nil) rfl (by decide) (hts _ mU_690) (va_Nw.use rfl (hB.2.1.1 _ zn_705)) hq1 hq2 hq3 ?_
      refine lv_astore (lv' := [(5, .ref q9), (0, .ref (ad 0)), (1, .int p1), (2, .int p2), (3, .int p3), (4, .ref (ad 74))]) hx hb dL_carriesBySums_15 hl (by decide) rfl (fun ls hl => ?_)
      refine lv_iconst (v := 1) hx hb dL_carriesBySums_17 (by decide) ?_
      have ho := (Option.some.inj hF).symm
      exact W.iret (v := 1) hx hb hr (fun t ht hW => ⟨⟨1, jo, rfl, ⟨by rw [ho], by rw [ho]⟩, z_end ht hP⟩, hS.F ht⟩) hS.2.2 dL_carriesBySums_18
    have hF := z_neg hF zc3
    exact absurd hF (by simp)
  · obtain ⟨za1, rfl, rfl⟩ := hw
    have hF := z_okk hF
    have hP : va_P (gD g) zCl (wRootJ g ad st sv isS hst spare undo seen dbef drec ptx plen ppos pcnt cmds stE stF lch llen jo) H := Eq.mp (congrArg (fun w => va_P (gD g) zCl w H) wRootJ_S) hP
    have hD : va_D A (wRootJ g ad st sv isS hst spare undo seen dbef drec ptx plen ppos pcnt cmds stE stF lch llen jo) := Eq.mp (congrArg (fun w => va_D A w) wRootJ_S) hD
    refine lv_i2l (v := (Int32.toInt64 za1)) hx hb dL_carriesBySums_10 rfl ?_
    refine va_last hx hb hK hP hD hS 74 2 rfl rfl (by unfold vp_in; decide) dL_carriesBySums_11 (fun H locs hP hD hS => ?_)
    have hP : va_P (gD g) zCl (wRootJ g ad st sv isS hst spare undo seen dbef drec ptx plen ppos pcnt cmds stE stF lch llen (vp_updL jo (Int32.toNatClampNeg 0) (Int32.toInt64 za1))) H := hP
    have hD : va_D A (wRootJ g ad st sv isS hst spare undo seen dbef drec ptx plen ppos pcnt cmds stE stF lch llen (vp_updL jo (Int32.toNatClampNeg 0) (Int32.toInt64 za1))) := hD
    refine lv_goto (tgt := 23) hx hb dL_carriesBySums_12 (by decide) ?_
    refine lv_iconst (v := 0) hx hb dL_carriesBySums_23 (by decide) ?_
    have ho := (Option.some.inj hF).symm
    exact W.iret (v := 0) hx hb hr (fun t ht hW => ⟨⟨0, (vp_updL jo (Int32.toNatClampNeg 0) (Int32.toInt64 za1)), rfl, ⟨by rw [ho], by rw [ho]⟩, z_end ht hP⟩, hS.F ht⟩) hS.2.2 dL_carriesBySums_24
abbrev w_L_longestCarry : List Cond := .codeWith yL_longestCarry cL_longestCarry 6 (some .int) [(0, 12, 15, 26), (0, 12, 19, 13)] :: wU
abbrev r_L_longestCarry : Room := { frames := 8, cells := 2, slots := 12, locals := 132 }
abbrev q_L_longestCarry (g : GG) (ad : Nat → Nat) (st : SS) (sv : SS) (isS : Int32) (hst : Nat → SS) (spare : Int32) (undo : Int32) (seen : Nat → Int32) (dbef : Int32) (drec : Int32) (ptx : Nat → Int32) (plen : Int32) (ppos : Int32) (pcnt : Int32) (cmds : Nat → CC) (stE : Int32) (stF : Int32) (lch : Nat → Int32) (llen : Int32) (jo : Nat → Int64) (o : Int32 × (Nat → Int64)) (A : Nat → Prop) := va_Qi (fun (r : Int32) (u : (Nat → Int64)) => o.1 = r ∧ o.2 = u) (fun u t => va_P (gD g) zCl (wRootJ g ad st sv isS hst spare undo seen dbef drec ptx plen ppos pcnt cmds stE stF lch llen u) t.heap) A
set_option maxHeartbeats 4000000 in
set_option maxRecDepth 100000 in
theorem c_L_longestCarry (l : Launch) (hl0 : l.stackTraces = false) (g : GG) (ad : Nat → Nat) (st : SS) (sv : SS) (isS : Int32) (hst : Nat → SS) (spare : Int32) (undo : Int32) (seen : Nat → Int32) (dbef : Int32) (drec : Int32) (ptx : Nat → Int32) (plen : Int32) (ppos : Int32) (pcnt : Int32) (cmds : Nat → CC) (stE : Int32) (stF : Int32) (lch : Nat → Int32) (llen : Int32) (jo : Nat → Int64) (sz : Nat) (p1 : Int32) (p2 : Int32) (p3 : Int32) (fu : Nat) (o : Int32 × (Nat → Int64)) (hF : F_L_longestCarry fu st jo p1 p2 p3 = some o) : Met l yL_longestCarry w_L_longestCarry r_L_longestCarry (va_Pc [.ref (ad 0), .int p1, .int p2, .int p3, .ref (ad 74)] (zP g (wRootJ g ad st sv isS hst spare undo seen dbef drec ptx plen ppos pcnt cmds stE stF lch llen jo) sz)) (q_L_longestCarry g ad st sv isS hst spare undo seen dbef drec ptx plen ppos pcnt cmds stE stF lch llen jo o (va_A (wRootJ g ad st sv isS hst spare undo seen dbef drec ptx plen ppos pcnt cmds stE stF lch llen jo) sz)) 2 12 (va_A (wRootJ g ad st sv isS hst spare undo seen dbef drec ptx plen ppos pcnt cmds stE stF lch llen jo) sz) := by
  refine va_MetW (cc := cL_longestCarry) (maxL := 6) (ret := (some .int)) (by decide) rfl ?_
  intro p e s m args below meth c s₁ B hml hv
  obtain ⟨rfl, rfl, hP, hK, hD0, hB⟩ := hv
  have hx := B.exec
  have hb := B.bytes
  have hr := B.returns
  have htab : c.exceptionTable.toList = tableOf [(0, 12, 15, 26), (0, 12, 19, 13)] := vx_table (x := yL_longestCarry) B (atoms_spec (ws := w_L_longestCarry) B.pre _ List.mem_cons_self)
  have hts : ∀ w ∈ wU, w.before _ s = true := fun w h => atoms_spec (ws := w_L_longestCarry) B.pre w (List.mem_cons_of_mem _ h)
  have hown : s.vm.findClass RL = some m.cls := findClass_of_methodNamed B.named
  have hlocks := B.notSynchronized
  have hD := hD0.self (sz := s.heap.size)
  generalize hAe : va_A (wRootJ g ad st sv isS hst spare undo seen dbef drec ptx plen ppos pcnt cmds stE stF lch llen jo) s.heap.size = A at hD hB ⊢
  have hA : ∀ q : Nat, s.heap.size ≤ q → A q := fun q h => by rw [← hAe]; exact Or.inr h
  have hS : va_S A s.heap s.heap [] := va_S.rf
  have hl := lv_entry ([.ref (ad 0), .int p1, .int p2, .int p3, .ref (ad 74)]) (n := 6) (Nat.le_of_ble_eq_true rfl)
  rw [lg_entry_eq]
  generalize (lg_sl ([.ref (ad 0), .int p1, .int p2, .int p3, .ref (ad 74)]) ++ List.replicate (6 - (lg_sl ([.ref (ad 0), .int p1, .int p2, .int p3, .ref (ad 74)])).length) Slot.unset).toArray = ls at hl ⊢
  have hl : lv_has ls 6 [(0, .ref (ad 0)), (1, .int p1), (2, .int p2), (3, .int p3), (4, .ref (ad 74))] := hl
  unfold F_L_longestCarry at hF
  refine lv_aload hx hb dL_longestCarry_0 (lv_at hl 4 rfl) ?_
  refine lv_iconst (v := 0) hx hb dL_longestCarry_2 (by decide) ?_
  refine lv_aload_n hx hb dL_longestCarry_3 rfl (lv_at hl 0 rfl) ?_
  refine lv_iload_n hx hb dL_longestCarry_4 rfl (lv_at hl 1 rfl) ?_
  refine lv_iload_n hx hb dL_longestCarry_5 rfl (lv_at hl 2 rfl) ?_
  refine lv_iload_n hx hb dL_longestCarry_6 rfl (lv_at hl 3 rfl) ?_
  obtain ⟨zo1, hzo1, hF⟩ := z_bind hF
  refine z_calliX (fun (_ : Unit) => (wRoot g ad st sv isS hst spare undo seen dbef drec ptx plen ppos pcnt cmds stE stF lch llen)) (fun (x : Nat × (Unit)) => (wRoot g ad st sv isS hst spare undo seen dbef drec ptx plen ppos pcnt cmds stE stF lch llen)) (fun (x : Nat × (Unit)) => xN x.1) zRJ (vx_runV (As := [.int p1, .int p2, .int p3]) (rest := [.int 0, .ref (ad 74)]) ⟨hx, hb, hml, hown, hts⟩ (c_X10_longestCarry l hl0 g ad st sv isS hst spare undo seen dbef drec ptx plen ppos pcnt cmds stE stF lch llen _ p1 p2 p3 fu _ hzo1) (cwV 3 hts (gdV mU_923 mU_924 mU_925 mU_66 mU_926) rfl rfl rfl (by decide +kernel) ⟨Nat.le_of_ble_eq_true rfl, Nat.le_of_ble_eq_true rfl⟩) ⟨z_blind _ _ _ _, va_recv hK hP (ci := 6) (q0 := 0) rfl rfl, fun U hU hW => z_pre zRJ hP hD hK hB hS hA wRootJ_C wRootJ_N hU hW⟩ rfl rfl hl.1 rfl (lv_room (Nat.le_of_ble_eq_true rfl)) dL_longestCarry_7 ⟨Nat.le_of_ble_eq_true rfl, Nat.le_of_ble_eq_true rfl⟩) hP hD hS hA wRootJ_C (fun _ => rfl) (fun _ => rfl) (fun zw1 ce q9 H locs hw hP hD hS hq1 hq2 hq3 => ?_) (fun r u H locs hw hP hD hS => ?_)
  · subst hw
    have hF : _ = some o := hF
    have hP : va_P (gD g) zCl (wRootJ g ad st sv isS hst spare undo seen dbef drec ptx plen ppos pcnt cmds stE stF lch llen jo) H := Eq.mp (congrArg (fun w => va_P (gD g) zCl w H) wRootJ_S) hP
    have hD : va_D A (wRootJ g ad st sv isS hst spare undo seen dbef drec ptx plen ppos pcnt cmds stE stF lch llen jo) := Eq.mp (congrArg (fun w => va_D A w) wRootJ_S) hD
    have hF := z_err hF
    have hq3 : s.vm.findClass (xN zw1.1) = some ce.cls := hq3
    by_cases zc2 : zw1.1 = 0
    · have hF := z_pos hF zc2
      rw [zc2] at hq3
      have hq3 : s.vm.findClass "java/lang/IllegalArgumentException" = some ce.cls := hq3
      refine vx_catch (own := RL) (name := "java/lang/IllegalArgumentException") (E := "java/lang/IllegalArgumentException") hown [(⟨0, 12, 15, 26⟩ : ExceptionTableEntry)] (⟨0, 12, 19, 13⟩ : ExceptionTableEntry) [] (htab.trans rfl) (List.forall_mem_cons.mpr ⟨(Or.inr ⟨by decide, "java/util/NoSuchElementException", hts _ mU_690, hB.2.1.2.1 ("java/lang/IllegalArgumentException", "java/util/NoSuchElementException") (by decide +kernel)⟩), (fun _ h => absurd h List.not_mem_nil)⟩) rfl (by decide) (hts _ mU_436) (va_Nw.use rfl (hB.2.1.1 _ zn_458)) hq1 hq2 hq3 ?_
      refine lv_astore (lv' := [(5, .ref q9), (0, .ref (ad 0)), (1, .int p1), (2, .int p2), (3, .int p3), (4, .ref (ad 74))]) hx hb dL_longestCarry_19 hl (by decide) rfl (fun ls hl => ?_)
      refine lv_iconst (v := 2) hx hb dL_longestCarry_21 (by decide) ?_
      have ho := (Option.some.inj hF).symm
      exact W.iret (v := 2) hx hb hr (fun t ht hW => ⟨⟨2, jo, rfl, ⟨by rw [ho], by rw [ho]⟩, z_end ht hP⟩, hS.F ht⟩) hS.2.2 dL_longestCarry_22
    have hF := z_neg hF zc2
    by_cases zc3 : zw1.1 = 3
    · have hF := z_pos hF zc3
      rw [zc3] at hq3
      have hq3 : s.vm.findClass "java/util/NoSuchElementException" = some ce.cls := hq3
      refine vx_catch (own := RL) (name := "java/util/NoSuchElementException") (E := "java/util/NoSuchElementException") hown [] (⟨0, 12, 15, 26⟩ : ExceptionTableEntry) [(⟨0, 12, 19, 13⟩ : ExceptionTableEntry)] (htab.trans rfl) (fun _ h => absurd h List.not_mem_nil) rfl (by decide) (hts _ mU_690) (va_Nw.use rfl (hB.2.1.1 _ zn_705)) hq1 hq2 hq3 ?_
      refine lv_astore (lv' := [(5, .ref q9), (0, .ref (ad 0)), (1, .int p1), (2, .int p2), (3, .int p3), (4, .ref (ad 74))]) hx hb dL_longestCarry_15 hl (by decide) rfl (fun ls hl => ?_)
      refine lv_iconst (v := 1) hx hb dL_longestCarry_17 (by decide) ?_
      have ho := (Option.some.inj hF).symm
      exact W.iret (v := 1) hx hb hr (fun t ht hW => ⟨⟨1, jo, rfl, ⟨by rw [ho], by rw [ho]⟩, z_end ht hP⟩, hS.F ht⟩) hS.2.2 dL_longestCarry_18
    have hF := z_neg hF zc3
    exact absurd hF (by simp)
  · obtain ⟨za1, rfl, rfl⟩ := hw
    have hF := z_okk hF
    have hP : va_P (gD g) zCl (wRootJ g ad st sv isS hst spare undo seen dbef drec ptx plen ppos pcnt cmds stE stF lch llen jo) H := Eq.mp (congrArg (fun w => va_P (gD g) zCl w H) wRootJ_S) hP
    have hD : va_D A (wRootJ g ad st sv isS hst spare undo seen dbef drec ptx plen ppos pcnt cmds stE stF lch llen jo) := Eq.mp (congrArg (fun w => va_D A w) wRootJ_S) hD
    refine lv_i2l (v := (Int32.toInt64 za1)) hx hb dL_longestCarry_10 rfl ?_
    refine va_last hx hb hK hP hD hS 74 2 rfl rfl (by unfold vp_in; decide) dL_longestCarry_11 (fun H locs hP hD hS => ?_)
    have hP : va_P (gD g) zCl (wRootJ g ad st sv isS hst spare undo seen dbef drec ptx plen ppos pcnt cmds stE stF lch llen (vp_updL jo (Int32.toNatClampNeg 0) (Int32.toInt64 za1))) H := hP
    have hD : va_D A (wRootJ g ad st sv isS hst spare undo seen dbef drec ptx plen ppos pcnt cmds stE stF lch llen (vp_updL jo (Int32.toNatClampNeg 0) (Int32.toInt64 za1))) := hD
    refine lv_goto (tgt := 23) hx hb dL_longestCarry_12 (by decide) ?_
    refine lv_iconst (v := 0) hx hb dL_longestCarry_23 (by decide) ?_
    have ho := (Option.some.inj hF).symm
    exact W.iret (v := 0) hx hb hr (fun t ht hW => ⟨⟨0, (vp_updL jo (Int32.toNatClampNeg 0) (Int32.toInt64 za1)), rfl, ⟨by rw [ho], by rw [ho]⟩, z_end ht hP⟩, hS.F ht⟩) hS.2.2 dL_longestCarry_24
abbrev w_L_togetherError : List Cond := .codeWith yL_togetherError cL_togetherError 4 (some .int) [(0, 8, 11, 13)] :: wU
abbrev r_L_togetherError : Room := { frames := 8, cells := 1, slots := 6, locals := 123 }
abbrev q_L_togetherError (g : GG) (ad : Nat → Nat) (st : SS) (sv : SS) (isS : Int32) (hst : Nat → SS) (spare : Int32) (undo : Int32) (seen : Nat → Int32) (dbef : Int32) (drec : Int32) (ptx : Nat → Int32) (plen : Int32) (ppos : Int32) (pcnt : Int32) (cmds : Nat → CC) (stE : Int32) (stF : Int32) (lch : Nat → Int32) (llen : Int32) (jo : Nat → Int64) (o : Int32 × (Nat → Int64)) (A : Nat → Prop) := va_Qi (fun (r : Int32) (u : (Nat → Int64)) => o.1 = r ∧ o.2 = u) (fun u t => va_P (gD g) zCl (wRootJ g ad st sv isS hst spare undo seen dbef drec ptx plen ppos pcnt cmds stE stF lch llen u) t.heap) A
set_option maxHeartbeats 4000000 in
set_option maxRecDepth 100000 in
theorem c_L_togetherError (l : Launch) (hl0 : l.stackTraces = false) (g : GG) (ad : Nat → Nat) (st : SS) (sv : SS) (isS : Int32) (hst : Nat → SS) (spare : Int32) (undo : Int32) (seen : Nat → Int32) (dbef : Int32) (drec : Int32) (ptx : Nat → Int32) (plen : Int32) (ppos : Int32) (pcnt : Int32) (cmds : Nat → CC) (stE : Int32) (stF : Int32) (lch : Nat → Int32) (llen : Int32) (jo : Nat → Int64) (sz : Nat) (p1 : Int32) (fu : Nat) (o : Int32 × (Nat → Int64)) (hF : F_L_togetherError fu st jo p1 = some o) : Met l yL_togetherError w_L_togetherError r_L_togetherError (va_Pc [.ref (ad 0), .int p1, .ref (ad 74)] (zP g (wRootJ g ad st sv isS hst spare undo seen dbef drec ptx plen ppos pcnt cmds stE stF lch llen jo) sz)) (q_L_togetherError g ad st sv isS hst spare undo seen dbef drec ptx plen ppos pcnt cmds stE stF lch llen jo o (va_A (wRootJ g ad st sv isS hst spare undo seen dbef drec ptx plen ppos pcnt cmds stE stF lch llen jo) sz)) 1 6 (va_A (wRootJ g ad st sv isS hst spare undo seen dbef drec ptx plen ppos pcnt cmds stE stF lch llen jo) sz) := by
  refine va_MetW (cc := cL_togetherError) (maxL := 4) (ret := (some .int)) (by decide) rfl ?_
  intro p e s m args below meth c s₁ B hml hv
  obtain ⟨rfl, rfl, hP, hK, hD0, hB⟩ := hv
  have hx := B.exec
  have hb := B.bytes
  have hr := B.returns
  have htab : c.exceptionTable.toList = tableOf [(0, 8, 11, 13)] := vx_table (x := yL_togetherError) B (atoms_spec (ws := w_L_togetherError) B.pre _ List.mem_cons_self)
  have hts : ∀ w ∈ wU, w.before _ s = true := fun w h => atoms_spec (ws := w_L_togetherError) B.pre w (List.mem_cons_of_mem _ h)
  have hown : s.vm.findClass RL = some m.cls := findClass_of_methodNamed B.named
  have hlocks := B.notSynchronized
  have hD := hD0.self (sz := s.heap.size)
  generalize hAe : va_A (wRootJ g ad st sv isS hst spare undo seen dbef drec ptx plen ppos pcnt cmds stE stF lch llen jo) s.heap.size = A at hD hB ⊢
  have hA : ∀ q : Nat, s.heap.size ≤ q → A q := fun q h => by rw [← hAe]; exact Or.inr h
  have hS : va_S A s.heap s.heap [] := va_S.rf
  have hl := lv_entry ([.ref (ad 0), .int p1, .ref (ad 74)]) (n := 4) (Nat.le_of_ble_eq_true rfl)
  rw [lg_entry_eq]
  generalize (lg_sl ([.ref (ad 0), .int p1, .ref (ad 74)]) ++ List.replicate (4 - (lg_sl ([.ref (ad 0), .int p1, .ref (ad 74)])).length) Slot.unset).toArray = ls at hl ⊢
  have hl : lv_has ls 4 [(0, .ref (ad 0)), (1, .int p1), (2, .ref (ad 74))] := hl
  unfold F_L_togetherError at hF
  refine lv_aload_n hx hb dL_togetherError_0 rfl (lv_at hl 2 rfl) ?_
  refine lv_iconst (v := 0) hx hb dL_togetherError_1 (by decide) ?_
  refine lv_aload_n hx hb dL_togetherError_2 rfl (lv_at hl 0 rfl) ?_
  refine lv_iload_n hx hb dL_togetherError_3 rfl (lv_at hl 1 rfl) ?_
  obtain ⟨zo1, hzo1, hF⟩ := z_bind hF
  refine z_calllX (fun (_ : Unit) => (wRoot g ad st sv isS hst spare undo seen dbef drec ptx plen ppos pcnt cmds stE stF lch llen)) (fun (x : Nat × (Unit)) => (wRoot g ad st sv isS hst spare undo seen dbef drec ptx plen ppos pcnt cmds stE stF lch llen)) (fun (x : Nat × (Unit)) => xN x.1) zRJ (vx_runV (As := [.int p1]) (rest := [.int 0, .ref (ad 74)]) ⟨hx, hb, hml, hown, hts⟩ (c_X10_togetherError l hl0 g ad st sv isS hst spare undo seen dbef drec ptx plen ppos pcnt cmds stE stF lch llen _ p1 fu _ hzo1) (cwV 1 hts (gdV mU_931 mU_932 mU_933 mU_66 mU_934) rfl rfl rfl (by decide +kernel) ⟨Nat.le_of_ble_eq_true rfl, Nat.le_of_ble_eq_true rfl⟩) ⟨z_blind _ _ _ _, va_recv hK hP (ci := 6) (q0 := 0) rfl rfl, fun U hU hW => z_pre zRJ hP hD hK hB hS hA wRootJ_C wRootJ_N hU hW⟩ rfl rfl hl.1 rfl (lv_room (Nat.le_of_ble_eq_true rfl)) dL_togetherError_4 ⟨Nat.le_of_ble_eq_true rfl, Nat.le_of_ble_eq_true rfl⟩) hP hD hS hA wRootJ_C (fun _ => rfl) (fun _ => rfl) (fun zw1 ce q9 H locs hw hP hD hS hq1 hq2 hq3 => ?_) (fun r u H locs hw hP hD hS => ?_)
  · subst hw
    have hF : _ = some o := hF
    have hP : va_P (gD g) zCl (wRootJ g ad st sv isS hst spare undo seen dbef drec ptx plen ppos pcnt cmds stE stF lch llen jo) H := Eq.mp (congrArg (fun w => va_P (gD g) zCl w H) wRootJ_S) hP
    have hD : va_D A (wRootJ g ad st sv isS hst spare undo seen dbef drec ptx plen ppos pcnt cmds stE stF lch llen jo) := Eq.mp (congrArg (fun w => va_D A w) wRootJ_S) hD
    have hF := z_err hF
    have hq3 : s.vm.findClass (xN zw1.1) = some ce.cls := hq3
    by_cases zc2 : zw1.1 = 0
    · have hF := z_pos hF zc2
      rw [zc2] at hq3
      have hq3 : s.vm.findClass "java/lang/IllegalArgumentException" = some ce.cls := hq3
      refine vx_catch (own := RL) (name := "java/lang/IllegalArgumentException") (E := "java/lang/IllegalArgumentException") hown [] (⟨0, 8, 11, 13⟩ : ExceptionTableEntry) [] (htab.trans rfl) (fun _ h => absurd h List.not_mem_nil) rfl (by decide) (hts _ mU_436) (va_Nw.use rfl (hB.2.1.1 _ zn_458)) hq1 hq2 hq3 ?_
      refine lv_astore_n (lv' := [(3, .ref q9), (0, .ref (ad 0)), (1, .int p1), (2, .ref (ad 74))]) hx hb dL_togetherError_11 rfl hl (by decide) rfl (fun ls hl => ?_)
      refine lv_iconst (v := 1) hx hb dL_togetherError_12 (by decide) ?_
      have ho := (Option.some.inj hF).symm
      exact W.iret (v := 1) hx hb hr (fun t ht hW => ⟨⟨1, jo, rfl, ⟨by rw [ho], by rw [ho]⟩, z_end ht hP⟩, hS.F ht⟩) hS.2.2 dL_togetherError_13
    have hF := z_neg hF zc2
    exact absurd hF (by simp)
  · obtain ⟨za1, rfl, rfl⟩ := hw
    have hF := z_okk hF
    have hP : va_P (gD g) zCl (wRootJ g ad st sv isS hst spare undo seen dbef drec ptx plen ppos pcnt cmds stE stF lch llen jo) H := Eq.mp (congrArg (fun w => va_P (gD g) zCl w H) wRootJ_S) hP
    have hD : va_D A (wRootJ g ad st sv isS hst spare undo seen dbef drec ptx plen ppos pcnt cmds stE stF lch llen jo) := Eq.mp (congrArg (fun w => va_D A w) wRootJ_S) hD
    refine va_last hx hb hK hP hD hS 74 2 rfl rfl (by unfold vp_in; decide) dL_togetherError_7 (fun H locs hP hD hS => ?_)
    have hP : va_P (gD g) zCl (wRootJ g ad st sv isS hst spare undo seen dbef drec ptx plen ppos pcnt cmds stE stF lch llen (vp_updL jo (Int32.toNatClampNeg 0) za1)) H := hP
    have hD : va_D A (wRootJ g ad st sv isS hst spare undo seen dbef drec ptx plen ppos pcnt cmds stE stF lch llen (vp_updL jo (Int32.toNatClampNeg 0) za1)) := hD
    refine lv_goto (tgt := 14) hx hb dL_togetherError_8 (by decide) ?_
    refine lv_iconst (v := 0) hx hb dL_togetherError_14 (by decide) ?_
    have ho := (Option.some.inj hF).symm
    exact W.iret (v := 0) hx hb hr (fun t ht hW => ⟨⟨0, (vp_updL jo (Int32.toNatClampNeg 0) za1), rfl, ⟨by rw [ho], by rw [ho]⟩, z_end ht hP⟩, hS.F ht⟩) hS.2.2 dL_togetherError_15
abbrev w_L_togetherErrorBySets : List Cond := .codeWith yL_togetherErrorBySets cL_togetherErrorBySets 4 (some .int) [(0, 8, 11, 13)] :: wU
abbrev r_L_togetherErrorBySets : Room := { frames := 8, cells := 1, slots := 6, locals := 123 }
abbrev q_L_togetherErrorBySets (g : GG) (ad : Nat → Nat) (st : SS) (sv : SS) (isS : Int32) (hst : Nat → SS) (spare : Int32) (undo : Int32) (seen : Nat → Int32) (dbef : Int32) (drec : Int32) (ptx : Nat → Int32) (plen : Int32) (ppos : Int32) (pcnt : Int32) (cmds : Nat → CC) (stE : Int32) (stF : Int32) (lch : Nat → Int32) (llen : Int32) (jo : Nat → Int64) (o : Int32 × (Nat → Int64)) (A : Nat → Prop) := va_Qi (fun (r : Int32) (u : (Nat → Int64)) => o.1 = r ∧ o.2 = u) (fun u t => va_P (gD g) zCl (wRootJ g ad st sv isS hst spare undo seen dbef drec ptx plen ppos pcnt cmds stE stF lch llen u) t.heap) A
set_option maxHeartbeats 4000000 in
set_option maxRecDepth 100000 in
theorem c_L_togetherErrorBySets (l : Launch) (hl0 : l.stackTraces = false) (g : GG) (ad : Nat → Nat) (st : SS) (sv : SS) (isS : Int32) (hst : Nat → SS) (spare : Int32) (undo : Int32) (seen : Nat → Int32) (dbef : Int32) (drec : Int32) (ptx : Nat → Int32) (plen : Int32) (ppos : Int32) (pcnt : Int32) (cmds : Nat → CC) (stE : Int32) (stF : Int32) (lch : Nat → Int32) (llen : Int32) (jo : Nat → Int64) (sz : Nat) (p1 : Int32) (fu : Nat) (o : Int32 × (Nat → Int64)) (hF : F_L_togetherErrorBySets fu st jo p1 = some o) : Met l yL_togetherErrorBySets w_L_togetherErrorBySets r_L_togetherErrorBySets (va_Pc [.ref (ad 0), .int p1, .ref (ad 74)] (zP g (wRootJ g ad st sv isS hst spare undo seen dbef drec ptx plen ppos pcnt cmds stE stF lch llen jo) sz)) (q_L_togetherErrorBySets g ad st sv isS hst spare undo seen dbef drec ptx plen ppos pcnt cmds stE stF lch llen jo o (va_A (wRootJ g ad st sv isS hst spare undo seen dbef drec ptx plen ppos pcnt cmds stE stF lch llen jo) sz)) 1 6 (va_A (wRootJ g ad st sv isS hst spare undo seen dbef drec ptx plen ppos pcnt cmds stE stF lch llen jo) sz) := by
  refine va_MetW (cc := cL_togetherErrorBySets) (maxL := 4) (ret := (some .int)) (by decide) rfl ?_
  intro p e s m args below meth c s₁ B hml hv
  obtain ⟨rfl, rfl, hP, hK, hD0, hB⟩ := hv
  have hx := B.exec
  have hb := B.bytes
  have hr := B.returns
  have htab : c.exceptionTable.toList = tableOf [(0, 8, 11, 13)] := vx_table (x := yL_togetherErrorBySets) B (atoms_spec (ws := w_L_togetherErrorBySets) B.pre _ List.mem_cons_self)
  have hts : ∀ w ∈ wU, w.before _ s = true := fun w h => atoms_spec (ws := w_L_togetherErrorBySets) B.pre w (List.mem_cons_of_mem _ h)
  have hown : s.vm.findClass RL = some m.cls := findClass_of_methodNamed B.named
  have hlocks := B.notSynchronized
  have hD := hD0.self (sz := s.heap.size)
  generalize hAe : va_A (wRootJ g ad st sv isS hst spare undo seen dbef drec ptx plen ppos pcnt cmds stE stF lch llen jo) s.heap.size = A at hD hB ⊢
  have hA : ∀ q : Nat, s.heap.size ≤ q → A q := fun q h => by rw [← hAe]; exact Or.inr h
  have hS : va_S A s.heap s.heap [] := va_S.rf
  have hl := lv_entry ([.ref (ad 0), .int p1, .ref (ad 74)]) (n := 4) (Nat.le_of_ble_eq_true rfl)
  rw [lg_entry_eq]
  generalize (lg_sl ([.ref (ad 0), .int p1, .ref (ad 74)]) ++ List.replicate (4 - (lg_sl ([.ref (ad 0), .int p1, .ref (ad 74)])).length) Slot.unset).toArray = ls at hl ⊢
  have hl : lv_has ls 4 [(0, .ref (ad 0)), (1, .int p1), (2, .ref (ad 74))] := hl
  unfold F_L_togetherErrorBySets at hF
  refine lv_aload_n hx hb dL_togetherErrorBySets_0 rfl (lv_at hl 2 rfl) ?_
  refine lv_iconst (v := 0) hx hb dL_togetherErrorBySets_1 (by decide) ?_
  refine lv_aload_n hx hb dL_togetherErrorBySets_2 rfl (lv_at hl 0 rfl) ?_
  refine lv_iload_n hx hb dL_togetherErrorBySets_3 rfl (lv_at hl 1 rfl) ?_
  obtain ⟨zo1, hzo1, hF⟩ := z_bind hF
  refine z_calllX (fun (_ : Unit) => (wRoot g ad st sv isS hst spare undo seen dbef drec ptx plen ppos pcnt cmds stE stF lch llen)) (fun (x : Nat × (Unit)) => (wRoot g ad st sv isS hst spare undo seen dbef drec ptx plen ppos pcnt cmds stE stF lch llen)) (fun (x : Nat × (Unit)) => xN x.1) zRJ (vx_runV (As := [.int p1]) (rest := [.int 0, .ref (ad 74)]) ⟨hx, hb, hml, hown, hts⟩ (c_X10_togetherErrorBySets l hl0 g ad st sv isS hst spare undo seen dbef drec ptx plen ppos pcnt cmds stE stF lch llen _ p1 fu _ hzo1) (cwV 1 hts (gdV mU_938 mU_939 mU_940 mU_66 mU_941) rfl rfl rfl (by decide +kernel) ⟨Nat.le_of_ble_eq_true rfl, Nat.le_of_ble_eq_true rfl⟩) ⟨z_blind _ _ _ _, va_recv hK hP (ci := 6) (q0 := 0) rfl rfl, fun U hU hW => z_pre zRJ hP hD hK hB hS hA wRootJ_C wRootJ_N hU hW⟩ rfl rfl hl.1 rfl (lv_room (Nat.le_of_ble_eq_true rfl)) dL_togetherErrorBySets_4 ⟨Nat.le_of_ble_eq_true rfl, Nat.le_of_ble_eq_true rfl⟩) hP hD hS hA wRootJ_C (fun _ => rfl) (fun _ => rfl) (fun zw1 ce q9 H locs hw hP hD hS hq1 hq2 hq3 => ?_) (fun r u H locs hw hP hD hS => ?_)
  · subst hw
    have hF : _ = some o := hF
    have hP : va_P (gD g) zCl (wRootJ g ad st sv isS hst spare undo seen dbef drec ptx plen ppos pcnt cmds stE stF lch llen jo) H := Eq.mp (congrArg (fun w => va_P (gD g) zCl w H) wRootJ_S) hP
    have hD : va_D A (wRootJ g ad st sv isS hst spare undo seen dbef drec ptx plen ppos pcnt cmds stE stF lch llen jo) := Eq.mp (congrArg (fun w => va_D A w) wRootJ_S) hD
    have hF := z_err hF
    have hq3 : s.vm.findClass (xN zw1.1) = some ce.cls := hq3
    by_cases zc2 : zw1.1 = 0
    · have hF := z_pos hF zc2
      rw [zc2] at hq3
      have hq3 : s.vm.findClass "java/lang/IllegalArgumentException" = some ce.cls := hq3
      refine vx_catch (own := RL) (name := "java/lang/IllegalArgumentException") (E := "java/lang/IllegalArgumentException") hown [] (⟨0, 8, 11, 13⟩ : ExceptionTableEntry) [] (htab.trans rfl) (fun _ h => absurd h List.not_mem_nil) rfl (by decide) (hts _ mU_436) (va_Nw.use rfl (hB.2.1.1 _ zn_458)) hq1 hq2 hq3 ?_
      refine lv_astore_n (lv' := [(3, .ref q9), (0, .ref (ad 0)), (1, .int p1), (2, .ref (ad 74))]) hx hb dL_togetherErrorBySets_11 rfl hl (by decide) rfl (fun ls hl => ?_)
      refine lv_iconst (v := 1) hx hb dL_togetherErrorBySets_12 (by decide) ?_
      have ho := (Option.some.inj hF).symm
      exact W.iret (v := 1) hx hb hr (fun t ht hW => ⟨⟨1, jo, rfl, ⟨by rw [ho], by rw [ho]⟩, z_end ht hP⟩, hS.F ht⟩) hS.2.2 dL_togetherErrorBySets_13
    have hF := z_neg hF zc2
    exact absurd hF (by simp)
  · obtain ⟨za1, rfl, rfl⟩ := hw
    have hF := z_okk hF
    have hP : va_P (gD g) zCl (wRootJ g ad st sv isS hst spare undo seen dbef drec ptx plen ppos pcnt cmds stE stF lch llen jo) H := Eq.mp (congrArg (fun w => va_P (gD g) zCl w H) wRootJ_S) hP
    have hD : va_D A (wRootJ g ad st sv isS hst spare undo seen dbef drec ptx plen ppos pcnt cmds stE stF lch llen jo) := Eq.mp (congrArg (fun w => va_D A w) wRootJ_S) hD
    refine va_last hx hb hK hP hD hS 74 2 rfl rfl (by unfold vp_in; decide) dL_togetherErrorBySets_7 (fun H locs hP hD hS => ?_)
    have hP : va_P (gD g) zCl (wRootJ g ad st sv isS hst spare undo seen dbef drec ptx plen ppos pcnt cmds stE stF lch llen (vp_updL jo (Int32.toNatClampNeg 0) za1)) H := hP
    have hD : va_D A (wRootJ g ad st sv isS hst spare undo seen dbef drec ptx plen ppos pcnt cmds stE stF lch llen (vp_updL jo (Int32.toNatClampNeg 0) za1)) := hD
    refine lv_goto (tgt := 14) hx hb dL_togetherErrorBySets_8 (by decide) ?_
    refine lv_iconst (v := 0) hx hb dL_togetherErrorBySets_14 (by decide) ?_
    have ho := (Option.some.inj hF).symm
    exact W.iret (v := 0) hx hb hr (fun t ht hW => ⟨⟨0, (vp_updL jo (Int32.toNatClampNeg 0) za1), rfl, ⟨by rw [ho], by rw [ho]⟩, z_end ht hP⟩, hS.F ht⟩) hS.2.2 dL_togetherErrorBySets_15
abbrev w_L_goesUp : List Cond := .codeWith yL_goesUp cL_goesUp 5 (some .int) [(0, 17, 20, 26), (0, 17, 24, 13)] :: wU
abbrev r_L_goesUp : Room := { frames := 8, cells := 2, slots := 12, locals := 127 }
abbrev q_L_goesUp (g : GG) (ad : Nat → Nat) (st : SS) (sv : SS) (isS : Int32) (hst : Nat → SS) (spare : Int32) (undo : Int32) (seen : Nat → Int32) (dbef : Int32) (drec : Int32) (ptx : Nat → Int32) (plen : Int32) (ppos : Int32) (pcnt : Int32) (cmds : Nat → CC) (stE : Int32) (stF : Int32) (lch : Nat → Int32) (llen : Int32) (jo : Nat → Int64) (o : Int32 × (Nat → Int64)) (A : Nat → Prop) := va_Qi (fun (r : Int32) (u : (Nat → Int64)) => o.1 = r ∧ o.2 = u) (fun u t => va_P (gD g) zCl (wRootJ g ad st sv isS hst spare undo seen dbef drec ptx plen ppos pcnt cmds stE stF lch llen u) t.heap) A
set_option maxHeartbeats 4000000 in
set_option maxRecDepth 100000 in
theorem c_L_goesUp (l : Launch) (hl0 : l.stackTraces = false) (g : GG) (ad : Nat → Nat) (st : SS) (sv : SS) (isS : Int32) (hst : Nat → SS) (spare : Int32) (undo : Int32) (seen : Nat → Int32) (dbef : Int32) (drec : Int32) (ptx : Nat → Int32) (plen : Int32) (ppos : Int32) (pcnt : Int32) (cmds : Nat → CC) (stE : Int32) (stF : Int32) (lch : Nat → Int32) (llen : Int32) (jo : Nat → Int64) (sz : Nat) (p1 : Int32) (p2 : Int32) (fu : Nat) (o : Int32 × (Nat → Int64)) (hF : F_L_goesUp fu st jo p1 p2 = some o) : Met l yL_goesUp w_L_goesUp r_L_goesUp (va_Pc [.ref (ad 0), .int p1, .int p2, .ref (ad 74)] (zP g (wRootJ g ad st sv isS hst spare undo seen dbef drec ptx plen ppos pcnt cmds stE stF lch llen jo) sz)) (q_L_goesUp g ad st sv isS hst spare undo seen dbef drec ptx plen ppos pcnt cmds stE stF lch llen jo o (va_A (wRootJ g ad st sv isS hst spare undo seen dbef drec ptx plen ppos pcnt cmds stE stF lch llen jo) sz)) 2 12 (va_A (wRootJ g ad st sv isS hst spare undo seen dbef drec ptx plen ppos pcnt cmds stE stF lch llen jo) sz) := by
  refine va_MetW (cc := cL_goesUp) (maxL := 5) (ret := (some .int)) (by decide) rfl ?_
  intro p e s m args below meth c s₁ B hml hv
  obtain ⟨rfl, rfl, hP, hK, hD0, hB⟩ := hv
  have hx := B.exec
  have hb := B.bytes
  have hr := B.returns
  have htab : c.exceptionTable.toList = tableOf [(0, 17, 20, 26), (0, 17, 24, 13)] := vx_table (x := yL_goesUp) B (atoms_spec (ws := w_L_goesUp) B.pre _ List.mem_cons_self)
  have hts : ∀ w ∈ wU, w.before _ s = true := fun w h => atoms_spec (ws := w_L_goesUp) B.pre w (List.mem_cons_of_mem _ h)
  have hown : s.vm.findClass RL = some m.cls := findClass_of_methodNamed B.named
  have hlocks := B.notSynchronized
  have hD := hD0.self (sz := s.heap.size)
  generalize hAe : va_A (wRootJ g ad st sv isS hst spare undo seen dbef drec ptx plen ppos pcnt cmds stE stF lch llen jo) s.heap.size = A at hD hB ⊢
  have hA : ∀ q : Nat, s.heap.size ≤ q → A q := fun q h => by rw [← hAe]; exact Or.inr h
  have hS : va_S A s.heap s.heap [] := va_S.rf
  have hl := lv_entry ([.ref (ad 0), .int p1, .int p2, .ref (ad 74)]) (n := 5) (Nat.le_of_ble_eq_true rfl)
  rw [lg_entry_eq]
  generalize (lg_sl ([.ref (ad 0), .int p1, .int p2, .ref (ad 74)]) ++ List.replicate (5 - (lg_sl ([.ref (ad 0), .int p1, .int p2, .ref (ad 74)])).length) Slot.unset).toArray = ls at hl ⊢
  have hl : lv_has ls 5 [(0, .ref (ad 0)), (1, .int p1), (2, .int p2), (3, .ref (ad 74))] := hl
  unfold F_L_goesUp at hF
  refine lv_aload_n hx hb dL_goesUp_0 rfl (lv_at hl 3 rfl) ?_
  refine lv_iconst (v := 0) hx hb dL_goesUp_1 (by decide) ?_
  refine lv_aload_n hx hb dL_goesUp_2 rfl (lv_at hl 0 rfl) ?_
  refine lv_iload_n hx hb dL_goesUp_3 rfl (lv_at hl 1 rfl) ?_
  refine lv_iload_n hx hb dL_goesUp_4 rfl (lv_at hl 2 rfl) ?_
  obtain ⟨zo1, hzo1, hF⟩ := z_bind hF
  refine z_calliX (fun (_ : Unit) => (wRoot g ad st sv isS hst spare undo seen dbef drec ptx plen ppos pcnt cmds stE stF lch llen)) (fun (x : Nat × (Unit)) => (wRoot g ad st sv isS hst spare undo seen dbef drec ptx plen ppos pcnt cmds stE stF lch llen)) (fun (x : Nat × (Unit)) => xN x.1) zRJ (vx_runV (As := [.int p1, .int p2]) (rest := [.int 0, .ref (ad 74)]) ⟨hx, hb, hml, hown, hts⟩ (c_X10_goesUp l hl0 g ad st sv isS hst spare undo seen dbef drec ptx plen ppos pcnt cmds stE stF lch llen _ p1 p2 fu _ hzo1) (cwV 2 hts (gdV mU_945 mU_946 mU_947 mU_66 mU_948) rfl rfl rfl (by decide +kernel) ⟨Nat.le_of_ble_eq_true rfl, Nat.le_of_ble_eq_true rfl⟩) ⟨z_blind _ _ _ _, va_recv hK hP (ci := 6) (q0 := 0) rfl rfl, fun U hU hW => z_pre zRJ hP hD hK hB hS hA wRootJ_C wRootJ_N hU hW⟩ rfl rfl hl.1 rfl (lv_room (Nat.le_of_ble_eq_true rfl)) dL_goesUp_5 ⟨Nat.le_of_ble_eq_true rfl, Nat.le_of_ble_eq_true rfl⟩) hP hD hS hA wRootJ_C (fun _ => rfl) (fun _ => rfl) (fun zw1 ce q9 H locs hw hP hD hS hq1 hq2 hq3 => ?_) (fun r u H locs hw hP hD hS => ?_)
  · subst hw
    have hF : _ = some o := hF
    have hP : va_P (gD g) zCl (wRootJ g ad st sv isS hst spare undo seen dbef drec ptx plen ppos pcnt cmds stE stF lch llen jo) H := Eq.mp (congrArg (fun w => va_P (gD g) zCl w H) wRootJ_S) hP
    have hD : va_D A (wRootJ g ad st sv isS hst spare undo seen dbef drec ptx plen ppos pcnt cmds stE stF lch llen jo) := Eq.mp (congrArg (fun w => va_D A w) wRootJ_S) hD
    have hF := z_err hF
    have hq3 : s.vm.findClass (xN zw1.1) = some ce.cls := hq3
    by_cases zc2 : zw1.1 = 0
    · have hF := z_pos hF zc2
      rw [zc2] at hq3
      have hq3 : s.vm.findClass "java/lang/IllegalArgumentException" = some ce.cls := hq3
      refine vx_catch (own := RL) (name := "java/lang/IllegalArgumentException") (E := "java/lang/IllegalArgumentException") hown [(⟨0, 17, 20, 26⟩ : ExceptionTableEntry)] (⟨0, 17, 24, 13⟩ : ExceptionTableEntry) [] (htab.trans rfl) (List.forall_mem_cons.mpr ⟨(Or.inr ⟨by decide, "java/util/NoSuchElementException", hts _ mU_690, hB.2.1.2.1 ("java/lang/IllegalArgumentException", "java/util/NoSuchElementException") (by decide +kernel)⟩), (fun _ h => absurd h List.not_mem_nil)⟩) rfl (by decide) (hts _ mU_436) (va_Nw.use rfl (hB.2.1.1 _ zn_458)) hq1 hq2 hq3 ?_
      refine lv_astore (lv' := [(4, .ref q9), (0, .ref (ad 0)), (1, .int p1), (2, .int p2), (3, .ref (ad 74))]) hx hb dL_goesUp_24 hl (by decide) rfl (fun ls hl => ?_)
      refine lv_iconst (v := 2) hx hb dL_goesUp_26 (by decide) ?_
      have ho := (Option.some.inj hF).symm
      exact W.iret (v := 2) hx hb hr (fun t ht hW => ⟨⟨2, jo, rfl, ⟨by rw [ho], by rw [ho]⟩, z_end ht hP⟩, hS.F ht⟩) hS.2.2 dL_goesUp_27
    have hF := z_neg hF zc2
    by_cases zc3 : zw1.1 = 3
    · have hF := z_pos hF zc3
      rw [zc3] at hq3
      have hq3 : s.vm.findClass "java/util/NoSuchElementException" = some ce.cls := hq3
      refine vx_catch (own := RL) (name := "java/util/NoSuchElementException") (E := "java/util/NoSuchElementException") hown [] (⟨0, 17, 20, 26⟩ : ExceptionTableEntry) [(⟨0, 17, 24, 13⟩ : ExceptionTableEntry)] (htab.trans rfl) (fun _ h => absurd h List.not_mem_nil) rfl (by decide) (hts _ mU_690) (va_Nw.use rfl (hB.2.1.1 _ zn_705)) hq1 hq2 hq3 ?_
      refine lv_astore (lv' := [(4, .ref q9), (0, .ref (ad 0)), (1, .int p1), (2, .int p2), (3, .ref (ad 74))]) hx hb dL_goesUp_20 hl (by decide) rfl (fun ls hl => ?_)
      refine lv_iconst (v := 1) hx hb dL_goesUp_22 (by decide) ?_
      have ho := (Option.some.inj hF).symm
      exact W.iret (v := 1) hx hb hr (fun t ht hW => ⟨⟨1, jo, rfl, ⟨by rw [ho], by rw [ho]⟩, z_end ht hP⟩, hS.F ht⟩) hS.2.2 dL_goesUp_23
    have hF := z_neg hF zc3
    exact absurd hF (by simp)
  · obtain ⟨za1, rfl, rfl⟩ := hw
    have hF := z_okk hF
    have hP : va_P (gD g) zCl (wRootJ g ad st sv isS hst spare undo seen dbef drec ptx plen ppos pcnt cmds stE stF lch llen jo) H := Eq.mp (congrArg (fun w => va_P (gD g) zCl w H) wRootJ_S) hP
    have hD : va_D A (wRootJ g ad st sv isS hst spare undo seen dbef drec ptx plen ppos pcnt cmds stE stF lch llen jo) := Eq.mp (congrArg (fun w => va_D A w) wRootJ_S) hD
    refine lv_if_eq (tgt := 15) hx hb dL_goesUp_8 (by decide) (fun zc4 => ?_) (fun zc4 => ?_)
    · have hF := z_pos hF zc4
      refine lv_lconst (v := 0) hx hb dL_goesUp_15 (by decide) ?_
      refine va_last hx hb hK hP hD hS 74 2 rfl rfl (by unfold vp_in; decide) dL_goesUp_16 (fun H locs hP hD hS => ?_)
      have hP : va_P (gD g) zCl (wRootJ g ad st sv isS hst spare undo seen dbef drec ptx plen ppos pcnt cmds stE stF lch llen (vp_updL jo (Int32.toNatClampNeg 0) 0)) H := hP
      have hD : va_D A (wRootJ g ad st sv isS hst spare undo seen dbef drec ptx plen ppos pcnt cmds stE stF lch llen (vp_updL jo (Int32.toNatClampNeg 0) 0)) := hD
      refine lv_goto (tgt := 28) hx hb dL_goesUp_17 (by decide) ?_
      refine lv_iconst (v := 0) hx hb dL_goesUp_28 (by decide) ?_
      have ho := (Option.some.inj hF).symm
      exact W.iret (v := 0) hx hb hr (fun t ht hW => ⟨⟨0, (vp_updL jo (Int32.toNatClampNeg 0) 0), rfl, ⟨by rw [ho], by rw [ho]⟩, z_end ht hP⟩, hS.F ht⟩) hS.2.2 dL_goesUp_29
    · have hF := z_neg hF zc4
      refine lv_lconst (v := 1) hx hb dL_goesUp_11 (by decide) ?_
      refine lv_goto (tgt := 16) hx hb dL_goesUp_12 (by decide) ?_
      refine va_last hx hb hK hP hD hS 74 2 rfl rfl (by unfold vp_in; decide) dL_goesUp_16 (fun H locs hP hD hS => ?_)
      have hP : va_P (gD g) zCl (wRootJ g ad st sv isS hst spare undo seen dbef drec ptx plen ppos pcnt cmds stE stF lch llen (vp_updL jo (Int32.toNatClampNeg 0) 1)) H := hP
      have hD : va_D A (wRootJ g ad st sv isS hst spare undo seen dbef drec ptx plen ppos pcnt cmds stE stF lch llen (vp_updL jo (Int32.toNatClampNeg 0) 1)) := hD
      refine lv_goto (tgt := 28) hx hb dL_goesUp_17 (by decide) ?_
      refine lv_iconst (v := 0) hx hb dL_goesUp_28 (by decide) ?_
      have ho := (Option.some.inj hF).symm
      exact W.iret (v := 0) hx hb hr (fun t ht hW => ⟨⟨0, (vp_updL jo (Int32.toNatClampNeg 0) 1), rfl, ⟨by rw [ho], by rw [ho]⟩, z_end ht hP⟩, hS.F ht⟩) hS.2.2 dL_goesUp_29
abbrev w_L_quotientDigit : List Cond := .codeWith yL_quotientDigit cL_quotientDigit 6 (some .int) [(0, 12, 15, 13), (0, 12, 19, 51)] :: wU
abbrev r_L_quotientDigit : Room := { frames := 8, cells := 2, slots := 12, locals := 128 }
abbrev q_L_quotientDigit (g : GG) (ad : Nat → Nat) (st : SS) (sv : SS) (isS : Int32) (hst : Nat → SS) (spare : Int32) (undo : Int32) (seen : Nat → Int32) (dbef : Int32) (drec : Int32) (ptx : Nat → Int32) (plen : Int32) (ppos : Int32) (pcnt : Int32) (cmds : Nat → CC) (stE : Int32) (stF : Int32) (lch : Nat → Int32) (llen : Int32) (jo : Nat → Int64) (o : Int32 × (Nat → Int64)) (A : Nat → Prop) := va_Qi (fun (r : Int32) (u : (Nat → Int64)) => o.1 = r ∧ o.2 = u) (fun u t => va_P (gD g) zCl (wRootJ g ad st sv isS hst spare undo seen dbef drec ptx plen ppos pcnt cmds stE stF lch llen u) t.heap) A
set_option maxHeartbeats 4000000 in
set_option maxRecDepth 100000 in
theorem c_L_quotientDigit (l : Launch) (hl0 : l.stackTraces = false) (g : GG) (ad : Nat → Nat) (st : SS) (sv : SS) (isS : Int32) (hst : Nat → SS) (spare : Int32) (undo : Int32) (seen : Nat → Int32) (dbef : Int32) (drec : Int32) (ptx : Nat → Int32) (plen : Int32) (ppos : Int32) (pcnt : Int32) (cmds : Nat → CC) (stE : Int32) (stF : Int32) (lch : Nat → Int32) (llen : Int32) (jo : Nat → Int64) (sz : Nat) (p1 : Int32) (p2 : Int32) (p3 : Int32) (fu : Nat) (o : Int32 × (Nat → Int64)) (hF : F_L_quotientDigit fu jo p1 p2 p3 = some o) : Met l yL_quotientDigit w_L_quotientDigit r_L_quotientDigit (va_Pc [.ref (ad 0), .int p1, .int p2, .int p3, .ref (ad 74)] (zP g (wRootJ g ad st sv isS hst spare undo seen dbef drec ptx plen ppos pcnt cmds stE stF lch llen jo) sz)) (q_L_quotientDigit g ad st sv isS hst spare undo seen dbef drec ptx plen ppos pcnt cmds stE stF lch llen jo o (va_A (wRootJ g ad st sv isS hst spare undo seen dbef drec ptx plen ppos pcnt cmds stE stF lch llen jo) sz)) 2 12 (va_A (wRootJ g ad st sv isS hst spare undo seen dbef drec ptx plen ppos pcnt cmds stE stF lch llen jo) sz) := by
  refine va_MetW (cc := cL_quotientDigit) (maxL := 6) (ret := (some .int)) (by decide) rfl ?_
  intro p e s m args below meth c s₁ B hml hv
  obtain ⟨rfl, rfl, hP, hK, hD0, hB⟩ := hv
  have hx := B.exec
  have hb := B.bytes
  have hr := B.returns
  have htab : c.exceptionTable.toList = tableOf [(0, 12, 15, 13), (0, 12, 19, 51)] := vx_table (x := yL_quotientDigit) B (atoms_spec (ws := w_L_quotientDigit) B.pre _ List.mem_cons_self)
  have hts : ∀ w ∈ wU, w.before _ s = true := fun w h => atoms_spec (ws := w_L_quotientDigit) B.pre w (List.mem_cons_of_mem _ h)
  have hown : s.vm.findClass RL = some m.cls := findClass_of_methodNamed B.named
  have hlocks := B.notSynchronized
  have hD := hD0.self (sz := s.heap.size)
  generalize hAe : va_A (wRootJ g ad st sv isS hst spare undo seen dbef drec ptx plen ppos pcnt cmds stE stF lch llen jo) s.heap.size = A at hD hB ⊢
  have hA : ∀ q : Nat, s.heap.size ≤ q → A q := fun q h => by rw [← hAe]; exact Or.inr h
  have hS : va_S A s.heap s.heap [] := va_S.rf
  have hl := lv_entry ([.ref (ad 0), .int p1, .int p2, .int p3, .ref (ad 74)]) (n := 6) (Nat.le_of_ble_eq_true rfl)
  rw [lg_entry_eq]
  generalize (lg_sl ([.ref (ad 0), .int p1, .int p2, .int p3, .ref (ad 74)]) ++ List.replicate (6 - (lg_sl ([.ref (ad 0), .int p1, .int p2, .int p3, .ref (ad 74)])).length) Slot.unset).toArray = ls at hl ⊢
  have hl : lv_has ls 6 [(0, .ref (ad 0)), (1, .int p1), (2, .int p2), (3, .int p3), (4, .ref (ad 74))] := hl
  unfold F_L_quotientDigit at hF
  refine lv_aload hx hb dL_quotientDigit_0 (lv_at hl 4 rfl) ?_
  refine lv_iconst (v := 0) hx hb dL_quotientDigit_2 (by decide) ?_
  refine lv_aload_n hx hb dL_quotientDigit_3 rfl (lv_at hl 0 rfl) ?_
  refine lv_iload_n hx hb dL_quotientDigit_4 rfl (lv_at hl 1 rfl) ?_
  refine lv_iload_n hx hb dL_quotientDigit_5 rfl (lv_at hl 2 rfl) ?_
  refine lv_iload_n hx hb dL_quotientDigit_6 rfl (lv_at hl 3 rfl) ?_
  obtain ⟨zo1, hzo1, hF⟩ := z_bind hF
  refine z_calliX (fun (_ : Unit) => (wRoot g ad st sv isS hst spare undo seen dbef drec ptx plen ppos pcnt cmds stE stF lch llen)) (fun (x : Nat × (Unit)) => (wRoot g ad st sv isS hst spare undo seen dbef drec ptx plen ppos pcnt cmds stE stF lch llen)) (fun (x : Nat × (Unit)) => xN x.1) zRJ (vx_runV (As := [.int p1, .int p2, .int p3]) (rest := [.int 0, .ref (ad 74)]) ⟨hx, hb, hml, hown, hts⟩ (c_X10_quotientDigit l hl0 g ad st sv isS hst spare undo seen dbef drec ptx plen ppos pcnt cmds stE stF lch llen _ p1 p2 p3 fu _ hzo1) (cwV 3 hts (gdV mU_953 mU_954 mU_955 mU_66 mU_956) rfl rfl rfl (by decide +kernel) ⟨Nat.le_of_ble_eq_true rfl, Nat.le_of_ble_eq_true rfl⟩) ⟨z_blind _ _ _ _, va_recv hK hP (ci := 6) (q0 := 0) rfl rfl, fun U hU hW => z_pre zRJ hP hD hK hB hS hA wRootJ_C wRootJ_N hU hW⟩ rfl rfl hl.1 rfl (lv_room (Nat.le_of_ble_eq_true rfl)) dL_quotientDigit_7 ⟨Nat.le_of_ble_eq_true rfl, Nat.le_of_ble_eq_true rfl⟩) hP hD hS hA wRootJ_C (fun _ => rfl) (fun _ => rfl) (fun zw1 ce q9 H locs hw hP hD hS hq1 hq2 hq3 => ?_) (fun r u H locs hw hP hD hS => ?_)
  · subst hw
    have hF : _ = some o := hF
    have hP : va_P (gD g) zCl (wRootJ g ad st sv isS hst spare undo seen dbef drec ptx plen ppos pcnt cmds stE stF lch llen jo) H := Eq.mp (congrArg (fun w => va_P (gD g) zCl w H) wRootJ_S) hP
    have hD : va_D A (wRootJ g ad st sv isS hst spare undo seen dbef drec ptx plen ppos pcnt cmds stE stF lch llen jo) := Eq.mp (congrArg (fun w => va_D A w) wRootJ_S) hD
    have hF := z_err hF
    have hq3 : s.vm.findClass (xN zw1.1) = some ce.cls := hq3
    by_cases zc2 : zw1.1 = 0
    · have hF := z_pos hF zc2
      rw [zc2] at hq3
      have hq3 : s.vm.findClass "java/lang/IllegalArgumentException" = some ce.cls := hq3
      refine vx_catch (own := RL) (name := "java/lang/IllegalArgumentException") (E := "java/lang/IllegalArgumentException") hown [] (⟨0, 12, 15, 13⟩ : ExceptionTableEntry) [(⟨0, 12, 19, 51⟩ : ExceptionTableEntry)] (htab.trans rfl) (fun _ h => absurd h List.not_mem_nil) rfl (by decide) (hts _ mU_436) (va_Nw.use rfl (hB.2.1.1 _ zn_458)) hq1 hq2 hq3 ?_
      refine lv_astore (lv' := [(5, .ref q9), (0, .ref (ad 0)), (1, .int p1), (2, .int p2), (3, .int p3), (4, .ref (ad 74))]) hx hb dL_quotientDigit_15 hl (by decide) rfl (fun ls hl => ?_)
      refine lv_iconst (v := 1) hx hb dL_quotientDigit_17 (by decide) ?_
      have ho := (Option.some.inj hF).symm
      exact W.iret (v := 1) hx hb hr (fun t ht hW => ⟨⟨1, jo, rfl, ⟨by rw [ho], by rw [ho]⟩, z_end ht hP⟩, hS.F ht⟩) hS.2.2 dL_quotientDigit_18
    have hF := z_neg hF zc2
    by_cases zc3 : zw1.1 = 4
    · have hF := z_pos hF zc3
      rw [zc3] at hq3
      have hq3 : s.vm.findClass "java/lang/IndexOutOfBoundsException" = some ce.cls := hq3
      refine vx_catch (own := RL) (name := "java/lang/IndexOutOfBoundsException") (E := "java/lang/IndexOutOfBoundsException") hown [(⟨0, 12, 15, 13⟩ : ExceptionTableEntry)] (⟨0, 12, 19, 51⟩ : ExceptionTableEntry) [] (htab.trans rfl) (List.forall_mem_cons.mpr ⟨(Or.inr ⟨by decide, "java/lang/IllegalArgumentException", hts _ mU_436, hB.2.1.2.1 ("java/lang/IndexOutOfBoundsException", "java/lang/IllegalArgumentException") (by decide +kernel)⟩), (fun _ h => absurd h List.not_mem_nil)⟩) rfl (by decide) (hts _ mU_796) (va_Nw.use rfl (hB.2.1.1 _ zn_826)) hq1 hq2 hq3 ?_
      refine lv_astore (lv' := [(5, .ref q9), (0, .ref (ad 0)), (1, .int p1), (2, .int p2), (3, .int p3), (4, .ref (ad 74))]) hx hb dL_quotientDigit_19 hl (by decide) rfl (fun ls hl => ?_)
      refine lv_iconst (v := 2) hx hb dL_quotientDigit_21 (by decide) ?_
      have ho := (Option.some.inj hF).symm
      exact W.iret (v := 2) hx hb hr (fun t ht hW => ⟨⟨2, jo, rfl, ⟨by rw [ho], by rw [ho]⟩, z_end ht hP⟩, hS.F ht⟩) hS.2.2 dL_quotientDigit_22
    have hF := z_neg hF zc3
    exact absurd hF (by simp)
  · obtain ⟨za1, rfl, rfl⟩ := hw
    have hF := z_okk hF
    have hP : va_P (gD g) zCl (wRootJ g ad st sv isS hst spare undo seen dbef drec ptx plen ppos pcnt cmds stE stF lch llen jo) H := Eq.mp (congrArg (fun w => va_P (gD g) zCl w H) wRootJ_S) hP
    have hD : va_D A (wRootJ g ad st sv isS hst spare undo seen dbef drec ptx plen ppos pcnt cmds stE stF lch llen jo) := Eq.mp (congrArg (fun w => va_D A w) wRootJ_S) hD
    refine lv_i2l (v := (Int32.toInt64 za1)) hx hb dL_quotientDigit_10 rfl ?_
    refine va_last hx hb hK hP hD hS 74 2 rfl rfl (by unfold vp_in; decide) dL_quotientDigit_11 (fun H locs hP hD hS => ?_)
    have hP : va_P (gD g) zCl (wRootJ g ad st sv isS hst spare undo seen dbef drec ptx plen ppos pcnt cmds stE stF lch llen (vp_updL jo (Int32.toNatClampNeg 0) (Int32.toInt64 za1))) H := hP
    have hD : va_D A (wRootJ g ad st sv isS hst spare undo seen dbef drec ptx plen ppos pcnt cmds stE stF lch llen (vp_updL jo (Int32.toNatClampNeg 0) (Int32.toInt64 za1))) := hD
    refine lv_goto (tgt := 23) hx hb dL_quotientDigit_12 (by decide) ?_
    refine lv_iconst (v := 0) hx hb dL_quotientDigit_23 (by decide) ?_
    have ho := (Option.some.inj hF).symm
    exact W.iret (v := 0) hx hb hr (fun t ht hW => ⟨⟨0, (vp_updL jo (Int32.toNatClampNeg 0) (Int32.toInt64 za1)), rfl, ⟨by rw [ho], by rw [ho]⟩, z_end ht hP⟩, hS.F ht⟩) hS.2.2 dL_quotientDigit_24
