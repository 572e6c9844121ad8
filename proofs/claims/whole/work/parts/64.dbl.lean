abbrev w_X10_meanValue : List Cond := .code yX10_meanValue cX10_meanValue 1 (some .double) :: wU
abbrev r_X10_meanValue : Room := { frames := 6, cells := 1, slots := 6, locals := 82 }
abbrev q_X10_meanValue (g : GG) (ad : Nat → Nat) (st : SS) (sv : SS) (isS : Int32) (hst : Nat → SS) (spare : Int32) (undo : Int32) (seen : Nat → Int32) (dbef : Int32) (drec : Int32) (ptx : Nat → Int32) (plen : Int32) (ppos : Int32) (pcnt : Int32) (cmds : Nat → CC) (stE : Int32) (stF : Int32) (lch : Nat → Int32) (llen : Int32) (o : Except (Nat × (Unit)) (UInt64)) (A : Nat → Prop) := va_Qd (fun (r : UInt64) (u : Unit) => ∃ a : UInt64, o = .ok a ∧ a = r) (fun u t => va_P (gD g) zCl (wRoot g ad st sv isS hst spare undo seen dbef drec ptx plen ppos pcnt cmds stE stF lch llen) t.heap) A
abbrev x_X10_meanValue (g : GG) (ad : Nat → Nat) (st : SS) (sv : SS) (isS : Int32) (hst : Nat → SS) (spare : Int32) (undo : Int32) (seen : Nat → Int32) (dbef : Int32) (drec : Int32) (ptx : Nat → Int32) (plen : Int32) (ppos : Int32) (pcnt : Int32) (cmds : Nat → CC) (stE : Int32) (stF : Int32) (lch : Nat → Int32) (llen : Int32) (o : Except (Nat × (Unit)) (UInt64)) (A : Nat → Prop) := vx_X (fun (x : Nat × (Unit)) => o = .error x) (fun E x t => E = xN x.1 ∧ va_P (gD g) zCl (wRoot g ad st sv isS hst spare undo seen dbef drec ptx plen ppos pcnt cmds stE stF lch llen) t.heap) A
set_option maxHeartbeats 4000000 in
set_option maxRecDepth 100000 in
theorem c_X10_meanValue (l : Launch) (hl0 : l.stackTraces = false) (g : GG) (ad : Nat → Nat) (st : SS) (sv : SS) (isS : Int32) (hst : Nat → SS) (spare : Int32) (undo : Int32) (seen : Nat → Int32) (dbef : Int32) (drec : Int32) (ptx : Nat → Int32) (plen : Int32) (ppos : Int32) (pcnt : Int32) (cmds : Nat → CC) (stE : Int32) (stF : Int32) (lch : Nat → Int32) (llen : Int32) (sz : Nat) (fu : Nat) (o : Except (Nat × (Unit)) (UInt64)) (hF : F_X10_meanValue fu st = some o) : vx_Met l yX10_meanValue w_X10_meanValue r_X10_meanValue (va_Pc [.ref (ad 0)] (zP g (wRoot g ad st sv isS hst spare undo seen dbef drec ptx plen ppos pcnt cmds stE stF lch llen) sz)) (q_X10_meanValue g ad st sv isS hst spare undo seen dbef drec ptx plen ppos pcnt cmds stE stF lch llen o (va_A (wRoot g ad st sv isS hst spare undo seen dbef drec ptx plen ppos pcnt cmds stE stF lch llen) sz)) (x_X10_meanValue g ad st sv isS hst spare undo seen dbef drec ptx plen ppos pcnt cmds stE stF lch llen o (va_A (wRoot g ad st sv isS hst spare undo seen dbef drec ptx plen ppos pcnt cmds stE stF lch llen) sz)) 1 6 (va_A (wRoot g ad st sv isS hst spare undo seen dbef drec ptx plen ppos pcnt cmds stE stF lch llen) sz) := by
  refine vx_ofW (cc := cX10_meanValue) (maxL := 1) (ret := (some .double)) (by decide) rfl ?_
  intro p e s m args below meth c s₁ B hml hnx hv
  obtain ⟨rfl, rfl, hP, hK, hD0, hB⟩ := hv
  have hx := B.exec
  have hb := B.bytes
  have hr := B.returns
  have hts : ∀ w ∈ wU, w.before _ s = true := fun w h => atoms_spec (ws := w_X10_meanValue) B.pre w (List.mem_cons_of_mem _ h)
  have hown : s.vm.findClass RX10 = some m.cls := findClass_of_methodNamed B.named
  have hlocks := B.notSynchronized
  have hD := hD0.self (sz := s.heap.size)
  generalize hAe : va_A (wRoot g ad st sv isS hst spare undo seen dbef drec ptx plen ppos pcnt cmds stE stF lch llen) s.heap.size = A at hD hB ⊢
  have hA : ∀ q : Nat, s.heap.size ≤ q → A q := fun q h => by rw [← hAe]; exact Or.inr h
  have hS : va_S A s.heap s.heap [] := va_S.rf
  have hl := lv_entry ([.ref (ad 0)]) (n := 1) (Nat.le_of_ble_eq_true rfl)
  rw [lg_entry_eq]
  generalize (lg_sl ([.ref (ad 0)]) ++ List.replicate (1 - (lg_sl ([.ref (ad 0)])).length) Slot.unset).toArray = ls at hl ⊢
  have hl : lv_has ls 1 [(0, .ref (ad 0))] := hl
  unfold F_X10_meanValue at hF
  refine lv_aload_n hx hb dX10_meanValue_0 rfl (lv_at hl 0 rfl) ?_
  refine va_get (D := gD g) (ci := 6) (v := .ref (ad 1)) (C := RX10) (T := TX10) (N := 9) hx hb hts inX10 hown hK hP 0 rfl rfl 0 (by decide) (hts _ mU_277) (fun _ h9 => h9) rfl dX10_meanValue_1 ?_
  refine va_getN (D := gD g) (ci := 5) (v := .int (s_cnt st)) (C := RX8) (T := TX8) (N := 11) hx hb hts inX8 hown hK hP 1 rfl rfl 4 (by decide) (va_Nw.use rfl (hB.2.1.1 _ zn_123)) (fun _ h9 => h9) rfl dX10_meanValue_4 ?_
  refine lv_if_ne (tgt := 21) hx hb dX10_meanValue_7 (by decide) (fun zc1 => ?_) (fun zc1 => ?_)
  · have hF := z_neg hF zc1
    refine lv_aload_n hx hb dX10_meanValue_21 rfl (lv_at hl 0 rfl) ?_
    refine va_get (D := gD g) (ci := 6) (v := .ref (ad 1)) (C := RX10) (T := TX10) (N := 9) hx hb hts inX10 hown hK hP 0 rfl rfl 0 (by decide) (hts _ mU_277) (fun _ h9 => h9) rfl dX10_meanValue_22 ?_
    obtain ⟨zo2, hzo2, hF⟩ := z_bind hF
    refine z_calll (fun (_ : Unit) => (wState g (ad 1) (ad 2) (ad 3) (ad 4) (ad 5) st)) [1, 2, 3, 4, 5] (va_runV (As := []) (rest := []) ⟨hx, hb, hml, hown, hts⟩ (c_X8_sumOfValues l g (ad 1) (ad 2) (ad 3) (ad 4) (ad 5) st _ fu _ hzo2) (cwV 0 hts (gdV mU_313 mU_314 mU_315 mU_67 mU_316) rfl rfl rfl (by decide +kernel) ⟨Nat.le_of_ble_eq_true rfl, Nat.le_of_ble_eq_true rfl⟩) ⟨z_blind _ _ _ _, va_recv hK hP (ci := 5) (q0 := 1) rfl rfl, fun U hU hW => z_pre [1, 2, 3, 4, 5] hP hD hK hB hS hA rfl rfl hU hW⟩ rfl rfl hl.1 rfl (lv_room (Nat.le_of_ble_eq_true rfl)) dX10_meanValue_25 ⟨Nat.le_of_ble_eq_true rfl, Nat.le_of_ble_eq_true rfl⟩) hP hD hS hA rfl (fun _ => rfl) (fun r u H locs hw hP hD hS => ?_)
    subst hw
    have hP : va_P (gD g) zCl (wRoot g ad st sv isS hst spare undo seen dbef drec ptx plen ppos pcnt cmds stE stF lch llen) H := hP
    have hD : va_D A (wRoot g ad st sv isS hst spare undo seen dbef drec ptx plen ppos pcnt cmds stE stF lch llen) := hD
    refine lv_l2d hx hb dX10_meanValue_28 ?_
    refine lv_aload_n hx hb dX10_meanValue_29 rfl (lv_at hl 0 rfl) ?_
    refine va_get (D := gD g) (ci := 6) (v := .ref (ad 1)) (C := RX10) (T := TX10) (N := 9) hx hb hts inX10 hown hK hP 0 rfl rfl 0 (by decide) (hts _ mU_277) (fun _ h9 => h9) rfl dX10_meanValue_30 ?_
    refine va_getN (D := gD g) (ci := 5) (v := .int (s_cnt st)) (C := RX8) (T := TX8) (N := 11) hx hb hts inX8 hown hK hP 1 rfl rfl 4 (by decide) (va_Nw.use rfl (hB.2.1.1 _ zn_123)) (fun _ h9 => h9) rfl dX10_meanValue_33 ?_
    refine lv_i2d hx hb dX10_meanValue_36 ?_
    obtain ⟨zg3, hF⟩ := z_grd hF
    refine lv_ddiv hx hb dX10_meanValue_37 (Classical.not_not.mp zg3) ?_
    refine lv_ldc2d (v := 4666723172467343360) hx hb hown (hts _ mU_1022) dX10_meanValue_38 ?_
    obtain ⟨zg4, hF⟩ := z_grd hF
    refine lv_ddiv hx hb dX10_meanValue_41 (Classical.not_not.mp zg4) ?_
    have ho := (Option.some.inj hF).symm
    refine vx_ret ?_
    refine W.widen (k := 1) (n := 6) (Nat.le_of_ble_eq_true rfl) (Nat.le_of_ble_eq_true rfl) ?_
    exact W.dret (v := (FP.ddiv (FP.ddiv (FP.l2d zo2) (FP.i2d (s_cnt st))) (4666723172467343360 : UInt64))) hx hb hr (fun t ht hW => ⟨⟨(FP.ddiv (FP.ddiv (FP.l2d zo2) (FP.i2d (s_cnt st))) (4666723172467343360 : UInt64)), (), rfl, ⟨_, ho, rfl⟩, z_end ht hP⟩, hS.F ht⟩) hS.2.2 dX10_meanValue_42
  · have hF := z_pos hF zc1
    have ho := (Option.some.inj hF).symm
    obtain ⟨sa, hsa⟩ := hB.2.1.2.2.1 (284, "no numbers have no mean") (by decide +kernel)
    exact vx_throwSW hx hb hl0 (own := RX10) (cls := "java/lang/ArithmeticException") (text := "no numbers have no mean") (names := ["java/lang/RuntimeException", "java/lang/Exception"]) hown (by decide +kernel) (by decide +kernel) (hts _ mU_1019) (hts _ mU_96) hsa (zat_286 hts hB) zgo_286 hB.1.1 hB.1.2 hS (hl.1.trans hml.symm) dX10_meanValue_10 dX10_meanValue_13 dX10_meanValue_14 dX10_meanValue_17 dX10_meanValue_20 (fun x hx => (hnx x hx).elim) (Nat.le_of_ble_eq_true rfl) (Nat.le_of_ble_eq_true rfl) (Nat.le_of_ble_eq_true rfl) (Nat.le_of_ble_eq_true rfl) hlocks (fun t ha hz hk => ⟨(5, ()), ho, ⟨rfl, (z_thr hP hS hz hk).1⟩, (z_thr hP hS hz hk).2⟩) hS.2.2 (Nat.le_of_ble_eq_true rfl) (Nat.le_of_ble_eq_true rfl)
abbrev w_X10_share : List Cond := .code yX10_share cX10_share 5 (some .float) :: wU
abbrev r_X10_share : Room := { frames := 7, cells := 2, slots := 12, locals := 104 }
abbrev q_X10_share (g : GG) (ad : Nat → Nat) (st : SS) (sv : SS) (isS : Int32) (hst : Nat → SS) (spare : Int32) (undo : Int32) (seen : Nat → Int32) (dbef : Int32) (drec : Int32) (ptx : Nat → Int32) (plen : Int32) (ppos : Int32) (pcnt : Int32) (cmds : Nat → CC) (stE : Int32) (stF : Int32) (lch : Nat → Int32) (llen : Int32) (o : Except (Nat × (Unit)) (UInt32)) (A : Nat → Prop) := va_Qf (fun (r : UInt32) (u : Unit) => ∃ a : UInt32, o = .ok a ∧ a = r) (fun u t => va_P (gD g) zCl (wRoot g ad st sv isS hst spare undo seen dbef drec ptx plen ppos pcnt cmds stE stF lch llen) t.heap) A
abbrev x_X10_share (g : GG) (ad : Nat → Nat) (st : SS) (sv : SS) (isS : Int32) (hst : Nat → SS) (spare : Int32) (undo : Int32) (seen : Nat → Int32) (dbef : Int32) (drec : Int32) (ptx : Nat → Int32) (plen : Int32) (ppos : Int32) (pcnt : Int32) (cmds : Nat → CC) (stE : Int32) (stF : Int32) (lch : Nat → Int32) (llen : Int32) (o : Except (Nat × (Unit)) (UInt32)) (A : Nat → Prop) := vx_X (fun (x : Nat × (Unit)) => o = .error x) (fun E x t => E = xN x.1 ∧ va_P (gD g) zCl (wRoot g ad st sv isS hst spare undo seen dbef drec ptx plen ppos pcnt cmds stE stF lch llen) t.heap) A
set_option maxHeartbeats 4000000 in
set_option maxRecDepth 100000 in
theorem c_X10_share (l : Launch) (hl0 : l.stackTraces = false) (g : GG) (ad : Nat → Nat) (st : SS) (sv : SS) (isS : Int32) (hst : Nat → SS) (spare : Int32) (undo : Int32) (seen : Nat → Int32) (dbef : Int32) (drec : Int32) (ptx : Nat → Int32) (plen : Int32) (ppos : Int32) (pcnt : Int32) (cmds : Nat → CC) (stE : Int32) (stF : Int32) (lch : Nat → Int32) (llen : Int32) (sz : Nat) (p1 : Int32) (fu : Nat) (o : Except (Nat × (Unit)) (UInt32)) (hF : F_X10_share fu st p1 = some o) : vx_Met l yX10_share w_X10_share r_X10_share (va_Pc [.ref (ad 0), .int p1] (zP g (wRoot g ad st sv isS hst spare undo seen dbef drec ptx plen ppos pcnt cmds stE stF lch llen) sz)) (q_X10_share g ad st sv isS hst spare undo seen dbef drec ptx plen ppos pcnt cmds stE stF lch llen o (va_A (wRoot g ad st sv isS hst spare undo seen dbef drec ptx plen ppos pcnt cmds stE stF lch llen) sz)) (x_X10_share g ad st sv isS hst spare undo seen dbef drec ptx plen ppos pcnt cmds stE stF lch llen o (va_A (wRoot g ad st sv isS hst spare undo seen dbef drec ptx plen ppos pcnt cmds stE stF lch llen) sz)) 2 12 (va_A (wRoot g ad st sv isS hst spare undo seen dbef drec ptx plen ppos pcnt cmds stE stF lch llen) sz) := by
  refine vx_ofW (cc := cX10_share) (maxL := 5) (ret := (some .float)) (by decide) rfl ?_
  intro p e s m args below meth c s₁ B hml hnx hv
  obtain ⟨rfl, rfl, hP, hK, hD0, hB⟩ := hv
  have hx := B.exec
  have hb := B.bytes
  have hr := B.returns
  have hts : ∀ w ∈ wU, w.before _ s = true := fun w h => atoms_spec (ws := w_X10_share) B.pre w (List.mem_cons_of_mem _ h)
  have hown : s.vm.findClass RX10 = some m.cls := findClass_of_methodNamed B.named
  have hlocks := B.notSynchronized
  have hD := hD0.self (sz := s.heap.size)
  generalize hAe : va_A (wRoot g ad st sv isS hst spare undo seen dbef drec ptx plen ppos pcnt cmds stE stF lch llen) s.heap.size = A at hD hB ⊢
  have hA : ∀ q : Nat, s.heap.size ≤ q → A q := fun q h => by rw [← hAe]; exact Or.inr h
  have hS : va_S A s.heap s.heap [] := va_S.rf
  have hl := lv_entry ([.ref (ad 0), .int p1]) (n := 5) (Nat.le_of_ble_eq_true rfl)
  rw [lg_entry_eq]
  generalize (lg_sl ([.ref (ad 0), .int p1]) ++ List.replicate (5 - (lg_sl ([.ref (ad 0), .int p1])).length) Slot.unset).toArray = ls at hl ⊢
  have hl : lv_has ls 5 [(0, .ref (ad 0)), (1, .int p1)] := hl
  unfold F_X10_share at hF
  refine lv_aload_n hx hb dX10_share_0 rfl (lv_at hl 0 rfl) ?_
  refine lv_iload_n hx hb dX10_share_1 rfl (lv_at hl 1 rfl) ?_
  obtain ⟨zo1, hzo1, hF⟩ := z_bind hF
  refine z_calliXE (fun (_ : Unit) => (wRoot g ad st sv isS hst spare undo seen dbef drec ptx plen ppos pcnt cmds stE stF lch llen)) (fun (x : Nat × (Unit)) => (wRoot g ad st sv isS hst spare undo seen dbef drec ptx plen ppos pcnt cmds stE stF lch llen)) (fun (x : Nat × (Unit)) => xN x.1) (vx_runV (As := [.int p1]) (rest := []) ⟨hx, hb, hml, hown, hts⟩ (c_X10_requirePosition l hl0 g ad st sv isS hst spare undo seen dbef drec ptx plen ppos pcnt cmds stE stF lch llen _ p1 fu _ hzo1) (cwV 1 hts (gdV mU_699 mU_701 mU_7 mU_66 mU_702) rfl rfl rfl (by decide +kernel) ⟨Nat.le_of_ble_eq_true rfl, Nat.le_of_ble_eq_true rfl⟩) ⟨z_blind _ _ _ _, va_recv hK hP (ci := 6) (q0 := 0) rfl rfl, fun U hU hW => z_preE hP hD hK hB hS hA hU hW⟩ rfl rfl hl.1 rfl (lv_room (Nat.le_of_ble_eq_true rfl)) dX10_share_2 ⟨Nat.le_of_ble_eq_true rfl, Nat.le_of_ble_eq_true rfl⟩) hD hS hA (fun _ => rfl) (fun _ => rfl) (fun zw1 ce q9 H locs hw hP hD hS hq1 hq2 hq3 => ?_) (fun r u H locs hw hP hD hS => ?_)
  · subst hw
    have hF : _ = some o := hF
    have hP : va_P (gD g) zCl (wRoot g ad st sv isS hst spare undo seen dbef drec ptx plen ppos pcnt cmds stE stF lch llen) H := hP
    have hD : va_D A (wRoot g ad st sv isS hst spare undo seen dbef drec ptx plen ppos pcnt cmds stE stF lch llen) := hD
    have hF := z_err hF
    have ho := (Option.some.inj hF).symm
    exact vx_out (fun x hx => (hnx x hx).elim) hlocks hq1 hq2 hq3 (fun t ht hvm => ⟨(zw1.1, ()), ho, ⟨rfl, z_end ht hP⟩, hS.F ht⟩) hS.2.2 (Nat.le_of_ble_eq_true rfl) (Nat.le_of_ble_eq_true rfl)
  · obtain ⟨za1, rfl, rfl⟩ := hw
    have hF := z_okk hF
    have hP : va_P (gD g) zCl (wRoot g ad st sv isS hst spare undo seen dbef drec ptx plen ppos pcnt cmds stE stF lch llen) H := hP
    have hD : va_D A (wRoot g ad st sv isS hst spare undo seen dbef drec ptx plen ppos pcnt cmds stE stF lch llen) := hD
    refine lv_istore_n (lv' := [(2, .int za1), (0, .ref (ad 0)), (1, .int p1)]) hx hb dX10_share_5 rfl hl (by decide) rfl (fun ls hl => ?_)
    refine lv_aload_n hx hb dX10_share_6 rfl (lv_at hl 1 rfl) ?_
    refine va_get (D := gD g) (ci := 6) (v := .ref (ad 1)) (C := RX10) (T := TX10) (N := 9) hx hb hts inX10 hown hK hP 0 rfl rfl 0 (by decide) (hts _ mU_277) (fun _ h9 => h9) rfl dX10_share_7 ?_
    obtain ⟨zo2, hzo2, hF⟩ := z_bind hF
    refine z_calll (fun (_ : Unit) => (wState g (ad 1) (ad 2) (ad 3) (ad 4) (ad 5) st)) [1, 2, 3, 4, 5] (va_runV (As := []) (rest := []) ⟨hx, hb, hml, hown, hts⟩ (c_X8_sumOfValues l g (ad 1) (ad 2) (ad 3) (ad 4) (ad 5) st _ fu _ hzo2) (cwV 0 hts (gdV mU_313 mU_314 mU_315 mU_67 mU_316) rfl rfl rfl (by decide +kernel) ⟨Nat.le_of_ble_eq_true rfl, Nat.le_of_ble_eq_true rfl⟩) ⟨z_blind _ _ _ _, va_recv hK hP (ci := 5) (q0 := 1) rfl rfl, fun U hU hW => z_pre [1, 2, 3, 4, 5] hP hD hK hB hS hA rfl rfl hU hW⟩ rfl rfl hl.1 rfl (lv_room (Nat.le_of_ble_eq_true rfl)) dX10_share_10 ⟨Nat.le_of_ble_eq_true rfl, Nat.le_of_ble_eq_true rfl⟩) hP hD hS hA rfl (fun _ => rfl) (fun r u H locs hw hP hD hS => ?_)
    subst hw
    have hP : va_P (gD g) zCl (wRoot g ad st sv isS hst spare undo seen dbef drec ptx plen ppos pcnt cmds stE stF lch llen) H := hP
    have hD : va_D A (wRoot g ad st sv isS hst spare undo seen dbef drec ptx plen ppos pcnt cmds stE stF lch llen) := hD
    refine lv_lstore_n (lv' := [(3, .long zo2), (2, .int za1), (0, .ref (ad 0)), (1, .int p1)]) hx hb dX10_share_13 rfl hl (by decide) rfl (fun ls hl => ?_)
    refine lv_lload_n hx hb dX10_share_14 rfl (lv_at hl 0 rfl) ?_
    refine lv_lconst (v := 0) hx hb dX10_share_15 (by decide) ?_
    refine z_lcmp_ne (tgt := 31) hx hb dX10_share_16 dX10_share_17 (by decide) (fun zc3 => ?_) (fun zc3 => ?_)
    · have hF := z_neg hF zc3
      refine lv_aload_n hx hb dX10_share_31 rfl (lv_at hl 2 rfl) ?_
      refine va_get (D := gD g) (ci := 6) (v := .ref (ad 1)) (C := RX10) (T := TX10) (N := 9) hx hb hts inX10 hown hK hP 0 rfl rfl 0 (by decide) (hts _ mU_277) (fun _ h9 => h9) rfl dX10_share_32 ?_
      refine va_getN (D := gD g) (ci := 5) (v := .ref (ad 3)) (C := RX8) (T := TX8) (N := 11) hx hb hts inX8 hown hK hP 1 rfl rfl 1 (by decide) (va_Nw.use rfl (hB.2.1.1 _ zn_116)) (fun _ h9 => h9) rfl dX10_share_35 ?_
      refine lv_iload_n hx hb dX10_share_38 rfl (lv_at hl 1 rfl) ?_
      obtain ⟨zg4, hF⟩ := z_grd hF
      refine va_lald hx hb hK hP 3 2 rfl rfl zg4 dX10_share_39 ?_
      refine lv_l2f hx hb dX10_share_40 ?_
      refine lv_lload_n hx hb dX10_share_41 rfl (lv_at hl 0 rfl) ?_
      refine lv_l2f hx hb dX10_share_42 ?_
      obtain ⟨zg5, hF⟩ := z_grd hF
      refine lv_fdiv hx hb dX10_share_43 (Classical.not_not.mp zg5) ?_
      have ho := (Option.some.inj hF).symm
      refine vx_ret ?_
      refine W.widen (k := 2) (n := 12) (Nat.le_of_ble_eq_true rfl) (Nat.le_of_ble_eq_true rfl) ?_
      exact W.fret (v := (FP.fdiv (FP.l2f ((s_vals st) (Int32.toNatClampNeg za1))) (FP.l2f zo2))) hx hb hr (fun t ht hW => ⟨⟨(FP.fdiv (FP.l2f ((s_vals st) (Int32.toNatClampNeg za1))) (FP.l2f zo2)), (), rfl, ⟨_, ho, rfl⟩, z_end ht hP⟩, hS.F ht⟩) hS.2.2 dX10_share_44
    · have hF := z_pos hF zc3
      have ho := (Option.some.inj hF).symm
      obtain ⟨sa, hsa⟩ := hB.2.1.2.2.1 (289, "nothing has no shares") (by decide +kernel)
      exact vx_throwSW hx hb hl0 (own := RX10) (cls := "java/lang/ArithmeticException") (text := "nothing has no shares") (names := ["java/lang/RuntimeException", "java/lang/Exception"]) hown (by decide +kernel) (by decide +kernel) (hts _ mU_1019) (hts _ mU_96) hsa (zat_286 hts hB) zgo_286 hB.1.1 hB.1.2 hS (hl.1.trans hml.symm) dX10_share_20 dX10_share_23 dX10_share_24 dX10_share_27 dX10_share_30 (fun x hx => (hnx x hx).elim) (Nat.le_of_ble_eq_true rfl) (Nat.le_of_ble_eq_true rfl) (Nat.le_of_ble_eq_true rfl) (Nat.le_of_ble_eq_true rfl) hlocks (fun t ha hz hk => ⟨(5, ()), ho, ⟨rfl, (z_thr hP hS hz hk).1⟩, (z_thr hP hS hz hk).2⟩) hS.2.2 (Nat.le_of_ble_eq_true rfl) (Nat.le_of_ble_eq_true rfl)
abbrev w_X11_meanValue : List Cond := .code yX11_meanValue cX11_meanValue 1 (some .double) :: wU
abbrev r_X11_meanValue : Room := { frames := 2, cells := 0, slots := 0, locals := 43 }
abbrev q_X11_meanValue (g : GG) (q0 q1 q2 q3 q4 q5 q6 q7 q8 q9 q10 q11 q12 : Nat) (mm : Nat → Int64) (masd : Nat → Int64) (msav : Nat → Int64) (misS : Int32) (mpst : Nat → Int64) (mchg : Int32) (merr : Int32) (mfai : Int32) (mthr : Int32) (minp : Nat → Int32) (minM : Int32) (mUp : Nat → Int32) (mcar : Nat → Int32) (mcam : Nat → Int32) (mahd : Int32) (magn : Int32) (mltr : Nat → Int32) (mbeg : Nat → Int32) (mcmd : Nat → Int32) (mcmM : Int32) (mpl : Int32) (msz : Int32) (mwr : Int32) (mlin : Nat → Int32) (mliM : Int32) (o : UInt64 × Int32) (A : Nat → Prop) := va_Qd (fun (r : UInt64) (u : Int32) => o.1 = r ∧ o.2 = u) (fun u t => va_P (gD g) zCl (wModel g q0 q1 q2 q3 q4 q5 q6 q7 q8 q9 q10 q11 q12 mm masd msav misS mpst mchg merr mfai u minp minM mUp mcar mcam mahd magn mltr mbeg mcmd mcmM mpl msz mwr mlin mliM) t.heap) A
set_option maxHeartbeats 4000000 in
set_option maxRecDepth 100000 in
theorem c_X11_meanValue (l : Launch) (g : GG) (q0 q1 q2 q3 q4 q5 q6 q7 q8 q9 q10 q11 q12 : Nat) (mm : Nat → Int64) (masd : Nat → Int64) (msav : Nat → Int64) (misS : Int32) (mpst : Nat → Int64) (mchg : Int32) (merr : Int32) (mfai : Int32) (mthr : Int32) (minp : Nat → Int32) (minM : Int32) (mUp : Nat → Int32) (mcar : Nat → Int32) (mcam : Nat → Int32) (mahd : Int32) (magn : Int32) (mltr : Nat → Int32) (mbeg : Nat → Int32) (mcmd : Nat → Int32) (mcmM : Int32) (mpl : Int32) (msz : Int32) (mwr : Int32) (mlin : Nat → Int32) (mliM : Int32) (sz : Nat) (fu : Nat) (o : UInt64 × Int32) (hF : F_X11_meanValue fu mm mthr = some o) : Met l yX11_meanValue w_X11_meanValue r_X11_meanValue (va_Pc [.ref q0] (zP g (wModel g q0 q1 q2 q3 q4 q5 q6 q7 q8 q9 q10 q11 q12 mm masd msav misS mpst mchg merr mfai mthr minp minM mUp mcar mcam mahd magn mltr mbeg mcmd mcmM mpl msz mwr mlin mliM) sz)) (q_X11_meanValue g q0 q1 q2 q3 q4 q5 q6 q7 q8 q9 q10 q11 q12 mm masd msav misS mpst mchg merr mfai mthr minp minM mUp mcar mcam mahd magn mltr mbeg mcmd mcmM mpl msz mwr mlin mliM o (va_A (wModel g q0 q1 q2 q3 q4 q5 q6 q7 q8 q9 q10 q11 q12 mm masd msav misS mpst mchg merr mfai mthr minp minM mUp mcar mcam mahd magn mltr mbeg mcmd mcmM mpl msz mwr mlin mliM) sz)) 0 0 (va_A (wModel g q0 q1 q2 q3 q4 q5 q6 q7 q8 q9 q10 q11 q12 mm masd msav misS mpst mchg merr mfai mthr minp minM mUp mcar mcam mahd magn mltr mbeg mcmd mcmM mpl msz mwr mlin mliM) sz) := by
  refine Met.ofW (cc := cX11_meanValue) (maxL := 1) (ret := (some .double)) (by decide) rfl ?_
  intro p e s m args below meth c s₁ B hml hv
  obtain ⟨rfl, rfl, hP, hK, hD0, hB⟩ := hv
  have hx := B.exec
  have hb := B.bytes
  have hr := B.returns
  have hts : ∀ w ∈ wU, w.before _ s = true := fun w h => atoms_spec (ws := w_X11_meanValue) B.pre w (List.mem_cons_of_mem _ h)
  have hown : s.vm.findClass RX11 = some m.cls := findClass_of_methodNamed B.named
  have hlocks := B.notSynchronized
  have hD := hD0.self (sz := s.heap.size)
  generalize hAe : va_A (wModel g q0 q1 q2 q3 q4 q5 q6 q7 q8 q9 q10 q11 q12 mm masd msav misS mpst mchg merr mfai mthr minp minM mUp mcar mcam mahd magn mltr mbeg mcmd mcmM mpl msz mwr mlin mliM) s.heap.size = A at hD hB ⊢
  have hA : ∀ q : Nat, s.heap.size ≤ q → A q := fun q h => by rw [← hAe]; exact Or.inr h
  have hS : va_S A s.heap s.heap [] := va_S.rf
  have hl := lv_entry ([.ref q0]) (n := 1) (Nat.le_of_ble_eq_true rfl)
  rw [lg_entry_eq]
  generalize (lg_sl ([.ref q0]) ++ List.replicate (1 - (lg_sl ([.ref q0])).length) Slot.unset).toArray = ls at hl ⊢
  have hl : lv_has ls 1 [(0, .ref q0)] := hl
  unfold F_X11_meanValue at hF
  refine lv_aload_n hx hb dX11_meanValue_0 rfl (lv_at hl 0 rfl) ?_
  refine lv_iconst (v := 0) hx hb dX11_meanValue_1 (by decide) ?_
  refine va_put (D := gD g) (ci := 7) (v := .int 0) (ty := .int) (C := RX11) (T := TX11) (N := 25) hx hb hts inX11 tyX11 tyX11_ok nmX11 hown hK hP hD hS 0 rfl rfl 8 (by decide) (hts _ mU_1252) (fun _ h9 => h9) rfl (by decide +kernel) rfl rfl (Nat.le_of_ble_eq_true rfl) dX11_meanValue_2 (fun H locs hP hD hS => ?_)
  have hP : va_P (gD g) zCl (wModel g q0 q1 q2 q3 q4 q5 q6 q7 q8 q9 q10 q11 q12 mm masd msav misS mpst mchg merr mfai 0 minp minM mUp mcar mcam mahd magn mltr mbeg mcmd mcmM mpl msz mwr mlin mliM) H := hP
  have hD : va_D A (wModel g q0 q1 q2 q3 q4 q5 q6 q7 q8 q9 q10 q11 q12 mm masd msav misS mpst mchg merr mfai 0 minp minM mUp mcar mcam mahd magn mltr mbeg mcmd mcmM mpl msz mwr mlin mliM) := hD
  refine lv_aload_n hx hb dX11_meanValue_5 rfl (lv_at hl 0 rfl) ?_
  obtain ⟨zo1, hzo1, hF⟩ := z_bind hF
  refine z_calliE (fun (_ : Unit) => (wModel g q0 q1 q2 q3 q4 q5 q6 q7 q8 q9 q10 q11 q12 mm masd msav misS mpst mchg merr mfai 0 minp minM mUp mcar mcam mahd magn mltr mbeg mcmd mcmM mpl msz mwr mlin mliM)) (va_runV (As := []) (rest := []) ⟨hx, hb, hml, hown, hts⟩ (c_X11_many l g q0 q1 q2 q3 q4 q5 q6 q7 q8 q9 q10 q11 q12 mm masd msav misS mpst mchg merr mfai 0 minp minM mUp mcar mcam mahd magn mltr mbeg mcmd mcmM mpl msz mwr mlin mliM _ _ hzo1) (cwV 0 hts (gdV mU_1356 mU_1358 mU_32 mU_75 mU_1359) rfl rfl rfl (by decide +kernel) ⟨Nat.le_of_ble_eq_true rfl, Nat.le_of_ble_eq_true rfl⟩) ⟨z_blind _ _ _ _, va_recv hK hP (ci := 7) (q0 := 0) rfl rfl, fun U hU hW => z_preE hP hD hK hB hS hA hU hW⟩ rfl rfl hl.1 rfl (lv_room (Nat.le_of_ble_eq_true rfl)) dX11_meanValue_6 ⟨Nat.le_of_ble_eq_true rfl, Nat.le_of_ble_eq_true rfl⟩) hD hS hA (fun _ => rfl) (fun r u H locs hw hP hD hS => ?_)
  subst hw
  have hP : va_P (gD g) zCl (wModel g q0 q1 q2 q3 q4 q5 q6 q7 q8 q9 q10 q11 q12 mm masd msav misS mpst mchg merr mfai 0 minp minM mUp mcar mcam mahd magn mltr mbeg mcmd mcmM mpl msz mwr mlin mliM) H := hP
  have hD : va_D A (wModel g q0 q1 q2 q3 q4 q5 q6 q7 q8 q9 q10 q11 q12 mm masd msav misS mpst mchg merr mfai 0 minp minM mUp mcar mcam mahd magn mltr mbeg mcmd mcmM mpl msz mwr mlin mliM) := hD
  refine lv_if_ne (tgt := 20) hx hb dX11_meanValue_9 (by decide) (fun zc2 => ?_) (fun zc2 => ?_)
  · have hF := z_neg hF zc2
    refine lv_aload_n hx hb dX11_meanValue_20 rfl (lv_at hl 0 rfl) ?_
    obtain ⟨zo3, hzo3, hF⟩ := z_bind hF
    refine z_calllE (fun (_ : Unit) => (wModel g q0 q1 q2 q3 q4 q5 q6 q7 q8 q9 q10 q11 q12 mm masd msav misS mpst mchg merr mfai 0 minp minM mUp mcar mcam mahd magn mltr mbeg mcmd mcmM mpl msz mwr mlin mliM)) (va_runV (As := []) (rest := []) ⟨hx, hb, hml, hown, hts⟩ (c_X11_sum l g q0 q1 q2 q3 q4 q5 q6 q7 q8 q9 q10 q11 q12 mm masd msav misS mpst mchg merr mfai 0 minp minM mUp mcar mcam mahd magn mltr mbeg mcmd mcmM mpl msz mwr mlin mliM _ fu _ hzo3) (cwV 0 hts (gdV mU_1460 mU_1462 mU_46 mU_75 mU_1463) rfl rfl rfl (by decide +kernel) ⟨Nat.le_of_ble_eq_true rfl, Nat.le_of_ble_eq_true rfl⟩) ⟨z_blind _ _ _ _, va_recv hK hP (ci := 7) (q0 := 0) rfl rfl, fun U hU hW => z_preE hP hD hK hB hS hA hU hW⟩ rfl rfl hl.1 rfl (lv_room (Nat.le_of_ble_eq_true rfl)) dX11_meanValue_21 ⟨Nat.le_of_ble_eq_true rfl, Nat.le_of_ble_eq_true rfl⟩) hD hS hA (fun _ => rfl) (fun r u H locs hw hP hD hS => ?_)
    subst hw
    have hP : va_P (gD g) zCl (wModel g q0 q1 q2 q3 q4 q5 q6 q7 q8 q9 q10 q11 q12 mm masd msav misS mpst mchg merr mfai 0 minp minM mUp mcar mcam mahd magn mltr mbeg mcmd mcmM mpl msz mwr mlin mliM) H := hP
    have hD : va_D A (wModel g q0 q1 q2 q3 q4 q5 q6 q7 q8 q9 q10 q11 q12 mm masd msav misS mpst mchg merr mfai 0 minp minM mUp mcar mcam mahd magn mltr mbeg mcmd mcmM mpl msz mwr mlin mliM) := hD
    refine lv_l2d hx hb dX11_meanValue_24 ?_
    refine lv_aload_n hx hb dX11_meanValue_25 rfl (lv_at hl 0 rfl) ?_
    obtain ⟨zo4, hzo4, hF⟩ := z_bind hF
    refine z_calliE (fun (_ : Unit) => (wModel g q0 q1 q2 q3 q4 q5 q6 q7 q8 q9 q10 q11 q12 mm masd msav misS mpst mchg merr mfai 0 minp minM mUp mcar mcam mahd magn mltr mbeg mcmd mcmM mpl msz mwr mlin mliM)) (va_runV (As := []) (rest := [.double (FP.l2d zo3)]) ⟨hx, hb, hml, hown, hts⟩ (c_X11_many l g q0 q1 q2 q3 q4 q5 q6 q7 q8 q9 q10 q11 q12 mm masd msav misS mpst mchg merr mfai 0 minp minM mUp mcar mcam mahd magn mltr mbeg mcmd mcmM mpl msz mwr mlin mliM _ _ hzo4) (cwV 0 hts (gdV mU_1356 mU_1358 mU_32 mU_75 mU_1359) rfl rfl rfl (by decide +kernel) ⟨Nat.le_of_ble_eq_true rfl, Nat.le_of_ble_eq_true rfl⟩) ⟨z_blind _ _ _ _, va_recv hK hP (ci := 7) (q0 := 0) rfl rfl, fun U hU hW => z_preE hP hD hK hB hS hA hU hW⟩ rfl rfl hl.1 rfl (lv_room (Nat.le_of_ble_eq_true rfl)) dX11_meanValue_26 ⟨Nat.le_of_ble_eq_true rfl, Nat.le_of_ble_eq_true rfl⟩) hD hS hA (fun _ => rfl) (fun r u H locs hw hP hD hS => ?_)
    subst hw
    have hP : va_P (gD g) zCl (wModel g q0 q1 q2 q3 q4 q5 q6 q7 q8 q9 q10 q11 q12 mm masd msav misS mpst mchg merr mfai 0 minp minM mUp mcar mcam mahd magn mltr mbeg mcmd mcmM mpl msz mwr mlin mliM) H := hP
    have hD : va_D A (wModel g q0 q1 q2 q3 q4 q5 q6 q7 q8 q9 q10 q11 q12 mm masd msav misS mpst mchg merr mfai 0 minp minM mUp mcar mcam mahd magn mltr mbeg mcmd mcmM mpl msz mwr mlin mliM) := hD
    refine lv_i2d hx hb dX11_meanValue_29 ?_
    obtain ⟨zg5, hF⟩ := z_grd hF
    refine lv_ddiv hx hb dX11_meanValue_30 (Classical.not_not.mp zg5) ?_
    refine lv_ldc2d (v := 4666723172467343360) hx hb hown (hts _ mU_1599) dX11_meanValue_31 ?_
    obtain ⟨zg6, hF⟩ := z_grd hF
    refine lv_ddiv hx hb dX11_meanValue_34 (Classical.not_not.mp zg6) ?_
    have ho := (Option.some.inj hF).symm
    exact W.dret (v := (FP.ddiv (FP.ddiv (FP.l2d zo3) (FP.i2d zo4)) (4666723172467343360 : UInt64))) hx hb hr (fun t ht hW => ⟨⟨(FP.ddiv (FP.ddiv (FP.l2d zo3) (FP.i2d zo4)) (4666723172467343360 : UInt64)), 0, rfl, ⟨by rw [ho], by rw [ho]⟩, z_end ht hP⟩, hS.F ht⟩) hS.2.2 dX11_meanValue_35
  · have hF := z_pos hF zc2
    refine lv_aload_n hx hb dX11_meanValue_12 rfl (lv_at hl 0 rfl) ?_
    refine lv_iconst (v := 1) hx hb dX11_meanValue_13 (by decide) ?_
    obtain ⟨zo7, hzo7, hF⟩ := z_bind hF
    refine z_calliE (fun (u : Int32) => (wModel g q0 q1 q2 q3 q4 q5 q6 q7 q8 q9 q10 q11 q12 mm masd msav misS mpst mchg merr mfai u minp minM mUp mcar mcam mahd magn mltr mbeg mcmd mcmM mpl msz mwr mlin mliM)) (va_runV (As := [.int 1]) (rest := []) ⟨hx, hb, hml, hown, hts⟩ (c_X11_throwing l g q0 q1 q2 q3 q4 q5 q6 q7 q8 q9 q10 q11 q12 mm masd msav misS mpst mchg merr mfai 0 minp minM mUp mcar mcam mahd magn mltr mbeg mcmd mcmM mpl msz mwr mlin mliM _ 1 _ hzo7) (cwV 1 hts (gdV mU_1352 mU_1354 mU_31 mU_75 mU_1355) rfl rfl rfl (by decide +kernel) ⟨Nat.le_of_ble_eq_true rfl, Nat.le_of_ble_eq_true rfl⟩) ⟨z_blind _ _ _ _, va_recv hK hP (ci := 7) (q0 := 0) rfl rfl, fun U hU hW => z_preE hP hD hK hB hS hA hU hW⟩ rfl rfl hl.1 rfl (lv_room (Nat.le_of_ble_eq_true rfl)) dX11_meanValue_14 ⟨Nat.le_of_ble_eq_true rfl, Nat.le_of_ble_eq_true rfl⟩) hD hS hA (fun _ => rfl) (fun r u H locs hw hP hD hS => ?_)
    obtain ⟨rfl, rfl⟩ := hw
    have hP : va_P (gD g) zCl (wModel g q0 q1 q2 q3 q4 q5 q6 q7 q8 q9 q10 q11 q12 mm masd msav misS mpst mchg merr mfai zo7.2 minp minM mUp mcar mcam mahd magn mltr mbeg mcmd mcmM mpl msz mwr mlin mliM) H := hP
    have hD : va_D A (wModel g q0 q1 q2 q3 q4 q5 q6 q7 q8 q9 q10 q11 q12 mm masd msav misS mpst mchg merr mfai zo7.2 minp minM mUp mcar mcam mahd magn mltr mbeg mcmd mcmM mpl msz mwr mlin mliM) := hD
    refine lv_pop hx hb dX11_meanValue_17 rfl ?_
    refine lv_dconst0 hx hb dX11_meanValue_18 ?_
    have ho := (Option.some.inj hF).symm
    exact W.dret (v := FP.dconst0) hx hb hr (fun t ht hW => ⟨⟨FP.dconst0, zo7.2, rfl, ⟨by rw [ho], by rw [ho]⟩, z_end ht hP⟩, hS.F ht⟩) hS.2.2 dX11_meanValue_19
abbrev w_X11_share : List Cond := .code yX11_share cX11_share 4 (some .float) :: wU
abbrev r_X11_share : Room := { frames := 3, cells := 0, slots := 0, locals := 64 }
abbrev q_X11_share (g : GG) (q0 q1 q2 q3 q4 q5 q6 q7 q8 q9 q10 q11 q12 : Nat) (mm : Nat → Int64) (masd : Nat → Int64) (msav : Nat → Int64) (misS : Int32) (mpst : Nat → Int64) (mchg : Int32) (merr : Int32) (mfai : Int32) (mthr : Int32) (minp : Nat → Int32) (minM : Int32) (mUp : Nat → Int32) (mcar : Nat → Int32) (mcam : Nat → Int32) (mahd : Int32) (magn : Int32) (mltr : Nat → Int32) (mbeg : Nat → Int32) (mcmd : Nat → Int32) (mcmM : Int32) (mpl : Int32) (msz : Int32) (mwr : Int32) (mlin : Nat → Int32) (mliM : Int32) (o : UInt32 × Int32) (A : Nat → Prop) := va_Qf (fun (r : UInt32) (u : Int32) => o.1 = r ∧ o.2 = u) (fun u t => va_P (gD g) zCl (wModel g q0 q1 q2 q3 q4 q5 q6 q7 q8 q9 q10 q11 q12 mm masd msav misS mpst mchg merr mfai u minp minM mUp mcar mcam mahd magn mltr mbeg mcmd mcmM mpl msz mwr mlin mliM) t.heap) A
set_option maxHeartbeats 4000000 in
set_option maxRecDepth 100000 in
theorem c_X11_share (l : Launch) (g : GG) (q0 q1 q2 q3 q4 q5 q6 q7 q8 q9 q10 q11 q12 : Nat) (mm : Nat → Int64) (masd : Nat → Int64) (msav : Nat → Int64) (misS : Int32) (mpst : Nat → Int64) (mchg : Int32) (merr : Int32) (mfai : Int32) (mthr : Int32) (minp : Nat → Int32) (minM : Int32) (mUp : Nat → Int32) (mcar : Nat → Int32) (mcam : Nat → Int32) (mahd : Int32) (magn : Int32) (mltr : Nat → Int32) (mbeg : Nat → Int32) (mcmd : Nat → Int32) (mcmM : Int32) (mpl : Int32) (msz : Int32) (mwr : Int32) (mlin : Nat → Int32) (mliM : Int32) (sz : Nat) (p1 : Int32) (fu : Nat) (o : UInt32 × Int32) (hF : F_X11_share fu mm mthr p1 = some o) : Met l yX11_share w_X11_share r_X11_share (va_Pc [.ref q0, .int p1] (zP g (wModel g q0 q1 q2 q3 q4 q5 q6 q7 q8 q9 q10 q11 q12 mm masd msav misS mpst mchg merr mfai mthr minp minM mUp mcar mcam mahd magn mltr mbeg mcmd mcmM mpl msz mwr mlin mliM) sz)) (q_X11_share g q0 q1 q2 q3 q4 q5 q6 q7 q8 q9 q10 q11 q12 mm masd msav misS mpst mchg merr mfai mthr minp minM mUp mcar mcam mahd magn mltr mbeg mcmd mcmM mpl msz mwr mlin mliM o (va_A (wModel g q0 q1 q2 q3 q4 q5 q6 q7 q8 q9 q10 q11 q12 mm masd msav misS mpst mchg merr mfai mthr minp minM mUp mcar mcam mahd magn mltr mbeg mcmd mcmM mpl msz mwr mlin mliM) sz)) 0 0 (va_A (wModel g q0 q1 q2 q3 q4 q5 q6 q7 q8 q9 q10 q11 q12 mm masd msav misS mpst mchg merr mfai mthr minp minM mUp mcar mcam mahd magn mltr mbeg mcmd mcmM mpl msz mwr mlin mliM) sz) := by
  refine Met.ofW (cc := cX11_share) (maxL := 4) (ret := (some .float)) (by decide) rfl ?_
  intro p e s m args below meth c s₁ B hml hv
  obtain ⟨rfl, rfl, hP, hK, hD0, hB⟩ := hv
  have hx := B.exec
  have hb := B.bytes
  have hr := B.returns
  have hts : ∀ w ∈ wU, w.before _ s = true := fun w h => atoms_spec (ws := w_X11_share) B.pre w (List.mem_cons_of_mem _ h)
  have hown : s.vm.findClass RX11 = some m.cls := findClass_of_methodNamed B.named
  have hlocks := B.notSynchronized
  have hD := hD0.self (sz := s.heap.size)
  generalize hAe : va_A (wModel g q0 q1 q2 q3 q4 q5 q6 q7 q8 q9 q10 q11 q12 mm masd msav misS mpst mchg merr mfai mthr minp minM mUp mcar mcam mahd magn mltr mbeg mcmd mcmM mpl msz mwr mlin mliM) s.heap.size = A at hD hB ⊢
  have hA : ∀ q : Nat, s.heap.size ≤ q → A q := fun q h => by rw [← hAe]; exact Or.inr h
  have hS : va_S A s.heap s.heap [] := va_S.rf
  have hl := lv_entry ([.ref q0, .int p1]) (n := 4) (Nat.le_of_ble_eq_true rfl)
  rw [lg_entry_eq]
  generalize (lg_sl ([.ref q0, .int p1]) ++ List.replicate (4 - (lg_sl ([.ref q0, .int p1])).length) Slot.unset).toArray = ls at hl ⊢
  have hl : lv_has ls 4 [(0, .ref q0), (1, .int p1)] := hl
  unfold F_X11_share at hF
  have K29 : ∀ (_ : Unit) (mthr : Int32) (x2 : Int64), F_X11_share_29 fu mm mthr x2 = some o → ∀ (H : Heap) (locs : List Loc) (ls : Array Slot), lv_has ls 4 [(0, .ref q0), (2, .long x2)] → va_P (gD g) zCl (wModel g q0 q1 q2 q3 q4 q5 q6 q7 q8 q9 q10 q11 q12 mm masd msav misS mpst mchg merr mfai mthr minp minM mUp mcar mcam mahd magn mltr mbeg mcmd mcmM mpl msz mwr mlin mliM) H → va_D A (wModel g q0 q1 q2 q3 q4 q5 q6 q7 q8 q9 q10 q11 q12 mm masd msav misS mpst mchg merr mfai mthr minp minM mUp mcar mcam mahd magn mltr mbeg mcmd mcmM mpl msz mwr mlin mliM) → va_S A s.heap H locs → W p l e (headSpec w_X11_share r_X11_share).room s m ([.ref q0, .int p1] : List Value).toArray below meth c H locs 0 0 (MQ below (q_X11_share g q0 q1 q2 q3 q4 q5 q6 q7 q8 q9 q10 q11 q12 mm masd msav misS mpst mchg merr mfai mthr minp minM mUp mcar mcam mahd magn mltr mbeg mcmd mcmM mpl msz mwr mlin mliM o A) ([.ref q0, .int p1] : List Value).toArray s 0 0 A) (F0 m 29 ls []) := by
    intro _ mthr x2 hF H locs ls hl hP hD hS
    unfold F_X11_share_29 at hF
    refine lv_aload_n hx hb dX11_share_29 rfl (lv_at hl 0 rfl) ?_
    refine va_get (D := gD g) (ci := 7) (v := .int mthr) (C := RX11) (T := TX11) (N := 25) hx hb hts inX11 hown hK hP 0 rfl rfl 8 (by decide) (hts _ mU_1252) (fun _ h9 => h9) rfl dX11_share_30 ?_
    refine lv_if_le (tgt := 40) hx hb dX11_share_33 (by decide) (fun zc1 => ?_) (fun zc1 => ?_)
    · have hF := z_pos hF zc1
      refine lv_lload_n hx hb dX11_share_40 rfl (lv_at hl 1 rfl) ?_
      refine lv_l2f hx hb dX11_share_41 ?_
      refine lv_aload_n hx hb dX11_share_42 rfl (lv_at hl 0 rfl) ?_
      obtain ⟨zo2, hzo2, hF⟩ := z_bind hF
      refine z_calllE (fun (_ : Unit) => (wModel g q0 q1 q2 q3 q4 q5 q6 q7 q8 q9 q10 q11 q12 mm masd msav misS mpst mchg merr mfai mthr minp minM mUp mcar mcam mahd magn mltr mbeg mcmd mcmM mpl msz mwr mlin mliM)) (va_runV (As := []) (rest := [.float (FP.l2f x2)]) ⟨hx, hb, hml, hown, hts⟩ (c_X11_sum l g q0 q1 q2 q3 q4 q5 q6 q7 q8 q9 q10 q11 q12 mm masd msav misS mpst mchg merr mfai mthr minp minM mUp mcar mcam mahd magn mltr mbeg mcmd mcmM mpl msz mwr mlin mliM _ fu _ hzo2) (cwV 0 hts (gdV mU_1460 mU_1462 mU_46 mU_75 mU_1463) rfl rfl rfl (by decide +kernel) ⟨Nat.le_of_ble_eq_true rfl, Nat.le_of_ble_eq_true rfl⟩) ⟨z_blind _ _ _ _, va_recv hK hP (ci := 7) (q0 := 0) rfl rfl, fun U hU hW => z_preE hP hD hK hB hS hA hU hW⟩ rfl rfl hl.1 rfl (lv_room (Nat.le_of_ble_eq_true rfl)) dX11_share_43 ⟨Nat.le_of_ble_eq_true rfl, Nat.le_of_ble_eq_true rfl⟩) hD hS hA (fun _ => rfl) (fun r u H locs hw hP hD hS => ?_)
      subst hw
      have hP : va_P (gD g) zCl (wModel g q0 q1 q2 q3 q4 q5 q6 q7 q8 q9 q10 q11 q12 mm masd msav misS mpst mchg merr mfai mthr minp minM mUp mcar mcam mahd magn mltr mbeg mcmd mcmM mpl msz mwr mlin mliM) H := hP
      have hD : va_D A (wModel g q0 q1 q2 q3 q4 q5 q6 q7 q8 q9 q10 q11 q12 mm masd msav misS mpst mchg merr mfai mthr minp minM mUp mcar mcam mahd magn mltr mbeg mcmd mcmM mpl msz mwr mlin mliM) := hD
      refine lv_l2f hx hb dX11_share_46 ?_
      obtain ⟨zg3, hF⟩ := z_grd hF
      refine lv_fdiv hx hb dX11_share_47 (Classical.not_not.mp zg3) ?_
      have ho := (Option.some.inj hF).symm
      exact W.fret (v := (FP.fdiv (FP.l2f x2) (FP.l2f zo2))) hx hb hr (fun t ht hW => ⟨⟨(FP.fdiv (FP.l2f x2) (FP.l2f zo2)), mthr, rfl, ⟨by rw [ho], by rw [ho]⟩, z_end ht hP⟩, hS.F ht⟩) hS.2.2 dX11_share_48
    · have hF := z_neg hF zc1
      refine lv_fconst0 hx hb dX11_share_36 ?_
      refine lv_goto (tgt := 48) hx hb dX11_share_37 (by decide) ?_
      have ho := (Option.some.inj hF).symm
      exact W.fret (v := FP.fconst0) hx hb hr (fun t ht hW => ⟨⟨FP.fconst0, mthr, rfl, ⟨by rw [ho], by rw [ho]⟩, z_end ht hP⟩, hS.F ht⟩) hS.2.2 dX11_share_48
  refine lv_aload_n hx hb dX11_share_0 rfl (lv_at hl 0 rfl) ?_
  refine lv_iload_n hx hb dX11_share_1 rfl (lv_at hl 1 rfl) ?_
  refine lv_iconst (v := 1) hx hb dX11_share_2 (by decide) ?_
  obtain ⟨zo4, hzo4, hF⟩ := z_bind hF
  refine z_calllE (fun (u : Int32) => (wModel g q0 q1 q2 q3 q4 q5 q6 q7 q8 q9 q10 q11 q12 mm masd msav misS mpst mchg merr mfai u minp minM mUp mcar mcam mahd magn mltr mbeg mcmd mcmM mpl msz mwr mlin mliM)) (va_runV (As := [.int p1, .int 1]) (rest := []) ⟨hx, hb, hml, hown, hts⟩ (c_X11_ofNumber l g q0 q1 q2 q3 q4 q5 q6 q7 q8 q9 q10 q11 q12 mm masd msav misS mpst mchg merr mfai mthr minp minM mUp mcar mcam mahd magn mltr mbeg mcmd mcmM mpl msz mwr mlin mliM _ p1 1 fu _ hzo4) (cwV 2 hts (gdV mU_1477 mU_1479 mU_47 mU_75 mU_1480) rfl rfl rfl (by decide +kernel) ⟨Nat.le_of_ble_eq_true rfl, Nat.le_of_ble_eq_true rfl⟩) ⟨z_blind _ _ _ _, va_recv hK hP (ci := 7) (q0 := 0) rfl rfl, fun U hU hW => z_preE hP hD hK hB hS hA hU hW⟩ rfl rfl hl.1 rfl (lv_room (Nat.le_of_ble_eq_true rfl)) dX11_share_3 ⟨Nat.le_of_ble_eq_true rfl, Nat.le_of_ble_eq_true rfl⟩) hD hS hA (fun _ => rfl) (fun r u H locs hw hP hD hS => ?_)
  obtain ⟨rfl, rfl⟩ := hw
  have hP : va_P (gD g) zCl (wModel g q0 q1 q2 q3 q4 q5 q6 q7 q8 q9 q10 q11 q12 mm masd msav misS mpst mchg merr mfai zo4.2 minp minM mUp mcar mcam mahd magn mltr mbeg mcmd mcmM mpl msz mwr mlin mliM) H := hP
  have hD : va_D A (wModel g q0 q1 q2 q3 q4 q5 q6 q7 q8 q9 q10 q11 q12 mm masd msav misS mpst mchg merr mfai zo4.2 minp minM mUp mcar mcam mahd magn mltr mbeg mcmd mcmM mpl msz mwr mlin mliM) := hD
  refine lv_lstore_n (lv' := [(2, .long zo4.1), (0, .ref q0), (1, .int p1)]) hx hb dX11_share_6 rfl hl (by decide) rfl (fun ls hl => ?_)
  refine lv_aload_n hx hb dX11_share_7 rfl (lv_at hl 1 rfl) ?_
  refine va_get (D := gD g) (ci := 7) (v := .int zo4.2) (C := RX11) (T := TX11) (N := 25) hx hb hts inX11 hown hK hP 0 rfl rfl 8 (by decide) (hts _ mU_1252) (fun _ h9 => h9) rfl dX11_share_8 ?_
  refine lv_if_ne (tgt := 29) hx hb dX11_share_11 (by decide) (fun zc5 => ?_) (fun zc5 => ?_)
  · have hF := z_neg hF zc5
    exact K29 () zo4.2 zo4.1 hF _ _ _ (lv_sub hl [1, 0] rfl) hP hD hS
  · have hF := z_pos hF zc5
    refine lv_aload_n hx hb dX11_share_14 rfl (lv_at hl 1 rfl) ?_
    obtain ⟨zo6, hzo6, hF⟩ := z_bind hF
    refine z_calllE (fun (_ : Unit) => (wModel g q0 q1 q2 q3 q4 q5 q6 q7 q8 q9 q10 q11 q12 mm masd msav misS mpst mchg merr mfai zo4.2 minp minM mUp mcar mcam mahd magn mltr mbeg mcmd mcmM mpl msz mwr mlin mliM)) (va_runV (As := []) (rest := []) ⟨hx, hb, hml, hown, hts⟩ (c_X11_sum l g q0 q1 q2 q3 q4 q5 q6 q7 q8 q9 q10 q11 q12 mm masd msav misS mpst mchg merr mfai zo4.2 minp minM mUp mcar mcam mahd magn mltr mbeg mcmd mcmM mpl msz mwr mlin mliM _ fu _ hzo6) (cwV 0 hts (gdV mU_1460 mU_1462 mU_46 mU_75 mU_1463) rfl rfl rfl (by decide +kernel) ⟨Nat.le_of_ble_eq_true rfl, Nat.le_of_ble_eq_true rfl⟩) ⟨z_blind _ _ _ _, va_recv hK hP (ci := 7) (q0 := 0) rfl rfl, fun U hU hW => z_preE hP hD hK hB hS hA hU hW⟩ rfl rfl hl.1 rfl (lv_room (Nat.le_of_ble_eq_true rfl)) dX11_share_15 ⟨Nat.le_of_ble_eq_true rfl, Nat.le_of_ble_eq_true rfl⟩) hD hS hA (fun _ => rfl) (fun r u H locs hw hP hD hS => ?_)
    subst hw
    have hP : va_P (gD g) zCl (wModel g q0 q1 q2 q3 q4 q5 q6 q7 q8 q9 q10 q11 q12 mm masd msav misS mpst mchg merr mfai zo4.2 minp minM mUp mcar mcam mahd magn mltr mbeg mcmd mcmM mpl msz mwr mlin mliM) H := hP
    have hD : va_D A (wModel g q0 q1 q2 q3 q4 q5 q6 q7 q8 q9 q10 q11 q12 mm masd msav misS mpst mchg merr mfai zo4.2 minp minM mUp mcar mcam mahd magn mltr mbeg mcmd mcmM mpl msz mwr mlin mliM) := hD
    refine lv_lconst (v := 0) hx hb dX11_share_18 (by decide) ?_
    refine z_lcmp_ne (tgt := 29) hx hb dX11_share_19 dX11_share_20 (by decide) (fun zc7 => ?_) (fun zc7 => ?_)
    · have hF := z_neg hF zc7
      exact K29 () zo4.2 zo4.1 hF _ _ _ (lv_sub hl [1, 0] rfl) hP hD hS
    · have hF := z_pos hF zc7
      refine lv_aload_n hx hb dX11_share_23 rfl (lv_at hl 1 rfl) ?_
      refine lv_iconst (v := 2) hx hb dX11_share_24 (by decide) ?_
      obtain ⟨zo8, hzo8, hF⟩ := z_bind hF
      refine z_calliE (fun (u : Int32) => (wModel g q0 q1 q2 q3 q4 q5 q6 q7 q8 q9 q10 q11 q12 mm masd msav misS mpst mchg merr mfai u minp minM mUp mcar mcam mahd magn mltr mbeg mcmd mcmM mpl msz mwr mlin mliM)) (va_runV (As := [.int 2]) (rest := []) ⟨hx, hb, hml, hown, hts⟩ (c_X11_throwing l g q0 q1 q2 q3 q4 q5 q6 q7 q8 q9 q10 q11 q12 mm masd msav misS mpst mchg merr mfai zo4.2 minp minM mUp mcar mcam mahd magn mltr mbeg mcmd mcmM mpl msz mwr mlin mliM _ 2 _ hzo8) (cwV 1 hts (gdV mU_1352 mU_1354 mU_31 mU_75 mU_1355) rfl rfl rfl (by decide +kernel) ⟨Nat.le_of_ble_eq_true rfl, Nat.le_of_ble_eq_true rfl⟩) ⟨z_blind _ _ _ _, va_recv hK hP (ci := 7) (q0 := 0) rfl rfl, fun U hU hW => z_preE hP hD hK hB hS hA hU hW⟩ rfl rfl hl.1 rfl (lv_room (Nat.le_of_ble_eq_true rfl)) dX11_share_25 ⟨Nat.le_of_ble_eq_true rfl, Nat.le_of_ble_eq_true rfl⟩) hD hS hA (fun _ => rfl) (fun r u H locs hw hP hD hS => ?_)
      obtain ⟨rfl, rfl⟩ := hw
      have hP : va_P (gD g) zCl (wModel g q0 q1 q2 q3 q4 q5 q6 q7 q8 q9 q10 q11 q12 mm masd msav misS mpst mchg merr mfai zo8.2 minp minM mUp mcar mcam mahd magn mltr mbeg mcmd mcmM mpl msz mwr mlin mliM) H := hP
      have hD : va_D A (wModel g q0 q1 q2 q3 q4 q5 q6 q7 q8 q9 q10 q11 q12 mm masd msav misS mpst mchg merr mfai zo8.2 minp minM mUp mcar mcam mahd magn mltr mbeg mcmd mcmM mpl msz mwr mlin mliM) := hD
      refine lv_pop hx hb dX11_share_28 rfl ?_
      exact K29 () zo8.2 zo4.1 hF _ _ _ (lv_sub hl [1, 0] rfl) hP hD hS
abbrev w_L_meanValue : List Cond := .codeWith yL_meanValue cL_meanValue 3 (some .int) [(0, 7, 10, 115)] :: wU
abbrev r_L_meanValue : Room := { frames := 7, cells := 1, slots := 6, locals := 102 }
abbrev q_L_meanValue (g : GG) (ad : Nat → Nat) (st : SS) (sv : SS) (isS : Int32) (hst : Nat → SS) (spare : Int32) (undo : Int32) (seen : Nat → Int32) (dbef : Int32) (drec : Int32) (ptx : Nat → Int32) (plen : Int32) (ppos : Int32) (pcnt : Int32) (cmds : Nat → CC) (stE : Int32) (stF : Int32) (lch : Nat → Int32) (llen : Int32) (jd : Nat → UInt64) (o : Int32 × (Nat → UInt64)) (A : Nat → Prop) := va_Qi (fun (r : Int32) (u : (Nat → UInt64)) => o.1 = r ∧ o.2 = u) (fun u t => va_P (gD g) zCl (wRootD g ad st sv isS hst spare undo seen dbef drec ptx plen ppos pcnt cmds stE stF lch llen u) t.heap) A
set_option maxHeartbeats 4000000 in
set_option maxRecDepth 100000 in
theorem c_L_meanValue (l : Launch) (hl0 : l.stackTraces = false) (g : GG) (ad : Nat → Nat) (st : SS) (sv : SS) (isS : Int32) (hst : Nat → SS) (spare : Int32) (undo : Int32) (seen : Nat → Int32) (dbef : Int32) (drec : Int32) (ptx : Nat → Int32) (plen : Int32) (ppos : Int32) (pcnt : Int32) (cmds : Nat → CC) (stE : Int32) (stF : Int32) (lch : Nat → Int32) (llen : Int32) (jd : Nat → UInt64) (sz : Nat) (fu : Nat) (o : Int32 × (Nat → UInt64)) (hF : F_L_meanValue fu st jd = some o) : Met l yL_meanValue w_L_meanValue r_L_meanValue (va_Pc [.ref (ad 0), .ref (ad 75)] (zP g (wRootD g ad st sv isS hst spare undo seen dbef drec ptx plen ppos pcnt cmds stE stF lch llen jd) sz)) (q_L_meanValue g ad st sv isS hst spare undo seen dbef drec ptx plen ppos pcnt cmds stE stF lch llen jd o (va_A (wRootD g ad st sv isS hst spare undo seen dbef drec ptx plen ppos pcnt cmds stE stF lch llen jd) sz)) 1 6 (va_A (wRootD g ad st sv isS hst spare undo seen dbef drec ptx plen ppos pcnt cmds stE stF lch llen jd) sz) := by
  refine va_MetW (cc := cL_meanValue) (maxL := 3) (ret := (some .int)) (by decide) rfl ?_
  intro p e s m args below meth c s₁ B hml hv
  obtain ⟨rfl, rfl, hP, hK, hD0, hB⟩ := hv
  have hx := B.exec
  have hb := B.bytes
  have hr := B.returns
  have htab : c.exceptionTable.toList = tableOf [(0, 7, 10, 115)] := vx_table (x := yL_meanValue) B (atoms_spec (ws := w_L_meanValue) B.pre _ List.mem_cons_self)
  have hts : ∀ w ∈ wU, w.before _ s = true := fun w h => atoms_spec (ws := w_L_meanValue) B.pre w (List.mem_cons_of_mem _ h)
  have hown : s.vm.findClass RL = some m.cls := findClass_of_methodNamed B.named
  have hlocks := B.notSynchronized
  have hD := hD0.self (sz := s.heap.size)
  generalize hAe : va_A (wRootD g ad st sv isS hst spare undo seen dbef drec ptx plen ppos pcnt cmds stE stF lch llen jd) s.heap.size = A at hD hB ⊢
  have hA : ∀ q : Nat, s.heap.size ≤ q → A q := fun q h => by rw [← hAe]; exact Or.inr h
  have hS : va_S A s.heap s.heap [] := va_S.rf
  have hl := lv_entry ([.ref (ad 0), .ref (ad 75)]) (n := 3) (Nat.le_of_ble_eq_true rfl)
  rw [lg_entry_eq]
  generalize (lg_sl ([.ref (ad 0), .ref (ad 75)]) ++ List.replicate (3 - (lg_sl ([.ref (ad 0), .ref (ad 75)])).length) Slot.unset).toArray = ls at hl ⊢
  have hl : lv_has ls 3 [(0, .ref (ad 0)), (1, .ref (ad 75))] := hl
  unfold F_L_meanValue at hF
  refine lv_aload_n hx hb dL_meanValue_0 rfl (lv_at hl 1 rfl) ?_
  refine lv_iconst (v := 0) hx hb dL_meanValue_1 (by decide) ?_
  refine lv_aload_n hx hb dL_meanValue_2 rfl (lv_at hl 0 rfl) ?_
  obtain ⟨zo1, hzo1, hF⟩ := z_bind hF
  refine z_calldX (fun (_ : Unit) => (wRoot g ad st sv isS hst spare undo seen dbef drec ptx plen ppos pcnt cmds stE stF lch llen)) (fun (x : Nat × (Unit)) => (wRoot g ad st sv isS hst spare undo seen dbef drec ptx plen ppos pcnt cmds stE stF lch llen)) (fun (x : Nat × (Unit)) => xN x.1) zRJ (vx_runV (As := []) (rest := [.int 0, .ref (ad 75)]) ⟨hx, hb, hml, hown, hts⟩ (c_X10_meanValue l hl0 g ad st sv isS hst spare undo seen dbef drec ptx plen ppos pcnt cmds stE stF lch llen _ fu _ hzo1) (cwV 0 hts (gdV mU_1015 mU_1016 mU_1017 mU_66 mU_1018) rfl rfl rfl (by decide +kernel) ⟨Nat.le_of_ble_eq_true rfl, Nat.le_of_ble_eq_true rfl⟩) ⟨z_blind _ _ _ _, va_recv hK hP (ci := 6) (q0 := 0) rfl rfl, fun U hU hW => z_pre zRJ hP hD hK hB hS hA wRootD_C wRootJ_N hU hW⟩ rfl rfl hl.1 rfl (lv_room (Nat.le_of_ble_eq_true rfl)) dL_meanValue_3 ⟨Nat.le_of_ble_eq_true rfl, Nat.le_of_ble_eq_true rfl⟩) hP hD hS hA wRootD_C (fun _ => rfl) (fun _ => rfl) (fun zw1 ce q9 H locs hw hP hD hS hq1 hq2 hq3 => ?_) (fun r u H locs hw hP hD hS => ?_)
  · subst hw
    have hF : _ = some o := hF
    have hP : va_P (gD g) zCl (wRootD g ad st sv isS hst spare undo seen dbef drec ptx plen ppos pcnt cmds stE stF lch llen jd) H := Eq.mp (congrArg (fun w => va_P (gD g) zCl w H) wRootD_S) hP
    have hD : va_D A (wRootD g ad st sv isS hst spare undo seen dbef drec ptx plen ppos pcnt cmds stE stF lch llen jd) := Eq.mp (congrArg (fun w => va_D A w) wRootD_S) hD
    have hF := z_err hF
    have hq3 : s.vm.findClass (xN zw1.1) = some ce.cls := hq3
    by_cases zc2 : zw1.1 = 5
    · have hF := z_pos hF zc2
      rw [zc2] at hq3
      have hq3 : s.vm.findClass "java/lang/ArithmeticException" = some ce.cls := hq3
      refine vx_catch (own := RL) (name := "java/lang/ArithmeticException") (E := "java/lang/ArithmeticException") hown [] (⟨0, 7, 10, 115⟩ : ExceptionTableEntry) [] (htab.trans rfl) (fun _ h => absurd h List.not_mem_nil) rfl (by decide) (hts _ mU_1001) (va_Nw.use rfl (hB.2.1.1 _ zn_1013)) hq1 hq2 hq3 ?_
      refine lv_astore_n (lv' := [(2, .ref q9), (0, .ref (ad 0)), (1, .ref (ad 75))]) hx hb dL_meanValue_10 rfl hl (by decide) rfl (fun ls hl => ?_)
      refine lv_iconst (v := 1) hx hb dL_meanValue_11 (by decide) ?_
      have ho := (Option.some.inj hF).symm
      exact W.iret (v := 1) hx hb hr (fun t ht hW => ⟨⟨1, jd, rfl, ⟨by rw [ho], by rw [ho]⟩, z_end ht hP⟩, hS.F ht⟩) hS.2.2 dL_meanValue_12
    have hF := z_neg hF zc2
    exact absurd hF (by simp)
  · obtain ⟨za1, rfl, rfl⟩ := hw
    have hF := z_okk hF
    have hP : va_P (gD g) zCl (wRootD g ad st sv isS hst spare undo seen dbef drec ptx plen ppos pcnt cmds stE stF lch llen jd) H := Eq.mp (congrArg (fun w => va_P (gD g) zCl w H) wRootD_S) hP
    have hD : va_D A (wRootD g ad st sv isS hst spare undo seen dbef drec ptx plen ppos pcnt cmds stE stF lch llen jd) := Eq.mp (congrArg (fun w => va_D A w) wRootD_S) hD
    refine va_dast hx hb hK hP hD hS 74 6 rfl rfl (by unfold vp_in; decide) dL_meanValue_6 (fun H locs hP hD hS => ?_)
    have hP : va_P (gD g) zCl (wRootD g ad st sv isS hst spare undo seen dbef drec ptx plen ppos pcnt cmds stE stF lch llen (vf_upd jd (Int32.toNatClampNeg 0) za1)) H := hP
    have hD : va_D A (wRootD g ad st sv isS hst spare undo seen dbef drec ptx plen ppos pcnt cmds stE stF lch llen (vf_upd jd (Int32.toNatClampNeg 0) za1)) := hD
    refine lv_goto (tgt := 13) hx hb dL_meanValue_7 (by decide) ?_
    refine lv_iconst (v := 0) hx hb dL_meanValue_13 (by decide) ?_
    have ho := (Option.some.inj hF).symm
    exact W.iret (v := 0) hx hb hr (fun t ht hW => ⟨⟨0, (vf_upd jd (Int32.toNatClampNeg 0) za1), rfl, ⟨by rw [ho], by rw [ho]⟩, z_end ht hP⟩, hS.F ht⟩) hS.2.2 dL_meanValue_14
abbrev w_L_share : List Cond := .codeWith yL_share cL_share 4 (some .int) [(0, 9, 12, 26), (0, 9, 15, 115)] :: wU
abbrev r_L_share : Room := { frames := 8, cells := 2, slots := 12, locals := 128 }
abbrev q_L_share (g : GG) (ad : Nat → Nat) (st : SS) (sv : SS) (isS : Int32) (hst : Nat → SS) (spare : Int32) (undo : Int32) (seen : Nat → Int32) (dbef : Int32) (drec : Int32) (ptx : Nat → Int32) (plen : Int32) (ppos : Int32) (pcnt : Int32) (cmds : Nat → CC) (stE : Int32) (stF : Int32) (lch : Nat → Int32) (llen : Int32) (jd : Nat → UInt64) (o : Int32 × (Nat → UInt64)) (A : Nat → Prop) := va_Qi (fun (r : Int32) (u : (Nat → UInt64)) => o.1 = r ∧ o.2 = u) (fun u t => va_P (gD g) zCl (wRootD g ad st sv isS hst spare undo seen dbef drec ptx plen ppos pcnt cmds stE stF lch llen u) t.heap) A
set_option maxHeartbeats 4000000 in
set_option maxRecDepth 100000 in
theorem c_L_share (l : Launch) (hl0 : l.stackTraces = false) (g : GG) (ad : Nat → Nat) (st : SS) (sv : SS) (isS : Int32) (hst : Nat → SS) (spare : Int32) (undo : Int32) (seen : Nat → Int32) (dbef : Int32) (drec : Int32) (ptx : Nat → Int32) (plen : Int32) (ppos : Int32) (pcnt : Int32) (cmds : Nat → CC) (stE : Int32) (stF : Int32) (lch : Nat → Int32) (llen : Int32) (jd : Nat → UInt64) (sz : Nat) (p1 : Int32) (fu : Nat) (o : Int32 × (Nat → UInt64)) (hF : F_L_share fu st jd p1 = some o) : Met l yL_share w_L_share r_L_share (va_Pc [.ref (ad 0), .int p1, .ref (ad 75)] (zP g (wRootD g ad st sv isS hst spare undo seen dbef drec ptx plen ppos pcnt cmds stE stF lch llen jd) sz)) (q_L_share g ad st sv isS hst spare undo seen dbef drec ptx plen ppos pcnt cmds stE stF lch llen jd o (va_A (wRootD g ad st sv isS hst spare undo seen dbef drec ptx plen ppos pcnt cmds stE stF lch llen jd) sz)) 2 12 (va_A (wRootD g ad st sv isS hst spare undo seen dbef drec ptx plen ppos pcnt cmds stE stF lch llen jd) sz) := by
  refine va_MetW (cc := cL_share) (maxL := 4) (ret := (some .int)) (by decide) rfl ?_
  intro p e s m args below meth c s₁ B hml hv
  obtain ⟨rfl, rfl, hP, hK, hD0, hB⟩ := hv
  have hx := B.exec
  have hb := B.bytes
  have hr := B.returns
  have htab : c.exceptionTable.toList = tableOf [(0, 9, 12, 26), (0, 9, 15, 115)] := vx_table (x := yL_share) B (atoms_spec (ws := w_L_share) B.pre _ List.mem_cons_self)
  have hts : ∀ w ∈ wU, w.before _ s = true := fun w h => atoms_spec (ws := w_L_share) B.pre w (List.mem_cons_of_mem _ h)
  have hown : s.vm.findClass RL = some m.cls := findClass_of_methodNamed B.named
  have hlocks := B.notSynchronized
  have hD := hD0.self (sz := s.heap.size)
  generalize hAe : va_A (wRootD g ad st sv isS hst spare undo seen dbef drec ptx plen ppos pcnt cmds stE stF lch llen jd) s.heap.size = A at hD hB ⊢
  have hA : ∀ q : Nat, s.heap.size ≤ q → A q := fun q h => by rw [← hAe]; exact Or.inr h
  have hS : va_S A s.heap s.heap [] := va_S.rf
  have hl := lv_entry ([.ref (ad 0), .int p1, .ref (ad 75)]) (n := 4) (Nat.le_of_ble_eq_true rfl)
  rw [lg_entry_eq]
  generalize (lg_sl ([.ref (ad 0), .int p1, .ref (ad 75)]) ++ List.replicate (4 - (lg_sl ([.ref (ad 0), .int p1, .ref (ad 75)])).length) Slot.unset).toArray = ls at hl ⊢
  have hl : lv_has ls 4 [(0, .ref (ad 0)), (1, .int p1), (2, .ref (ad 75))] := hl
  unfold F_L_share at hF
  refine lv_aload_n hx hb dL_share_0 rfl (lv_at hl 2 rfl) ?_
  refine lv_iconst (v := 0) hx hb dL_share_1 (by decide) ?_
  refine lv_aload_n hx hb dL_share_2 rfl (lv_at hl 0 rfl) ?_
  refine lv_iload_n hx hb dL_share_3 rfl (lv_at hl 1 rfl) ?_
  obtain ⟨zo1, hzo1, hF⟩ := z_bind hF
  refine z_callfX (fun (_ : Unit) => (wRoot g ad st sv isS hst spare undo seen dbef drec ptx plen ppos pcnt cmds stE stF lch llen)) (fun (x : Nat × (Unit)) => (wRoot g ad st sv isS hst spare undo seen dbef drec ptx plen ppos pcnt cmds stE stF lch llen)) (fun (x : Nat × (Unit)) => xN x.1) zRJ (vx_runV (As := [.int p1]) (rest := [.int 0, .ref (ad 75)]) ⟨hx, hb, hml, hown, hts⟩ (c_X10_share l hl0 g ad st sv isS hst spare undo seen dbef drec ptx plen ppos pcnt cmds stE stF lch llen _ p1 fu _ hzo1) (cwV 1 hts (gdV mU_1026 mU_1027 mU_1028 mU_66 mU_1029) rfl rfl rfl (by decide +kernel) ⟨Nat.le_of_ble_eq_true rfl, Nat.le_of_ble_eq_true rfl⟩) ⟨z_blind _ _ _ _, va_recv hK hP (ci := 6) (q0 := 0) rfl rfl, fun U hU hW => z_pre zRJ hP hD hK hB hS hA wRootD_C wRootJ_N hU hW⟩ rfl rfl hl.1 rfl (lv_room (Nat.le_of_ble_eq_true rfl)) dL_share_4 ⟨Nat.le_of_ble_eq_true rfl, Nat.le_of_ble_eq_true rfl⟩) hP hD hS hA wRootD_C (fun _ => rfl) (fun _ => rfl) (fun zw1 ce q9 H locs hw hP hD hS hq1 hq2 hq3 => ?_) (fun r u H locs hw hP hD hS => ?_)
  · subst hw
    have hF : _ = some o := hF
    have hP : va_P (gD g) zCl (wRootD g ad st sv isS hst spare undo seen dbef drec ptx plen ppos pcnt cmds stE stF lch llen jd) H := Eq.mp (congrArg (fun w => va_P (gD g) zCl w H) wRootD_S) hP
    have hD : va_D A (wRootD g ad st sv isS hst spare undo seen dbef drec ptx plen ppos pcnt cmds stE stF lch llen jd) := Eq.mp (congrArg (fun w => va_D A w) wRootD_S) hD
    have hF := z_err hF
    have hq3 : s.vm.findClass (xN zw1.1) = some ce.cls := hq3
    by_cases zc2 : zw1.1 = 3
    · have hF := z_pos hF zc2
      rw [zc2] at hq3
      have hq3 : s.vm.findClass "java/util/NoSuchElementException" = some ce.cls := hq3
      refine vx_catch (own := RL) (name := "java/util/NoSuchElementException") (E := "java/util/NoSuchElementException") hown [] (⟨0, 9, 12, 26⟩ : ExceptionTableEntry) [(⟨0, 9, 15, 115⟩ : ExceptionTableEntry)] (htab.trans rfl) (fun _ h => absurd h List.not_mem_nil) rfl (by decide) (hts _ mU_690) (va_Nw.use rfl (hB.2.1.1 _ zn_705)) hq1 hq2 hq3 ?_
      refine lv_astore_n (lv' := [(3, .ref q9), (0, .ref (ad 0)), (1, .int p1), (2, .ref (ad 75))]) hx hb dL_share_12 rfl hl (by decide) rfl (fun ls hl => ?_)
      refine lv_iconst (v := 1) hx hb dL_share_13 (by decide) ?_
      have ho := (Option.some.inj hF).symm
      exact W.iret (v := 1) hx hb hr (fun t ht hW => ⟨⟨1, jd, rfl, ⟨by rw [ho], by rw [ho]⟩, z_end ht hP⟩, hS.F ht⟩) hS.2.2 dL_share_14
    have hF := z_neg hF zc2
    by_cases zc3 : zw1.1 = 5
    · have hF := z_pos hF zc3
      rw [zc3] at hq3
      have hq3 : s.vm.findClass "java/lang/ArithmeticException" = some ce.cls := hq3
      refine vx_catch (own := RL) (name := "java/lang/ArithmeticException") (E := "java/lang/ArithmeticException") hown [(⟨0, 9, 12, 26⟩ : ExceptionTableEntry)] (⟨0, 9, 15, 115⟩ : ExceptionTableEntry) [] (htab.trans rfl) (List.forall_mem_cons.mpr ⟨(Or.inr ⟨by decide, "java/util/NoSuchElementException", hts _ mU_690, hB.2.1.2.1 ("java/lang/ArithmeticException", "java/util/NoSuchElementException") (by decide +kernel)⟩), (fun _ h => absurd h List.not_mem_nil)⟩) rfl (by decide) (hts _ mU_1001) (va_Nw.use rfl (hB.2.1.1 _ zn_1013)) hq1 hq2 hq3 ?_
      refine lv_astore_n (lv' := [(3, .ref q9), (0, .ref (ad 0)), (1, .int p1), (2, .ref (ad 75))]) hx hb dL_share_15 rfl hl (by decide) rfl (fun ls hl => ?_)
      refine lv_iconst (v := 2) hx hb dL_share_16 (by decide) ?_
      have ho := (Option.some.inj hF).symm
      exact W.iret (v := 2) hx hb hr (fun t ht hW => ⟨⟨2, jd, rfl, ⟨by rw [ho], by rw [ho]⟩, z_end ht hP⟩, hS.F ht⟩) hS.2.2 dL_share_17
    have hF := z_neg hF zc3
    exact absurd hF (by simp)
  · obtain ⟨za1, rfl, rfl⟩ := hw
    have hF := z_okk hF
    have hP : va_P (gD g) zCl (wRootD g ad st sv isS hst spare undo seen dbef drec ptx plen ppos pcnt cmds stE stF lch llen jd) H := Eq.mp (congrArg (fun w => va_P (gD g) zCl w H) wRootD_S) hP
    have hD : va_D A (wRootD g ad st sv isS hst spare undo seen dbef drec ptx plen ppos pcnt cmds stE stF lch llen jd) := Eq.mp (congrArg (fun w => va_D A w) wRootD_S) hD
    obtain ⟨zg4, hF⟩ := z_grd hF
    refine lv_f2d hx hb dL_share_7 (Classical.not_not.mp zg4) ?_
    refine va_dast hx hb hK hP hD hS 74 6 rfl rfl (by unfold vp_in; decide) dL_share_8 (fun H locs hP hD hS => ?_)
    have hP : va_P (gD g) zCl (wRootD g ad st sv isS hst spare undo seen dbef drec ptx plen ppos pcnt cmds stE stF lch llen (vf_upd jd (Int32.toNatClampNeg 0) (FP.f2d za1))) H := hP
    have hD : va_D A (wRootD g ad st sv isS hst spare undo seen dbef drec ptx plen ppos pcnt cmds stE stF lch llen (vf_upd jd (Int32.toNatClampNeg 0) (FP.f2d za1))) := hD
    refine lv_goto (tgt := 18) hx hb dL_share_9 (by decide) ?_
    refine lv_iconst (v := 0) hx hb dL_share_18 (by decide) ?_
    have ho := (Option.some.inj hF).symm
    exact W.iret (v := 0) hx hb hr (fun t ht hW => ⟨⟨0, (vf_upd jd (Int32.toNatClampNeg 0) (FP.f2d za1)), rfl, ⟨by rw [ho], by rw [ho]⟩, z_end ht hP⟩, hS.F ht⟩) hS.2.2 dL_share_19
