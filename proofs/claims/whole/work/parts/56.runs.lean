abbrev w_X10_carryOut : List Cond := .code yX10_carryOut cX10_carryOut 2 none :: wU
abbrev r_X10_carryOut : Room := { frames := 8, cells := 5, slots := 30, locals := 152 }
abbrev q_X10_carryOut (g : GG) (ad : Nat → Nat) (st : SS) (sv : SS) (isS : Int32) (hst : Nat → SS) (spare : Int32) (undo : Int32) (seen : Nat → Int32) (dbef : Int32) (drec : Int32) (ptx : Nat → Int32) (plen : Int32) (ppos : Int32) (pcnt : Int32) (cmds : Nat → CC) (stE : Int32) (stF : Int32) (lch : Nat → Int32) (llen : Int32) (o : Except (Nat × (SS)) (SS)) (A : Nat → Prop) := va_Qv (fun (u : SS) => ∃ a : SS, o = .ok a ∧ a = u) (fun u t => va_P (gD g) zCl (wRoot g ad u sv isS hst spare undo seen dbef drec ptx plen ppos pcnt cmds stE stF lch llen) t.heap) A
abbrev x_X10_carryOut (g : GG) (ad : Nat → Nat) (st : SS) (sv : SS) (isS : Int32) (hst : Nat → SS) (spare : Int32) (undo : Int32) (seen : Nat → Int32) (dbef : Int32) (drec : Int32) (ptx : Nat → Int32) (plen : Int32) (ppos : Int32) (pcnt : Int32) (cmds : Nat → CC) (stE : Int32) (stF : Int32) (lch : Nat → Int32) (llen : Int32) (o : Except (Nat × (SS)) (SS)) (A : Nat → Prop) := vx_X (fun (x : Nat × (SS)) => o = .error x) (fun E x t => E = xN x.1 ∧ va_P (gD g) zCl (wRoot g ad x.2 sv isS hst spare undo seen dbef drec ptx plen ppos pcnt cmds stE stF lch llen) t.heap) A
set_option maxHeartbeats 4000000 in
set_option maxRecDepth 100000 in
theorem c_X10_carryOut (l : Launch) (hl0 : l.stackTraces = false) (g : GG) (ad : Nat → Nat) (st : SS) (sv : SS) (isS : Int32) (hst : Nat → SS) (spare : Int32) (undo : Int32) (seen : Nat → Int32) (dbef : Int32) (drec : Int32) (ptx : Nat → Int32) (plen : Int32) (ppos : Int32) (pcnt : Int32) (cmds : Nat → CC) (stE : Int32) (stF : Int32) (lch : Nat → Int32) (llen : Int32) (sz : Nat) (j : Nat) (hj : j < 9) (fu : Nat) (o : Except (Nat × (SS)) (SS)) (hF : F_X10_carryOut fu st cmds j = some o) : vx_Met l yX10_carryOut w_X10_carryOut r_X10_carryOut (va_Pc [.ref (ad 0), .ref (ad (63 + j))] (zP g (wRoot g ad st sv isS hst spare undo seen dbef drec ptx plen ppos pcnt cmds stE stF lch llen) sz)) (q_X10_carryOut g ad st sv isS hst spare undo seen dbef drec ptx plen ppos pcnt cmds stE stF lch llen o (va_A (wRoot g ad st sv isS hst spare undo seen dbef drec ptx plen ppos pcnt cmds stE stF lch llen) sz)) (x_X10_carryOut g ad st sv isS hst spare undo seen dbef drec ptx plen ppos pcnt cmds stE stF lch llen o (va_A (wRoot g ad st sv isS hst spare undo seen dbef drec ptx plen ppos pcnt cmds stE stF lch llen) sz)) 5 30 (va_A (wRoot g ad st sv isS hst spare undo seen dbef drec ptx plen ppos pcnt cmds stE stF lch llen) sz) := by
  refine vx_ofW (cc := cX10_carryOut) (maxL := 2) (ret := none) (by decide) rfl ?_
  intro p e s m args below meth c s₁ B hml hnx hv
  obtain ⟨rfl, rfl, hP, hK, hD0, hB⟩ := hv
  have hx := B.exec
  have hb := B.bytes
  have hr := B.returns
  have hts : ∀ w ∈ wU, w.before _ s = true := fun w h => atoms_spec (ws := w_X10_carryOut) B.pre w (List.mem_cons_of_mem _ h)
  have hown : s.vm.findClass RX10 = some m.cls := findClass_of_methodNamed B.named
  have hlocks := B.notSynchronized
  have hD := hD0.self (sz := s.heap.size)
  generalize hAe : va_A (wRoot g ad st sv isS hst spare undo seen dbef drec ptx plen ppos pcnt cmds stE stF lch llen) s.heap.size = A at hD hB ⊢
  have hA : ∀ q : Nat, s.heap.size ≤ q → A q := fun q h => by rw [← hAe]; exact Or.inr h
  have hS : va_S A s.heap s.heap [] := va_S.rf
  have hl := lv_entry ([.ref (ad 0), .ref (ad (63 + j))]) (n := 2) (Nat.le_of_ble_eq_true rfl)
  rw [lg_entry_eq]
  generalize (lg_sl ([.ref (ad 0), .ref (ad (63 + j))]) ++ List.replicate (2 - (lg_sl ([.ref (ad 0), .ref (ad (63 + j))])).length) Slot.unset).toArray = ls at hl ⊢
  have hl : lv_has ls 2 [(0, .ref (ad 0)), (1, .ref (ad (63 + j)))] := hl
  unfold F_X10_carryOut at hF
  refine va_gets hx hb hB.2.2.2.2.2.1 hS hown (hts _ mU_1153) (fun _ h9 => h9) dX10_carryOut_0 ?_
  refine lv_aload_n hx hb dX10_carryOut_3 rfl (lv_at hl 1 rfl) ?_
  refine va_getN (D := gD g) (ci := 0) (v := .ref (gaE g (k_kind (cmds j)))) (C := RX1) (T := TX1) (N := 7) hx hb hts inX1 hown hK hP (63 + j) (wRoot_cmd hj) rfl 0 (by decide) (va_Nw.use rfl (hB.2.1.1 _ zn_214)) (fun _ h9 => h9) rfl dX10_carryOut_4 ?_
  obtain ⟨zg1, hF⟩ := z_grd hF
  obtain ⟨zo2, hzo2, hF⟩ := z_bind hF
  refine z_calli (fun (_ : Unit) => []) [] (va_runU (As := []) (rest := [.ref (gtS g)]) ⟨hx, hb, hml, hown, hts⟩ (c_Jx29ce0_ordinal_8abf5 l g _ (k_kind (cmds j)) (Classical.not_not.mp zg1) _ hzo2) (va_cwU 0 hts (gdUU mU_1154 mU_1097 mU_1099 mU_1100 mU_72 mU_1101) rfl rfl rfl rfl (by decide +kernel) ⟨Nat.le_of_ble_eq_true rfl, Nat.le_of_ble_eq_true rfl⟩) ⟨z_blind _ _ _ _, va_recvE hB.2.2.2.1.1 (Classical.not_not.mp zg1) hS, fun U hU hW => z_pre [] hP hD hK hB hS hA rfl rfl hU hW⟩ rfl rfl hl.1 rfl (lv_room (Nat.le_of_ble_eq_true rfl)) dX10_carryOut_7 ⟨Nat.le_of_ble_eq_true rfl, Nat.le_of_ble_eq_true rfl⟩) hP hD hS hA rfl (fun _ => rfl) (fun r u H locs hw hP hD hS => ?_)
  subst hw
  have hP : va_P (gD g) zCl (wRoot g ad st sv isS hst spare undo seen dbef drec ptx plen ppos pcnt cmds stE stF lch llen) H := hP
  have hD : va_D A (wRoot g ad st sv isS hst spare undo seen dbef drec ptx plen ppos pcnt cmds stE stF lch llen) := hD
  obtain ⟨zg3, hF⟩ := z_grd hF
  refine va_ti hx hb hB.2.2.2.2.2.2 hS zg3 (v := .int (zsw (Int32.toNatClampNeg zo2))) rfl dX10_carryOut_10 ?_
  by_cases zc4 : (zsw (Int32.toNatClampNeg zo2)) = 1
  · have hF := z_pos hF zc4
    refine lv_tableIn (tgt := 52) (off := 41) hx hb dX10_carryOut_11 (by rw [zc4]; decide) (by rw [zc4]; decide) (by rw [zc4]; rfl) (by decide) ?_
    refine lv_aload_n hx hb dX10_carryOut_52 rfl (lv_at hl 0 rfl) ?_
    refine lv_aload_n hx hb dX10_carryOut_53 rfl (lv_at hl 1 rfl) ?_
    refine va_getN (D := gD g) (ci := 0) (v := .int (k_whole (cmds j))) (C := RX1) (T := TX1) (N := 7) hx hb hts inX1 hown hK hP (63 + j) (wRoot_cmd hj) rfl 3 (by decide) (va_Nw.use rfl (hB.2.1.1 _ zn_220)) (fun _ h9 => h9) rfl dX10_carryOut_54 ?_
    refine lv_aload_n hx hb dX10_carryOut_57 rfl (lv_at hl 1 rfl) ?_
    refine va_getN (D := gD g) (ci := 0) (v := .int (k_frac (cmds j))) (C := RX1) (T := TX1) (N := 7) hx hb hts inX1 hown hK hP (63 + j) (wRoot_cmd hj) rfl 4 (by decide) (va_Nw.use rfl (hB.2.1.1 _ zn_222)) (fun _ h9 => h9) rfl dX10_carryOut_58 ?_
    refine lv_aload_n hx hb dX10_carryOut_61 rfl (lv_at hl 1 rfl) ?_
    refine va_getN (D := gD g) (ci := 0) (v := .int (k_scale (cmds j))) (C := RX1) (T := TX1) (N := 7) hx hb hts inX1 hown hK hP (63 + j) (wRoot_cmd hj) rfl 5 (by decide) (va_Nw.use rfl (hB.2.1.1 _ zn_224)) (fun _ h9 => h9) rfl dX10_carryOut_62 ?_
    refine lv_aload_n hx hb dX10_carryOut_65 rfl (lv_at hl 1 rfl) ?_
    refine va_getN (D := gD g) (ci := 0) (v := .int (k_mode (cmds j))) (C := RX1) (T := TX1) (N := 7) hx hb hts inX1 hown hK hP (63 + j) (wRoot_cmd hj) rfl 6 (by decide) (va_Nw.use rfl (hB.2.1.1 _ zn_226)) (fun _ h9 => h9) rfl dX10_carryOut_66 ?_
    obtain ⟨zo5, hzo5, hF⟩ := z_bind hF
    refine z_calliXE (fun (u : SS) => (wRoot g ad u sv isS hst spare undo seen dbef drec ptx plen ppos pcnt cmds stE stF lch llen)) (fun (x : Nat × (SS)) => (wRoot g ad x.2 sv isS hst spare undo seen dbef drec ptx plen ppos pcnt cmds stE stF lch llen)) (fun (x : Nat × (SS)) => xN x.1) (vx_runV (As := [.int (k_whole (cmds j)), .int (k_frac (cmds j)), .int (k_scale (cmds j)), .int (k_mode (cmds j))]) (rest := []) ⟨hx, hb, hml, hown, hts⟩ (c_X10_enterNumber l hl0 g ad st sv isS hst spare undo seen dbef drec ptx plen ppos pcnt cmds stE stF lch llen _ (k_whole (cmds j)) (k_frac (cmds j)) (k_scale (cmds j)) (k_mode (cmds j)) fu _ hzo5) (cwV 4 hts (gdV mU_448 mU_450 mU_2 mU_66 mU_451) rfl rfl rfl (by decide +kernel) ⟨Nat.le_of_ble_eq_true rfl, Nat.le_of_ble_eq_true rfl⟩) ⟨z_blind _ _ _ _, va_recv hK hP (ci := 6) (q0 := 0) rfl rfl, fun U hU hW => z_preE hP hD hK hB hS hA hU hW⟩ rfl rfl hl.1 rfl (lv_room (Nat.le_of_ble_eq_true rfl)) dX10_carryOut_69 ⟨Nat.le_of_ble_eq_true rfl, Nat.le_of_ble_eq_true rfl⟩) hD hS hA (fun _ => rfl) (fun _ => rfl) (fun zw5 ce q9 H locs hw hP hD hS hq1 hq2 hq3 => ?_) (fun r u H locs hw hP hD hS => ?_)
    · subst hw
      have hF : _ = some o := hF
      have hP : va_P (gD g) zCl (wRoot g ad zw5.2 sv isS hst spare undo seen dbef drec ptx plen ppos pcnt cmds stE stF lch llen) H := hP
      have hD : va_D A (wRoot g ad zw5.2 sv isS hst spare undo seen dbef drec ptx plen ppos pcnt cmds stE stF lch llen) := hD
      have hF := z_err hF
      have ho := (Option.some.inj hF).symm
      exact vx_out (fun x hx => (hnx x hx).elim) hlocks hq1 hq2 hq3 (fun t ht hvm => ⟨(zw5.1, zw5.2), ho, ⟨rfl, z_end ht hP⟩, hS.F ht⟩) hS.2.2 (Nat.le_of_ble_eq_true rfl) (Nat.le_of_ble_eq_true rfl)
    · obtain ⟨za5, rfl, rfl, rfl⟩ := hw
      have hF := z_okk hF
      have hP : va_P (gD g) zCl (wRoot g ad za5.2 sv isS hst spare undo seen dbef drec ptx plen ppos pcnt cmds stE stF lch llen) H := hP
      have hD : va_D A (wRoot g ad za5.2 sv isS hst spare undo seen dbef drec ptx plen ppos pcnt cmds stE stF lch llen) := hD
      refine lv_pop hx hb dX10_carryOut_72 rfl ?_
      refine lv_goto (tgt := 197) hx hb dX10_carryOut_73 (by decide) ?_
      have ho := (Option.some.inj hF).symm
      refine vx_ret ?_
      exact W.vret hx hb hr (fun t ht hW => ⟨⟨za5.2, rfl, ⟨_, ho, rfl⟩, z_end ht hP⟩, hS.F ht⟩) hS.2.2 dX10_carryOut_197
  have hF := z_neg hF zc4
  by_cases zc6 : (zsw (Int32.toNatClampNeg zo2)) = 2
  · have hF := z_pos hF zc6
    refine lv_tableIn (tgt := 76) (off := 65) hx hb dX10_carryOut_11 (by rw [zc6]; decide) (by rw [zc6]; decide) (by rw [zc6]; rfl) (by decide) ?_
    refine lv_aload_n hx hb dX10_carryOut_76 rfl (lv_at hl 0 rfl) ?_
    refine lv_aload_n hx hb dX10_carryOut_77 rfl (lv_at hl 1 rfl) ?_
    refine va_getN (D := gD g) (ci := 0) (v := .int (k_first (cmds j))) (C := RX1) (T := TX1) (N := 7) hx hb hts inX1 hown hK hP (63 + j) (wRoot_cmd hj) rfl 1 (by decide) (va_Nw.use rfl (hB.2.1.1 _ zn_216)) (fun _ h9 => h9) rfl dX10_carryOut_78 ?_
    refine lv_aload_n hx hb dX10_carryOut_81 rfl (lv_at hl 1 rfl) ?_
    refine va_getN (D := gD g) (ci := 0) (v := .int (k_second (cmds j))) (C := RX1) (T := TX1) (N := 7) hx hb hts inX1 hown hK hP (63 + j) (wRoot_cmd hj) rfl 2 (by decide) (va_Nw.use rfl (hB.2.1.1 _ zn_218)) (fun _ h9 => h9) rfl dX10_carryOut_82 ?_
    refine lv_aload_n hx hb dX10_carryOut_85 rfl (lv_at hl 1 rfl) ?_
    refine va_getN (D := gD g) (ci := 0) (v := .int (k_scale (cmds j))) (C := RX1) (T := TX1) (N := 7) hx hb hts inX1 hown hK hP (63 + j) (wRoot_cmd hj) rfl 5 (by decide) (va_Nw.use rfl (hB.2.1.1 _ zn_224)) (fun _ h9 => h9) rfl dX10_carryOut_86 ?_
    refine lv_aload_n hx hb dX10_carryOut_89 rfl (lv_at hl 1 rfl) ?_
    refine va_getN (D := gD g) (ci := 0) (v := .int (k_mode (cmds j))) (C := RX1) (T := TX1) (N := 7) hx hb hts inX1 hown hK hP (63 + j) (wRoot_cmd hj) rfl 6 (by decide) (va_Nw.use rfl (hB.2.1.1 _ zn_226)) (fun _ h9 => h9) rfl dX10_carryOut_90 ?_
    obtain ⟨zo7, hzo7, hF⟩ := z_bind hF
    refine z_calliXE (fun (u : SS) => (wRoot g ad u sv isS hst spare undo seen dbef drec ptx plen ppos pcnt cmds stE stF lch llen)) (fun (x : Nat × (SS)) => (wRoot g ad x.2 sv isS hst spare undo seen dbef drec ptx plen ppos pcnt cmds stE stF lch llen)) (fun (x : Nat × (SS)) => xN x.1) (vx_runV (As := [.int (k_first (cmds j)), .int (k_second (cmds j)), .int (k_scale (cmds j)), .int (k_mode (cmds j))]) (rest := []) ⟨hx, hb, hml, hown, hts⟩ (c_X10_enterQuotient l hl0 g ad st sv isS hst spare undo seen dbef drec ptx plen ppos pcnt cmds stE stF lch llen _ (k_first (cmds j)) (k_second (cmds j)) (k_scale (cmds j)) (k_mode (cmds j)) fu _ hzo7) (cwV 4 hts (gdV mU_676 mU_678 mU_5 mU_66 mU_679) rfl rfl rfl (by decide +kernel) ⟨Nat.le_of_ble_eq_true rfl, Nat.le_of_ble_eq_true rfl⟩) ⟨z_blind _ _ _ _, va_recv hK hP (ci := 6) (q0 := 0) rfl rfl, fun U hU hW => z_preE hP hD hK hB hS hA hU hW⟩ rfl rfl hl.1 rfl (lv_room (Nat.le_of_ble_eq_true rfl)) dX10_carryOut_93 ⟨Nat.le_of_ble_eq_true rfl, Nat.le_of_ble_eq_true rfl⟩) hD hS hA (fun _ => rfl) (fun _ => rfl) (fun zw7 ce q9 H locs hw hP hD hS hq1 hq2 hq3 => ?_) (fun r u H locs hw hP hD hS => ?_)
    · subst hw
      have hF : _ = some o := hF
      have hP : va_P (gD g) zCl (wRoot g ad zw7.2 sv isS hst spare undo seen dbef drec ptx plen ppos pcnt cmds stE stF lch llen) H := hP
      have hD : va_D A (wRoot g ad zw7.2 sv isS hst spare undo seen dbef drec ptx plen ppos pcnt cmds stE stF lch llen) := hD
      have hF := z_err hF
      have ho := (Option.some.inj hF).symm
      exact vx_out (fun x hx => (hnx x hx).elim) hlocks hq1 hq2 hq3 (fun t ht hvm => ⟨(zw7.1, zw7.2), ho, ⟨rfl, z_end ht hP⟩, hS.F ht⟩) hS.2.2 (Nat.le_of_ble_eq_true rfl) (Nat.le_of_ble_eq_true rfl)
    · obtain ⟨za7, rfl, rfl, rfl⟩ := hw
      have hF := z_okk hF
      have hP : va_P (gD g) zCl (wRoot g ad za7.2 sv isS hst spare undo seen dbef drec ptx plen ppos pcnt cmds stE stF lch llen) H := hP
      have hD : va_D A (wRoot g ad za7.2 sv isS hst spare undo seen dbef drec ptx plen ppos pcnt cmds stE stF lch llen) := hD
      refine lv_pop hx hb dX10_carryOut_96 rfl ?_
      refine lv_goto (tgt := 197) hx hb dX10_carryOut_97 (by decide) ?_
      have ho := (Option.some.inj hF).symm
      refine vx_ret ?_
      refine W.widen (k := 5) (n := 30) (Nat.le_of_ble_eq_true rfl) (Nat.le_of_ble_eq_true rfl) ?_
      exact W.vret hx hb hr (fun t ht hW => ⟨⟨za7.2, rfl, ⟨_, ho, rfl⟩, z_end ht hP⟩, hS.F ht⟩) hS.2.2 dX10_carryOut_197
  have hF := z_neg hF zc6
  by_cases zc8 : (zsw (Int32.toNatClampNeg zo2)) = 3
  · have hF := z_pos hF zc8
    refine lv_tableIn (tgt := 100) (off := 89) hx hb dX10_carryOut_11 (by rw [zc8]; decide) (by rw [zc8]; decide) (by rw [zc8]; rfl) (by decide) ?_
    refine lv_aload_n hx hb dX10_carryOut_100 rfl (lv_at hl 0 rfl) ?_
    refine lv_aload_n hx hb dX10_carryOut_101 rfl (lv_at hl 1 rfl) ?_
    refine va_getN (D := gD g) (ci := 0) (v := .int (k_first (cmds j))) (C := RX1) (T := TX1) (N := 7) hx hb hts inX1 hown hK hP (63 + j) (wRoot_cmd hj) rfl 1 (by decide) (va_Nw.use rfl (hB.2.1.1 _ zn_216)) (fun _ h9 => h9) rfl dX10_carryOut_102 ?_
    obtain ⟨zo9, hzo9, hF⟩ := z_bind hF
    refine z_calllXE (fun (u : SS) => (wRoot g ad u sv isS hst spare undo seen dbef drec ptx plen ppos pcnt cmds stE stF lch llen)) (fun (x : Nat × (SS)) => (wRoot g ad x.2 sv isS hst spare undo seen dbef drec ptx plen ppos pcnt cmds stE stF lch llen)) (fun (x : Nat × (SS)) => xN x.1) (vx_runV (As := [.int (k_first (cmds j))]) (rest := []) ⟨hx, hb, hml, hown, hts⟩ (c_X10_releaseNumber l hl0 g ad st sv isS hst spare undo seen dbef drec ptx plen ppos pcnt cmds stE stF lch llen _ (k_first (cmds j)) fu _ hzo9) (cwV 1 hts (gdV mU_695 mU_697 mU_6 mU_66 mU_698) rfl rfl rfl (by decide +kernel) ⟨Nat.le_of_ble_eq_true rfl, Nat.le_of_ble_eq_true rfl⟩) ⟨z_blind _ _ _ _, va_recv hK hP (ci := 6) (q0 := 0) rfl rfl, fun U hU hW => z_preE hP hD hK hB hS hA hU hW⟩ rfl rfl hl.1 rfl (lv_room (Nat.le_of_ble_eq_true rfl)) dX10_carryOut_105 ⟨Nat.le_of_ble_eq_true rfl, Nat.le_of_ble_eq_true rfl⟩) hD hS hA (fun _ => rfl) (fun _ => rfl) (fun zw9 ce q9 H locs hw hP hD hS hq1 hq2 hq3 => ?_) (fun r u H locs hw hP hD hS => ?_)
    · subst hw
      have hF : _ = some o := hF
      have hP : va_P (gD g) zCl (wRoot g ad zw9.2 sv isS hst spare undo seen dbef drec ptx plen ppos pcnt cmds stE stF lch llen) H := hP
      have hD : va_D A (wRoot g ad zw9.2 sv isS hst spare undo seen dbef drec ptx plen ppos pcnt cmds stE stF lch llen) := hD
      have hF := z_err hF
      have ho := (Option.some.inj hF).symm
      exact vx_out (fun x hx => (hnx x hx).elim) hlocks hq1 hq2 hq3 (fun t ht hvm => ⟨(zw9.1, zw9.2), ho, ⟨rfl, z_end ht hP⟩, hS.F ht⟩) hS.2.2 (Nat.le_of_ble_eq_true rfl) (Nat.le_of_ble_eq_true rfl)
    · obtain ⟨za9, rfl, rfl, rfl⟩ := hw
      have hF := z_okk hF
      have hP : va_P (gD g) zCl (wRoot g ad za9.2 sv isS hst spare undo seen dbef drec ptx plen ppos pcnt cmds stE stF lch llen) H := hP
      have hD : va_D A (wRoot g ad za9.2 sv isS hst spare undo seen dbef drec ptx plen ppos pcnt cmds stE stF lch llen) := hD
      refine lv_pop2_2 hx hb dX10_carryOut_108 rfl ?_
      refine lv_goto (tgt := 197) hx hb dX10_carryOut_109 (by decide) ?_
      have ho := (Option.some.inj hF).symm
      refine vx_ret ?_
      refine W.widen (k := 5) (n := 30) (Nat.le_of_ble_eq_true rfl) (Nat.le_of_ble_eq_true rfl) ?_
      exact W.vret hx hb hr (fun t ht hW => ⟨⟨za9.2, rfl, ⟨_, ho, rfl⟩, z_end ht hP⟩, hS.F ht⟩) hS.2.2 dX10_carryOut_197
  have hF := z_neg hF zc8
  by_cases zc10 : (zsw (Int32.toNatClampNeg zo2)) = 4
  · have hF := z_pos hF zc10
    refine lv_tableIn (tgt := 112) (off := 101) hx hb dX10_carryOut_11 (by rw [zc10]; decide) (by rw [zc10]; decide) (by rw [zc10]; rfl) (by decide) ?_
    refine lv_aload_n hx hb dX10_carryOut_112 rfl (lv_at hl 0 rfl) ?_
    refine lv_aload_n hx hb dX10_carryOut_113 rfl (lv_at hl 1 rfl) ?_
    refine va_getN (D := gD g) (ci := 0) (v := .int (k_first (cmds j))) (C := RX1) (T := TX1) (N := 7) hx hb hts inX1 hown hK hP (63 + j) (wRoot_cmd hj) rfl 1 (by decide) (va_Nw.use rfl (hB.2.1.1 _ zn_216)) (fun _ h9 => h9) rfl dX10_carryOut_114 ?_
    refine lv_aload_n hx hb dX10_carryOut_117 rfl (lv_at hl 1 rfl) ?_
    refine va_getN (D := gD g) (ci := 0) (v := .int (k_whole (cmds j))) (C := RX1) (T := TX1) (N := 7) hx hb hts inX1 hown hK hP (63 + j) (wRoot_cmd hj) rfl 3 (by decide) (va_Nw.use rfl (hB.2.1.1 _ zn_220)) (fun _ h9 => h9) rfl dX10_carryOut_118 ?_
    refine lv_aload_n hx hb dX10_carryOut_121 rfl (lv_at hl 1 rfl) ?_
    refine va_getN (D := gD g) (ci := 0) (v := .int (k_frac (cmds j))) (C := RX1) (T := TX1) (N := 7) hx hb hts inX1 hown hK hP (63 + j) (wRoot_cmd hj) rfl 4 (by decide) (va_Nw.use rfl (hB.2.1.1 _ zn_222)) (fun _ h9 => h9) rfl dX10_carryOut_122 ?_
    obtain ⟨zo11, hzo11, hF⟩ := z_bind hF
    refine z_calllXE (fun (u : SS) => (wRoot g ad u sv isS hst spare undo seen dbef drec ptx plen ppos pcnt cmds stE stF lch llen)) (fun (x : Nat × (SS)) => (wRoot g ad x.2 sv isS hst spare undo seen dbef drec ptx plen ppos pcnt cmds stE stF lch llen)) (fun (x : Nat × (SS)) => xN x.1) (vx_runV (As := [.int (k_first (cmds j)), .int (k_whole (cmds j)), .int (k_frac (cmds j))]) (rest := []) ⟨hx, hb, hml, hown, hts⟩ (c_X10_feedNumber l hl0 g ad st sv isS hst spare undo seen dbef drec ptx plen ppos pcnt cmds stE stF lch llen _ (k_first (cmds j)) (k_whole (cmds j)) (k_frac (cmds j)) fu _ hzo11) (cwV 3 hts (gdV mU_730 mU_732 mU_8 mU_66 mU_733) rfl rfl rfl (by decide +kernel) ⟨Nat.le_of_ble_eq_true rfl, Nat.le_of_ble_eq_true rfl⟩) ⟨z_blind _ _ _ _, va_recv hK hP (ci := 6) (q0 := 0) rfl rfl, fun U hU hW => z_preE hP hD hK hB hS hA hU hW⟩ rfl rfl hl.1 rfl (lv_room (Nat.le_of_ble_eq_true rfl)) dX10_carryOut_125 ⟨Nat.le_of_ble_eq_true rfl, Nat.le_of_ble_eq_true rfl⟩) hD hS hA (fun _ => rfl) (fun _ => rfl) (fun zw11 ce q9 H locs hw hP hD hS hq1 hq2 hq3 => ?_) (fun r u H locs hw hP hD hS => ?_)
    · subst hw
      have hF : _ = some o := hF
      have hP : va_P (gD g) zCl (wRoot g ad zw11.2 sv isS hst spare undo seen dbef drec ptx plen ppos pcnt cmds stE stF lch llen) H := hP
      have hD : va_D A (wRoot g ad zw11.2 sv isS hst spare undo seen dbef drec ptx plen ppos pcnt cmds stE stF lch llen) := hD
      have hF := z_err hF
      have ho := (Option.some.inj hF).symm
      exact vx_out (fun x hx => (hnx x hx).elim) hlocks hq1 hq2 hq3 (fun t ht hvm => ⟨(zw11.1, zw11.2), ho, ⟨rfl, z_end ht hP⟩, hS.F ht⟩) hS.2.2 (Nat.le_of_ble_eq_true rfl) (Nat.le_of_ble_eq_true rfl)
    · obtain ⟨za11, rfl, rfl, rfl⟩ := hw
      have hF := z_okk hF
      have hP : va_P (gD g) zCl (wRoot g ad za11.2 sv isS hst spare undo seen dbef drec ptx plen ppos pcnt cmds stE stF lch llen) H := hP
      have hD : va_D A (wRoot g ad za11.2 sv isS hst spare undo seen dbef drec ptx plen ppos pcnt cmds stE stF lch llen) := hD
      refine lv_pop2_2 hx hb dX10_carryOut_128 rfl ?_
      refine lv_goto (tgt := 197) hx hb dX10_carryOut_129 (by decide) ?_
      have ho := (Option.some.inj hF).symm
      refine vx_ret ?_
      refine W.widen (k := 5) (n := 30) (Nat.le_of_ble_eq_true rfl) (Nat.le_of_ble_eq_true rfl) ?_
      exact W.vret hx hb hr (fun t ht hW => ⟨⟨za11.2, rfl, ⟨_, ho, rfl⟩, z_end ht hP⟩, hS.F ht⟩) hS.2.2 dX10_carryOut_197
  have hF := z_neg hF zc10
  by_cases zc12 : (zsw (Int32.toNatClampNeg zo2)) = 5
  · have hF := z_pos hF zc12
    refine lv_tableIn (tgt := 132) (off := 121) hx hb dX10_carryOut_11 (by rw [zc12]; decide) (by rw [zc12]; decide) (by rw [zc12]; rfl) (by decide) ?_
    refine lv_aload_n hx hb dX10_carryOut_132 rfl (lv_at hl 0 rfl) ?_
    refine lv_aload_n hx hb dX10_carryOut_133 rfl (lv_at hl 1 rfl) ?_
    refine va_getN (D := gD g) (ci := 0) (v := .int (k_first (cmds j))) (C := RX1) (T := TX1) (N := 7) hx hb hts inX1 hown hK hP (63 + j) (wRoot_cmd hj) rfl 1 (by decide) (va_Nw.use rfl (hB.2.1.1 _ zn_216)) (fun _ h9 => h9) rfl dX10_carryOut_134 ?_
    refine lv_aload_n hx hb dX10_carryOut_137 rfl (lv_at hl 1 rfl) ?_
    refine va_getN (D := gD g) (ci := 0) (v := .int (k_second (cmds j))) (C := RX1) (T := TX1) (N := 7) hx hb hts inX1 hown hK hP (63 + j) (wRoot_cmd hj) rfl 2 (by decide) (va_Nw.use rfl (hB.2.1.1 _ zn_218)) (fun _ h9 => h9) rfl dX10_carryOut_138 ?_
    refine lv_aload_n hx hb dX10_carryOut_141 rfl (lv_at hl 1 rfl) ?_
    refine va_getN (D := gD g) (ci := 0) (v := .int (k_whole (cmds j))) (C := RX1) (T := TX1) (N := 7) hx hb hts inX1 hown hK hP (63 + j) (wRoot_cmd hj) rfl 3 (by decide) (va_Nw.use rfl (hB.2.1.1 _ zn_220)) (fun _ h9 => h9) rfl dX10_carryOut_142 ?_
    refine lv_aload_n hx hb dX10_carryOut_145 rfl (lv_at hl 1 rfl) ?_
    refine va_getN (D := gD g) (ci := 0) (v := .int (k_frac (cmds j))) (C := RX1) (T := TX1) (N := 7) hx hb hts inX1 hown hK hP (63 + j) (wRoot_cmd hj) rfl 4 (by decide) (va_Nw.use rfl (hB.2.1.1 _ zn_222)) (fun _ h9 => h9) rfl dX10_carryOut_146 ?_
    obtain ⟨zo13, hzo13, hF⟩ := z_bind hF
    refine z_calllXE (fun (u : SS) => (wRoot g ad u sv isS hst spare undo seen dbef drec ptx plen ppos pcnt cmds stE stF lch llen)) (fun (x : Nat × (SS)) => (wRoot g ad x.2 sv isS hst spare undo seen dbef drec ptx plen ppos pcnt cmds stE stF lch llen)) (fun (x : Nat × (SS)) => xN x.1) (vx_runV (As := [.int (k_first (cmds j)), .int (k_second (cmds j)), .int (k_whole (cmds j)), .int (k_frac (cmds j))]) (rest := []) ⟨hx, hb, hml, hown, hts⟩ (c_X10_tradeAmount l hl0 g ad st sv isS hst spare undo seen dbef drec ptx plen ppos pcnt cmds stE stF lch llen _ (k_first (cmds j)) (k_second (cmds j)) (k_whole (cmds j)) (k_frac (cmds j)) fu _ hzo13) (cwV 4 hts (gdV mU_750 mU_752 mU_9 mU_66 mU_753) rfl rfl rfl (by decide +kernel) ⟨Nat.le_of_ble_eq_true rfl, Nat.le_of_ble_eq_true rfl⟩) ⟨z_blind _ _ _ _, va_recv hK hP (ci := 6) (q0 := 0) rfl rfl, fun U hU hW => z_preE hP hD hK hB hS hA hU hW⟩ rfl rfl hl.1 rfl (lv_room (Nat.le_of_ble_eq_true rfl)) dX10_carryOut_149 ⟨Nat.le_of_ble_eq_true rfl, Nat.le_of_ble_eq_true rfl⟩) hD hS hA (fun _ => rfl) (fun _ => rfl) (fun zw13 ce q9 H locs hw hP hD hS hq1 hq2 hq3 => ?_) (fun r u H locs hw hP hD hS => ?_)
    · subst hw
      have hF : _ = some o := hF
      have hP : va_P (gD g) zCl (wRoot g ad zw13.2 sv isS hst spare undo seen dbef drec ptx plen ppos pcnt cmds stE stF lch llen) H := hP
      have hD : va_D A (wRoot g ad zw13.2 sv isS hst spare undo seen dbef drec ptx plen ppos pcnt cmds stE stF lch llen) := hD
      have hF := z_err hF
      have ho := (Option.some.inj hF).symm
      exact vx_out (fun x hx => (hnx x hx).elim) hlocks hq1 hq2 hq3 (fun t ht hvm => ⟨(zw13.1, zw13.2), ho, ⟨rfl, z_end ht hP⟩, hS.F ht⟩) hS.2.2 (Nat.le_of_ble_eq_true rfl) (Nat.le_of_ble_eq_true rfl)
    · obtain ⟨za13, rfl, rfl, rfl⟩ := hw
      have hF := z_okk hF
      have hP : va_P (gD g) zCl (wRoot g ad za13.2 sv isS hst spare undo seen dbef drec ptx plen ppos pcnt cmds stE stF lch llen) H := hP
      have hD : va_D A (wRoot g ad za13.2 sv isS hst spare undo seen dbef drec ptx plen ppos pcnt cmds stE stF lch llen) := hD
      refine lv_pop2_2 hx hb dX10_carryOut_152 rfl ?_
      refine lv_goto (tgt := 197) hx hb dX10_carryOut_153 (by decide) ?_
      have ho := (Option.some.inj hF).symm
      refine vx_ret ?_
      refine W.widen (k := 5) (n := 30) (Nat.le_of_ble_eq_true rfl) (Nat.le_of_ble_eq_true rfl) ?_
      exact W.vret hx hb hr (fun t ht hW => ⟨⟨za13.2, rfl, ⟨_, ho, rfl⟩, z_end ht hP⟩, hS.F ht⟩) hS.2.2 dX10_carryOut_197
  have hF := z_neg hF zc12
  by_cases zc14 : (zsw (Int32.toNatClampNeg zo2)) = 6
  · have hF := z_pos hF zc14
    refine lv_tableIn (tgt := 156) (off := 145) hx hb dX10_carryOut_11 (by rw [zc14]; decide) (by rw [zc14]; decide) (by rw [zc14]; rfl) (by decide) ?_
    refine lv_aload_n hx hb dX10_carryOut_156 rfl (lv_at hl 0 rfl) ?_
    refine lv_aload_n hx hb dX10_carryOut_157 rfl (lv_at hl 1 rfl) ?_
    refine va_getN (D := gD g) (ci := 0) (v := .int (k_first (cmds j))) (C := RX1) (T := TX1) (N := 7) hx hb hts inX1 hown hK hP (63 + j) (wRoot_cmd hj) rfl 1 (by decide) (va_Nw.use rfl (hB.2.1.1 _ zn_216)) (fun _ h9 => h9) rfl dX10_carryOut_158 ?_
    refine lv_aload_n hx hb dX10_carryOut_161 rfl (lv_at hl 1 rfl) ?_
    refine va_getN (D := gD g) (ci := 0) (v := .int (k_scale (cmds j))) (C := RX1) (T := TX1) (N := 7) hx hb hts inX1 hown hK hP (63 + j) (wRoot_cmd hj) rfl 5 (by decide) (va_Nw.use rfl (hB.2.1.1 _ zn_224)) (fun _ h9 => h9) rfl dX10_carryOut_162 ?_
    obtain ⟨zo15, hzo15, hF⟩ := z_bind hF
    refine z_calliXE (fun (u : SS) => (wRoot g ad u sv isS hst spare undo seen dbef drec ptx plen ppos pcnt cmds stE stF lch llen)) (fun (x : Nat × (SS)) => (wRoot g ad x.2 sv isS hst spare undo seen dbef drec ptx plen ppos pcnt cmds stE stF lch llen)) (fun (x : Nat × (SS)) => xN x.1) (vx_runV (As := [.int (k_first (cmds j)), .int (k_scale (cmds j))]) (rest := []) ⟨hx, hb, hml, hown, hts⟩ (c_X10_changeScale l hl0 g ad st sv isS hst spare undo seen dbef drec ptx plen ppos pcnt cmds stE stF lch llen _ (k_first (cmds j)) (k_scale (cmds j)) fu _ hzo15) (cwV 2 hts (gdV mU_764 mU_766 mU_10 mU_66 mU_767) rfl rfl rfl (by decide +kernel) ⟨Nat.le_of_ble_eq_true rfl, Nat.le_of_ble_eq_true rfl⟩) ⟨z_blind _ _ _ _, va_recv hK hP (ci := 6) (q0 := 0) rfl rfl, fun U hU hW => z_preE hP hD hK hB hS hA hU hW⟩ rfl rfl hl.1 rfl (lv_room (Nat.le_of_ble_eq_true rfl)) dX10_carryOut_165 ⟨Nat.le_of_ble_eq_true rfl, Nat.le_of_ble_eq_true rfl⟩) hD hS hA (fun _ => rfl) (fun _ => rfl) (fun zw15 ce q9 H locs hw hP hD hS hq1 hq2 hq3 => ?_) (fun r u H locs hw hP hD hS => ?_)
    · subst hw
      have hF : _ = some o := hF
      have hP : va_P (gD g) zCl (wRoot g ad zw15.2 sv isS hst spare undo seen dbef drec ptx plen ppos pcnt cmds stE stF lch llen) H := hP
      have hD : va_D A (wRoot g ad zw15.2 sv isS hst spare undo seen dbef drec ptx plen ppos pcnt cmds stE stF lch llen) := hD
      have hF := z_err hF
      have ho := (Option.some.inj hF).symm
      exact vx_out (fun x hx => (hnx x hx).elim) hlocks hq1 hq2 hq3 (fun t ht hvm => ⟨(zw15.1, zw15.2), ho, ⟨rfl, z_end ht hP⟩, hS.F ht⟩) hS.2.2 (Nat.le_of_ble_eq_true rfl) (Nat.le_of_ble_eq_true rfl)
    · obtain ⟨za15, rfl, rfl, rfl⟩ := hw
      have hF := z_okk hF
      have hP : va_P (gD g) zCl (wRoot g ad za15.2 sv isS hst spare undo seen dbef drec ptx plen ppos pcnt cmds stE stF lch llen) H := hP
      have hD : va_D A (wRoot g ad za15.2 sv isS hst spare undo seen dbef drec ptx plen ppos pcnt cmds stE stF lch llen) := hD
      refine lv_pop hx hb dX10_carryOut_168 rfl ?_
      refine lv_goto (tgt := 197) hx hb dX10_carryOut_169 (by decide) ?_
      have ho := (Option.some.inj hF).symm
      refine vx_ret ?_
      refine W.widen (k := 5) (n := 30) (Nat.le_of_ble_eq_true rfl) (Nat.le_of_ble_eq_true rfl) ?_
      exact W.vret hx hb hr (fun t ht hW => ⟨⟨za15.2, rfl, ⟨_, ho, rfl⟩, z_end ht hP⟩, hS.F ht⟩) hS.2.2 dX10_carryOut_197
  have hF := z_neg hF zc14
  by_cases zc16 : (zsw (Int32.toNatClampNeg zo2)) = 7
  · have hF := z_pos hF zc16
    refine lv_tableIn (tgt := 172) (off := 161) hx hb dX10_carryOut_11 (by rw [zc16]; decide) (by rw [zc16]; decide) (by rw [zc16]; rfl) (by decide) ?_
    refine lv_aload_n hx hb dX10_carryOut_172 rfl (lv_at hl 0 rfl) ?_
    refine lv_aload_n hx hb dX10_carryOut_173 rfl (lv_at hl 1 rfl) ?_
    refine va_getN (D := gD g) (ci := 0) (v := .int (k_first (cmds j))) (C := RX1) (T := TX1) (N := 7) hx hb hts inX1 hown hK hP (63 + j) (wRoot_cmd hj) rfl 1 (by decide) (va_Nw.use rfl (hB.2.1.1 _ zn_216)) (fun _ h9 => h9) rfl dX10_carryOut_174 ?_
    refine lv_aload_n hx hb dX10_carryOut_177 rfl (lv_at hl 1 rfl) ?_
    refine va_getN (D := gD g) (ci := 0) (v := .int (k_mode (cmds j))) (C := RX1) (T := TX1) (N := 7) hx hb hts inX1 hown hK hP (63 + j) (wRoot_cmd hj) rfl 6 (by decide) (va_Nw.use rfl (hB.2.1.1 _ zn_226)) (fun _ h9 => h9) rfl dX10_carryOut_178 ?_
    obtain ⟨zo17, hzo17, hF⟩ := z_bind hF
    refine z_calliXE (fun (u : SS) => (wRoot g ad u sv isS hst spare undo seen dbef drec ptx plen ppos pcnt cmds stE stF lch llen)) (fun (x : Nat × (SS)) => (wRoot g ad x.2 sv isS hst spare undo seen dbef drec ptx plen ppos pcnt cmds stE stF lch llen)) (fun (x : Nat × (SS)) => xN x.1) (vx_runV (As := [.int (k_first (cmds j)), .int (k_mode (cmds j))]) (rest := []) ⟨hx, hb, hml, hown, hts⟩ (c_X10_changeMode l hl0 g ad st sv isS hst spare undo seen dbef drec ptx plen ppos pcnt cmds stE stF lch llen _ (k_first (cmds j)) (k_mode (cmds j)) fu _ hzo17) (cwV 2 hts (gdV mU_775 mU_777 mU_11 mU_66 mU_778) rfl rfl rfl (by decide +kernel) ⟨Nat.le_of_ble_eq_true rfl, Nat.le_of_ble_eq_true rfl⟩) ⟨z_blind _ _ _ _, va_recv hK hP (ci := 6) (q0 := 0) rfl rfl, fun U hU hW => z_preE hP hD hK hB hS hA hU hW⟩ rfl rfl hl.1 rfl (lv_room (Nat.le_of_ble_eq_true rfl)) dX10_carryOut_181 ⟨Nat.le_of_ble_eq_true rfl, Nat.le_of_ble_eq_true rfl⟩) hD hS hA (fun _ => rfl) (fun _ => rfl) (fun zw17 ce q9 H locs hw hP hD hS hq1 hq2 hq3 => ?_) (fun r u H locs hw hP hD hS => ?_)
    · subst hw
      have hF : _ = some o := hF
      have hP : va_P (gD g) zCl (wRoot g ad zw17.2 sv isS hst spare undo seen dbef drec ptx plen ppos pcnt cmds stE stF lch llen) H := hP
      have hD : va_D A (wRoot g ad zw17.2 sv isS hst spare undo seen dbef drec ptx plen ppos pcnt cmds stE stF lch llen) := hD
      have hF := z_err hF
      have ho := (Option.some.inj hF).symm
      exact vx_out (fun x hx => (hnx x hx).elim) hlocks hq1 hq2 hq3 (fun t ht hvm => ⟨(zw17.1, zw17.2), ho, ⟨rfl, z_end ht hP⟩, hS.F ht⟩) hS.2.2 (Nat.le_of_ble_eq_true rfl) (Nat.le_of_ble_eq_true rfl)
    · obtain ⟨za17, rfl, rfl, rfl⟩ := hw
      have hF := z_okk hF
      have hP : va_P (gD g) zCl (wRoot g ad za17.2 sv isS hst spare undo seen dbef drec ptx plen ppos pcnt cmds stE stF lch llen) H := hP
      have hD : va_D A (wRoot g ad za17.2 sv isS hst spare undo seen dbef drec ptx plen ppos pcnt cmds stE stF lch llen) := hD
      refine lv_pop hx hb dX10_carryOut_184 rfl ?_
      refine lv_goto (tgt := 197) hx hb dX10_carryOut_185 (by decide) ?_
      have ho := (Option.some.inj hF).symm
      refine vx_ret ?_
      refine W.widen (k := 5) (n := 30) (Nat.le_of_ble_eq_true rfl) (Nat.le_of_ble_eq_true rfl) ?_
      exact W.vret hx hb hr (fun t ht hW => ⟨⟨za17.2, rfl, ⟨_, ho, rfl⟩, z_end ht hP⟩, hS.F ht⟩) hS.2.2 dX10_carryOut_197
  have hF := z_neg hF zc16
  refine lv_tableOut (tgt := 188) hx hb dX10_carryOut_11 (by have hzc4 : ((zsw (Int32.toNatClampNeg zo2)) : Int32).toInt ≠ 1 := fun h => zc4 (Int32.toInt_inj.mp h); have hzc6 : ((zsw (Int32.toNatClampNeg zo2)) : Int32).toInt ≠ 2 := fun h => zc6 (Int32.toInt_inj.mp h); have hzc8 : ((zsw (Int32.toNatClampNeg zo2)) : Int32).toInt ≠ 3 := fun h => zc8 (Int32.toInt_inj.mp h); have hzc10 : ((zsw (Int32.toNatClampNeg zo2)) : Int32).toInt ≠ 4 := fun h => zc10 (Int32.toInt_inj.mp h); have hzc12 : ((zsw (Int32.toNatClampNeg zo2)) : Int32).toInt ≠ 5 := fun h => zc12 (Int32.toInt_inj.mp h); have hzc14 : ((zsw (Int32.toNatClampNeg zo2)) : Int32).toInt ≠ 6 := fun h => zc14 (Int32.toInt_inj.mp h); have hzc16 : ((zsw (Int32.toNatClampNeg zo2)) : Int32).toInt ≠ 7 := fun h => zc16 (Int32.toInt_inj.mp h); omega) (by decide) ?_
  refine lv_aload_n hx hb dX10_carryOut_188 rfl (lv_at hl 0 rfl) ?_
  refine lv_aload_n hx hb dX10_carryOut_189 rfl (lv_at hl 1 rfl) ?_
  refine va_getN (D := gD g) (ci := 0) (v := .int (k_scale (cmds j))) (C := RX1) (T := TX1) (N := 7) hx hb hts inX1 hown hK hP (63 + j) (wRoot_cmd hj) rfl 5 (by decide) (va_Nw.use rfl (hB.2.1.1 _ zn_224)) (fun _ h9 => h9) rfl dX10_carryOut_190 ?_
  obtain ⟨zo18, hzo18, hF⟩ := z_bind hF
  refine z_calliXE (fun (u : SS) => (wRoot g ad u sv isS hst spare undo seen dbef drec ptx plen ppos pcnt cmds stE stF lch llen)) (fun (x : Nat × (SS)) => (wRoot g ad x.2 sv isS hst spare undo seen dbef drec ptx plen ppos pcnt cmds stE stF lch llen)) (fun (x : Nat × (SS)) => xN x.1) (vx_runV (As := [.int (k_scale (cmds j))]) (rest := []) ⟨hx, hb, hml, hown, hts⟩ (c_X10_roundAll l hl0 g ad st sv isS hst spare undo seen dbef drec ptx plen ppos pcnt cmds stE stF lch llen _ (k_scale (cmds j)) fu _ hzo18) (cwV 1 hts (gdV mU_786 mU_788 mU_12 mU_66 mU_789) rfl rfl rfl (by decide +kernel) ⟨Nat.le_of_ble_eq_true rfl, Nat.le_of_ble_eq_true rfl⟩) ⟨z_blind _ _ _ _, va_recv hK hP (ci := 6) (q0 := 0) rfl rfl, fun U hU hW => z_preE hP hD hK hB hS hA hU hW⟩ rfl rfl hl.1 rfl (lv_room (Nat.le_of_ble_eq_true rfl)) dX10_carryOut_193 ⟨Nat.le_of_ble_eq_true rfl, Nat.le_of_ble_eq_true rfl⟩) hD hS hA (fun _ => rfl) (fun _ => rfl) (fun zw18 ce q9 H locs hw hP hD hS hq1 hq2 hq3 => ?_) (fun r u H locs hw hP hD hS => ?_)
  · subst hw
    have hF : _ = some o := hF
    have hP : va_P (gD g) zCl (wRoot g ad zw18.2 sv isS hst spare undo seen dbef drec ptx plen ppos pcnt cmds stE stF lch llen) H := hP
    have hD : va_D A (wRoot g ad zw18.2 sv isS hst spare undo seen dbef drec ptx plen ppos pcnt cmds stE stF lch llen) := hD
    have hF := z_err hF
    have ho := (Option.some.inj hF).symm
    exact vx_out (fun x hx => (hnx x hx).elim) hlocks hq1 hq2 hq3 (fun t ht hvm => ⟨(zw18.1, zw18.2), ho, ⟨rfl, z_end ht hP⟩, hS.F ht⟩) hS.2.2 (Nat.le_of_ble_eq_true rfl) (Nat.le_of_ble_eq_true rfl)
  · obtain ⟨za18, rfl, rfl, rfl⟩ := hw
    have hF := z_okk hF
    have hP : va_P (gD g) zCl (wRoot g ad za18.2 sv isS hst spare undo seen dbef drec ptx plen ppos pcnt cmds stE stF lch llen) H := hP
    have hD : va_D A (wRoot g ad za18.2 sv isS hst spare undo seen dbef drec ptx plen ppos pcnt cmds stE stF lch llen) := hD
    refine lv_pop hx hb dX10_carryOut_196 rfl ?_
    have ho := (Option.some.inj hF).symm
    refine vx_ret ?_
    refine W.widen (k := 5) (n := 30) (Nat.le_of_ble_eq_true rfl) (Nat.le_of_ble_eq_true rfl) ?_
    exact W.vret hx hb hr (fun t ht hW => ⟨⟨za18.2, rfl, ⟨_, ho, rfl⟩, z_end ht hP⟩, hS.F ht⟩) hS.2.2 dX10_carryOut_197
abbrev w_X10_succeeds : List Cond := .codeWith yX10_succeeds cX10_succeeds 3 (some .boolean) [(0, 6, 7, 340), (0, 6, 10, 152), (0, 6, 13, 157), (0, 6, 16, 116)] :: wU
abbrev r_X10_succeeds : Room := { frames := 9, cells := 5, slots := 30, locals := 173 }
abbrev q_X10_succeeds (g : GG) (ad : Nat → Nat) (st : SS) (sv : SS) (isS : Int32) (hst : Nat → SS) (spare : Int32) (undo : Int32) (seen : Nat → Int32) (dbef : Int32) (drec : Int32) (ptx : Nat → Int32) (plen : Int32) (ppos : Int32) (pcnt : Int32) (cmds : Nat → CC) (stE : Int32) (stF : Int32) (lch : Nat → Int32) (llen : Int32) (o : Int32 × SS) (A : Nat → Prop) := va_Qi (fun (r : Int32) (u : SS) => o.1 = r ∧ o.2 = u) (fun u t => va_P (gD g) zCl (wRoot g ad u sv isS hst spare undo seen dbef drec ptx plen ppos pcnt cmds stE stF lch llen) t.heap) A
set_option maxHeartbeats 4000000 in
set_option maxRecDepth 100000 in
theorem c_X10_succeeds (l : Launch) (hl0 : l.stackTraces = false) (g : GG) (ad : Nat → Nat) (st : SS) (sv : SS) (isS : Int32) (hst : Nat → SS) (spare : Int32) (undo : Int32) (seen : Nat → Int32) (dbef : Int32) (drec : Int32) (ptx : Nat → Int32) (plen : Int32) (ppos : Int32) (pcnt : Int32) (cmds : Nat → CC) (stE : Int32) (stF : Int32) (lch : Nat → Int32) (llen : Int32) (sz : Nat) (j : Nat) (hj : j < 9) (fu : Nat) (o : Int32 × SS) (hF : F_X10_succeeds fu st cmds j = some o) : Met l yX10_succeeds w_X10_succeeds r_X10_succeeds (va_Pc [.ref (ad 0), .ref (ad (63 + j))] (zP g (wRoot g ad st sv isS hst spare undo seen dbef drec ptx plen ppos pcnt cmds stE stF lch llen) sz)) (q_X10_succeeds g ad st sv isS hst spare undo seen dbef drec ptx plen ppos pcnt cmds stE stF lch llen o (va_A (wRoot g ad st sv isS hst spare undo seen dbef drec ptx plen ppos pcnt cmds stE stF lch llen) sz)) 5 30 (va_A (wRoot g ad st sv isS hst spare undo seen dbef drec ptx plen ppos pcnt cmds stE stF lch llen) sz) := by
  refine va_MetW (cc := cX10_succeeds) (maxL := 3) (ret := (some .boolean)) (by decide) rfl ?_
  intro p e s m args below meth c s₁ B hml hv
  obtain ⟨rfl, rfl, hP, hK, hD0, hB⟩ := hv
  have hx := B.exec
  have hb := B.bytes
  have hr := B.returns
  have htab : c.exceptionTable.toList = tableOf [(0, 6, 7, 340), (0, 6, 10, 152), (0, 6, 13, 157), (0, 6, 16, 116)] := vx_table (x := yX10_succeeds) B (atoms_spec (ws := w_X10_succeeds) B.pre _ List.mem_cons_self)
  have hts : ∀ w ∈ wU, w.before _ s = true := fun w h => atoms_spec (ws := w_X10_succeeds) B.pre w (List.mem_cons_of_mem _ h)
  have hown : s.vm.findClass RX10 = some m.cls := findClass_of_methodNamed B.named
  have hlocks := B.notSynchronized
  have hD := hD0.self (sz := s.heap.size)
  generalize hAe : va_A (wRoot g ad st sv isS hst spare undo seen dbef drec ptx plen ppos pcnt cmds stE stF lch llen) s.heap.size = A at hD hB ⊢
  have hA : ∀ q : Nat, s.heap.size ≤ q → A q := fun q h => by rw [← hAe]; exact Or.inr h
  have hS : va_S A s.heap s.heap [] := va_S.rf
  have hl := lv_entry ([.ref (ad 0), .ref (ad (63 + j))]) (n := 3) (Nat.le_of_ble_eq_true rfl)
  rw [lg_entry_eq]
  generalize (lg_sl ([.ref (ad 0), .ref (ad (63 + j))]) ++ List.replicate (3 - (lg_sl ([.ref (ad 0), .ref (ad (63 + j))])).length) Slot.unset).toArray = ls at hl ⊢
  have hl : lv_has ls 3 [(0, .ref (ad 0)), (1, .ref (ad (63 + j)))] := hl
  unfold F_X10_succeeds at hF
  refine lv_aload_n hx hb dX10_succeeds_0 rfl (lv_at hl 0 rfl) ?_
  refine lv_aload_n hx hb dX10_succeeds_1 rfl (lv_at hl 1 rfl) ?_
  obtain ⟨zo1, hzo1, hF⟩ := z_bind hF
  refine z_callvXE (fun (u : SS) => (wRoot g ad u sv isS hst spare undo seen dbef drec ptx plen ppos pcnt cmds stE stF lch llen)) (fun (x : Nat × (SS)) => (wRoot g ad x.2 sv isS hst spare undo seen dbef drec ptx plen ppos pcnt cmds stE stF lch llen)) (fun (x : Nat × (SS)) => xN x.1) (vx_runV (As := [.ref (ad (63 + j))]) (rest := []) ⟨hx, hb, hml, hown, hts⟩ (c_X10_carryOut l hl0 g ad st sv isS hst spare undo seen dbef drec ptx plen ppos pcnt cmds stE stF lch llen _ j hj fu _ hzo1) (cwV 1 hts (gdV mU_1149 mU_1151 mU_28 mU_66 mU_1152) rfl rfl rfl (by decide +kernel) ⟨Nat.le_of_ble_eq_true rfl, Nat.le_of_ble_eq_true rfl⟩) ⟨z_blind _ _ _ _, va_recv hK hP (ci := 6) (q0 := 0) rfl rfl, fun U hU hW => z_preE hP hD hK hB hS hA hU hW⟩ rfl rfl hl.1 rfl (lv_room (Nat.le_of_ble_eq_true rfl)) dX10_succeeds_2 ⟨Nat.le_of_ble_eq_true rfl, Nat.le_of_ble_eq_true rfl⟩) hD hS hA (fun _ => rfl) (fun _ => rfl) (fun zw1 ce q9 H locs hw hP hD hS hq1 hq2 hq3 => ?_) (fun u H locs hw hP hD hS => ?_)
  · subst hw
    have hF : _ = some o := hF
    have hP : va_P (gD g) zCl (wRoot g ad zw1.2 sv isS hst spare undo seen dbef drec ptx plen ppos pcnt cmds stE stF lch llen) H := hP
    have hD : va_D A (wRoot g ad zw1.2 sv isS hst spare undo seen dbef drec ptx plen ppos pcnt cmds stE stF lch llen) := hD
    have hF := z_err hF
    have hq3 : s.vm.findClass (xN zw1.1) = some ce.cls := hq3
    by_cases zc2 : zw1.1 = 0
    · have hF := z_pos hF zc2
      rw [zc2] at hq3
      have hq3 : s.vm.findClass "java/lang/IllegalArgumentException" = some ce.cls := hq3
      refine vx_catch (own := RX10) (name := "java/lang/IllegalArgumentException") (E := "java/lang/IllegalArgumentException") hown [(⟨0, 6, 7, 340⟩ : ExceptionTableEntry)] (⟨0, 6, 10, 152⟩ : ExceptionTableEntry) [(⟨0, 6, 13, 157⟩ : ExceptionTableEntry), (⟨0, 6, 16, 116⟩ : ExceptionTableEntry)] (htab.trans rfl) (List.forall_mem_cons.mpr ⟨(Or.inr ⟨by decide, "java/util/NoSuchElementException", hts _ mU_703, hB.2.1.2.1 ("java/lang/IllegalArgumentException", "java/util/NoSuchElementException") (by decide +kernel)⟩), (fun _ h => absurd h List.not_mem_nil)⟩) rfl (by decide) (hts _ mU_456) (va_Nw.use rfl (hB.2.1.1 _ zn_458)) hq1 hq2 hq3 ?_
      refine lv_astore_n (lv' := [(2, .ref q9), (0, .ref (ad 0)), (1, .ref (ad (63 + j)))]) hx hb dX10_succeeds_10 rfl hl (by decide) rfl (fun ls hl => ?_)
      refine lv_iconst (v := 0) hx hb dX10_succeeds_11 (by decide) ?_
      have ho := (Option.some.inj hF).symm
      exact W.zret (v := 0) hx hb hr rfl (fun t ht hW => ⟨⟨0, zw1.2, rfl, ⟨by rw [ho], by rw [ho]⟩, z_end ht hP⟩, hS.F ht⟩) hS.2.2 dX10_succeeds_12
    have hF := z_neg hF zc2
    by_cases zc3 : zw1.1 = 1
    · have hF := z_pos hF zc3
      rw [zc3] at hq3
      have hq3 : s.vm.findClass "java/lang/IllegalStateException" = some ce.cls := hq3
      refine vx_catch (own := RX10) (name := "java/lang/IllegalStateException") (E := "java/lang/IllegalStateException") hown [(⟨0, 6, 7, 340⟩ : ExceptionTableEntry), (⟨0, 6, 10, 152⟩ : ExceptionTableEntry)] (⟨0, 6, 13, 157⟩ : ExceptionTableEntry) [(⟨0, 6, 16, 116⟩ : ExceptionTableEntry)] (htab.trans rfl) (List.forall_mem_cons.mpr ⟨(Or.inr ⟨by decide, "java/util/NoSuchElementException", hts _ mU_703, hB.2.1.2.1 ("java/lang/IllegalStateException", "java/util/NoSuchElementException") (by decide +kernel)⟩), (List.forall_mem_cons.mpr ⟨(Or.inr ⟨by decide, "java/lang/IllegalArgumentException", hts _ mU_456, hB.2.1.2.1 ("java/lang/IllegalStateException", "java/lang/IllegalArgumentException") (by decide +kernel)⟩), (fun _ h => absurd h List.not_mem_nil)⟩)⟩) rfl (by decide) (hts _ mU_627) (va_Nw.use rfl (hB.2.1.1 _ zn_629)) hq1 hq2 hq3 ?_
      refine lv_astore_n (lv' := [(2, .ref q9), (0, .ref (ad 0)), (1, .ref (ad (63 + j)))]) hx hb dX10_succeeds_13 rfl hl (by decide) rfl (fun ls hl => ?_)
      refine lv_iconst (v := 0) hx hb dX10_succeeds_14 (by decide) ?_
      have ho := (Option.some.inj hF).symm
      exact W.zret (v := 0) hx hb hr rfl (fun t ht hW => ⟨⟨0, zw1.2, rfl, ⟨by rw [ho], by rw [ho]⟩, z_end ht hP⟩, hS.F ht⟩) hS.2.2 dX10_succeeds_15
    have hF := z_neg hF zc3
    by_cases zc4 : zw1.1 = 2
    · have hF := z_pos hF zc4
      rw [zc4] at hq3
      have hq3 : s.vm.findClass "java/lang/UnsupportedOperationException" = some ce.cls := hq3
      refine vx_catch (own := RX10) (name := "java/lang/UnsupportedOperationException") (E := "java/lang/UnsupportedOperationException") hown [(⟨0, 6, 7, 340⟩ : ExceptionTableEntry), (⟨0, 6, 10, 152⟩ : ExceptionTableEntry), (⟨0, 6, 13, 157⟩ : ExceptionTableEntry)] (⟨0, 6, 16, 116⟩ : ExceptionTableEntry) [] (htab.trans rfl) (List.forall_mem_cons.mpr ⟨(Or.inr ⟨by decide, "java/util/NoSuchElementException", hts _ mU_703, hB.2.1.2.1 ("java/lang/UnsupportedOperationException", "java/util/NoSuchElementException") (by decide +kernel)⟩), (List.forall_mem_cons.mpr ⟨(Or.inr ⟨by decide, "java/lang/IllegalArgumentException", hts _ mU_456, hB.2.1.2.1 ("java/lang/UnsupportedOperationException", "java/lang/IllegalArgumentException") (by decide +kernel)⟩), (List.forall_mem_cons.mpr ⟨(Or.inr ⟨by decide, "java/lang/IllegalStateException", hts _ mU_627, hB.2.1.2.1 ("java/lang/UnsupportedOperationException", "java/lang/IllegalStateException") (by decide +kernel)⟩), (fun _ h => absurd h List.not_mem_nil)⟩)⟩)⟩) rfl (by decide) (hts _ mU_644) (va_Nw.use rfl (hB.2.1.1 _ zn_646)) hq1 hq2 hq3 ?_
      refine lv_astore_n (lv' := [(2, .ref q9), (0, .ref (ad 0)), (1, .ref (ad (63 + j)))]) hx hb dX10_succeeds_16 rfl hl (by decide) rfl (fun ls hl => ?_)
      refine lv_iconst (v := 0) hx hb dX10_succeeds_17 (by decide) ?_
      have ho := (Option.some.inj hF).symm
      exact W.zret (v := 0) hx hb hr rfl (fun t ht hW => ⟨⟨0, zw1.2, rfl, ⟨by rw [ho], by rw [ho]⟩, z_end ht hP⟩, hS.F ht⟩) hS.2.2 dX10_succeeds_18
    have hF := z_neg hF zc4
    by_cases zc5 : zw1.1 = 3
    · have hF := z_pos hF zc5
      rw [zc5] at hq3
      have hq3 : s.vm.findClass "java/util/NoSuchElementException" = some ce.cls := hq3
      refine vx_catch (own := RX10) (name := "java/util/NoSuchElementException") (E := "java/util/NoSuchElementException") hown [] (⟨0, 6, 7, 340⟩ : ExceptionTableEntry) [(⟨0, 6, 10, 152⟩ : ExceptionTableEntry), (⟨0, 6, 13, 157⟩ : ExceptionTableEntry), (⟨0, 6, 16, 116⟩ : ExceptionTableEntry)] (htab.trans rfl) (fun _ h => absurd h List.not_mem_nil) rfl (by decide) (hts _ mU_703) (va_Nw.use rfl (hB.2.1.1 _ zn_705)) hq1 hq2 hq3 ?_
      refine lv_astore_n (lv' := [(2, .ref q9), (0, .ref (ad 0)), (1, .ref (ad (63 + j)))]) hx hb dX10_succeeds_7 rfl hl (by decide) rfl (fun ls hl => ?_)
      refine lv_iconst (v := 0) hx hb dX10_succeeds_8 (by decide) ?_
      have ho := (Option.some.inj hF).symm
      exact W.zret (v := 0) hx hb hr rfl (fun t ht hW => ⟨⟨0, zw1.2, rfl, ⟨by rw [ho], by rw [ho]⟩, z_end ht hP⟩, hS.F ht⟩) hS.2.2 dX10_succeeds_9
    have hF := z_neg hF zc5
    exact absurd hF (by simp)
  · obtain ⟨za1, rfl, rfl⟩ := hw
    have hF := z_okk hF
    have hP : va_P (gD g) zCl (wRoot g ad za1 sv isS hst spare undo seen dbef drec ptx plen ppos pcnt cmds stE stF lch llen) H := hP
    have hD : va_D A (wRoot g ad za1 sv isS hst spare undo seen dbef drec ptx plen ppos pcnt cmds stE stF lch llen) := hD
    refine lv_iconst (v := 1) hx hb dX10_succeeds_5 (by decide) ?_
    have ho := (Option.some.inj hF).symm
    exact W.zret (v := 1) hx hb hr rfl (fun t ht hW => ⟨⟨1, za1, rfl, ⟨by rw [ho], by rw [ho]⟩, z_end ht hP⟩, hS.F ht⟩) hS.2.2 dX10_succeeds_6
abbrev w_X10_run : List Cond := .code yX10_run cX10_run 3 (some .int) :: wU
abbrev r_X10_run : Room := { frames := 10, cells := 51, slots := 306, locals := 195 }
abbrev q_X10_run (g : GG) (ad : Nat → Nat) (st : SS) (sv : SS) (isS : Int32) (hst : Nat → SS) (spare : Int32) (undo : Int32) (seen : Nat → Int32) (dbef : Int32) (drec : Int32) (ptx : Nat → Int32) (plen : Int32) (ppos : Int32) (pcnt : Int32) (cmds : Nat → CC) (stE : Int32) (stF : Int32) (lch : Nat → Int32) (llen : Int32) (o : Except (Nat × (SS × (Nat → SS) × Int32 × Int32 × Int32 × Int32 × Int32 × (Nat → CC) × Int32 × Int32)) (Int32 × SS × (Nat → SS) × Int32 × Int32 × Int32 × Int32 × Int32 × (Nat → CC) × Int32 × Int32)) (A : Nat → Prop) := va_Qi (fun (r : Int32) (u : SS × (Nat → SS) × Int32 × Int32 × Int32 × Int32 × Int32 × (Nat → CC) × Int32 × Int32) => ∃ a : Int32 × SS × (Nat → SS) × Int32 × Int32 × Int32 × Int32 × Int32 × (Nat → CC) × Int32 × Int32, o = .ok a ∧ a.1 = r ∧ a.2 = u) (fun u t => va_P (gD g) zCl (wRoot g ad u.1 sv isS u.2.1 u.2.2.1 u.2.2.2.1 seen dbef drec ptx u.2.2.2.2.1 u.2.2.2.2.2.1 u.2.2.2.2.2.2.1 u.2.2.2.2.2.2.2.1 u.2.2.2.2.2.2.2.2.1 u.2.2.2.2.2.2.2.2.2 lch llen) t.heap) A
abbrev x_X10_run (g : GG) (ad : Nat → Nat) (st : SS) (sv : SS) (isS : Int32) (hst : Nat → SS) (spare : Int32) (undo : Int32) (seen : Nat → Int32) (dbef : Int32) (drec : Int32) (ptx : Nat → Int32) (plen : Int32) (ppos : Int32) (pcnt : Int32) (cmds : Nat → CC) (stE : Int32) (stF : Int32) (lch : Nat → Int32) (llen : Int32) (o : Except (Nat × (SS × (Nat → SS) × Int32 × Int32 × Int32 × Int32 × Int32 × (Nat → CC) × Int32 × Int32)) (Int32 × SS × (Nat → SS) × Int32 × Int32 × Int32 × Int32 × Int32 × (Nat → CC) × Int32 × Int32)) (A : Nat → Prop) := vx_X (fun (x : Nat × (SS × (Nat → SS) × Int32 × Int32 × Int32 × Int32 × Int32 × (Nat → CC) × Int32 × Int32)) => o = .error x) (fun E x t => E = xN x.1 ∧ va_P (gD g) zCl (wRoot g ad x.2.1 sv isS x.2.2.1 x.2.2.2.1 x.2.2.2.2.1 seen dbef drec ptx x.2.2.2.2.2.1 x.2.2.2.2.2.2.1 x.2.2.2.2.2.2.2.1 x.2.2.2.2.2.2.2.2.1 x.2.2.2.2.2.2.2.2.2.1 x.2.2.2.2.2.2.2.2.2.2 lch llen) t.heap) A
set_option maxHeartbeats 4000000 in
set_option maxRecDepth 100000 in
theorem c_X10_run (l : Launch) (hl0 : l.stackTraces = false) (g : GG) (ad : Nat → Nat) (st : SS) (sv : SS) (isS : Int32) (hst : Nat → SS) (spare : Int32) (undo : Int32) (seen : Nat → Int32) (dbef : Int32) (drec : Int32) (ptx : Nat → Int32) (plen : Int32) (ppos : Int32) (pcnt : Int32) (cmds : Nat → CC) (stE : Int32) (stF : Int32) (lch : Nat → Int32) (llen : Int32) (sz : Nat) (fu : Nat) (o : Except (Nat × (SS × (Nat → SS) × Int32 × Int32 × Int32 × Int32 × Int32 × (Nat → CC) × Int32 × Int32)) (Int32 × SS × (Nat → SS) × Int32 × Int32 × Int32 × Int32 × Int32 × (Nat → CC) × Int32 × Int32)) (hF : F_X10_run fu st hst spare undo ptx plen ppos pcnt cmds stE stF = some o) : vx_Met l yX10_run w_X10_run r_X10_run (va_Pc [.ref (ad 0)] (zP g (wRoot g ad st sv isS hst spare undo seen dbef drec ptx plen ppos pcnt cmds stE stF lch llen) sz)) (q_X10_run g ad st sv isS hst spare undo seen dbef drec ptx plen ppos pcnt cmds stE stF lch llen o (va_A (wRoot g ad st sv isS hst spare undo seen dbef drec ptx plen ppos pcnt cmds stE stF lch llen) sz)) (x_X10_run g ad st sv isS hst spare undo seen dbef drec ptx plen ppos pcnt cmds stE stF lch llen o (va_A (wRoot g ad st sv isS hst spare undo seen dbef drec ptx plen ppos pcnt cmds stE stF lch llen) sz)) 51 306 (va_A (wRoot g ad st sv isS hst spare undo seen dbef drec ptx plen ppos pcnt cmds stE stF lch llen) sz) := by
  refine vx_ofW (cc := cX10_run) (maxL := 3) (ret := (some .int)) (by decide) rfl ?_
  intro p e s m args below meth c s₁ B hml hnx hv
  obtain ⟨rfl, rfl, hP, hK, hD0, hB⟩ := hv
  have hx := B.exec
  have hb := B.bytes
  have hr := B.returns
  have hts : ∀ w ∈ wU, w.before _ s = true := fun w h => atoms_spec (ws := w_X10_run) B.pre w (List.mem_cons_of_mem _ h)
  have hown : s.vm.findClass RX10 = some m.cls := findClass_of_methodNamed B.named
  have hlocks := B.notSynchronized
  have hD := hD0.self (sz := s.heap.size)
  generalize hAe : va_A (wRoot g ad st sv isS hst spare undo seen dbef drec ptx plen ppos pcnt cmds stE stF lch llen) s.heap.size = A at hD hB ⊢
  have hA : ∀ q : Nat, s.heap.size ≤ q → A q := fun q h => by rw [← hAe]; exact Or.inr h
  have hS : va_S A s.heap s.heap [] := va_S.rf
  have hl := lv_entry ([.ref (ad 0)]) (n := 3) (Nat.le_of_ble_eq_true rfl)
  rw [lg_entry_eq]
  generalize (lg_sl ([.ref (ad 0)]) ++ List.replicate (3 - (lg_sl ([.ref (ad 0)])).length) Slot.unset).toArray = ls at hl ⊢
  have hl : lv_has ls 3 [(0, .ref (ad 0))] := hl
  unfold F_X10_run at hF
  have K900055 : ∀ (_ : Unit) (st : SS) (hst : Nat → SS) (spare : Int32) (undo : Int32) (plen : Int32) (ppos : Int32) (pcnt : Int32) (cmds : Nat → CC) (stE : Int32) (stF : Int32) (x2 : Int32), F_X10_run_900055 fu st hst spare undo ptx plen ppos pcnt cmds stE stF x2 = some o → ∀ (H : Heap) (locs : List Loc) (ls : Array Slot), lv_has ls 3 [(0, .ref (ad 0)), (2, .int x2)] → va_P (gD g) zCl (wRoot g ad st sv isS hst spare undo seen dbef drec ptx plen ppos pcnt cmds stE stF lch llen) H → va_D A (wRoot g ad st sv isS hst spare undo seen dbef drec ptx plen ppos pcnt cmds stE stF lch llen) → va_S A s.heap H locs → W p l e (headSpec w_X10_run r_X10_run).room s m ([.ref (ad 0)] : List Value).toArray below meth c H locs 45 270 (vx_MQ below (q_X10_run g ad st sv isS hst spare undo seen dbef drec ptx plen ppos pcnt cmds stE stF lch llen o A) (x_X10_run g ad st sv isS hst spare undo seen dbef drec ptx plen ppos pcnt cmds stE stF lch llen o A) ([.ref (ad 0)] : List Value).toArray s 51 306 A) (F0 m 55 ls []) := by
    intro _ st hst spare undo plen ppos pcnt cmds stE stF x2 hF H locs ls hl hP hD hS
    unfold F_X10_run_900055 at hF
    refine lv_iload_n hx hb dX10_run_55 rfl (lv_at hl 1 rfl) ?_
    refine lv_aload_n hx hb dX10_run_56 rfl (lv_at hl 0 rfl) ?_
    refine va_get (D := gD g) (ci := 6) (v := .ref (ad 60)) (C := RX10) (T := TX10) (N := 9) hx hb hts inX10 hown hK hP 0 rfl rfl 5 (by decide) (hts _ mU_282) (fun _ h9 => h9) rfl dX10_run_57 ?_
    refine va_getN (D := gD g) (ci := 4) (v := .int pcnt) (C := RX6) (T := TX6) (N := 5) hx hb hts inX6 hown hK hP 60 rfl rfl 4 (by decide) (va_Nw.use rfl (hB.2.1.1 _ zn_250)) (fun _ h9 => h9) rfl dX10_run_60 ?_
    refine lv_icmp_ge (tgt := 115) hx hb dX10_run_63 (by decide) (fun zc1 => ?_) (fun zc1 => ?_)
    · have hF := z_pos hF zc1
      refine lv_aload_n hx hb dX10_run_115 rfl (lv_at hl 0 rfl) ?_
      refine va_get (D := gD g) (ci := 6) (v := .ref (ad 11)) (C := RX10) (T := TX10) (N := 9) hx hb hts inX10 hown hK hP 0 rfl rfl 3 (by decide) (hts _ mU_280) (fun _ h9 => h9) rfl dX10_run_116 ?_
      obtain ⟨zo2, hzo2, hF⟩ := z_bind hF
      refine z_callvE (fun (u : Int32 × Int32) => (wRoot g ad st sv isS hst u.1 u.2 seen dbef drec ptx plen ppos pcnt cmds stE stF lch llen)) (va_runV (As := []) (rest := []) ⟨hx, hb, hml, hown, hts⟩ (c_X2_keep l g ad st sv isS hst spare undo seen dbef drec ptx plen ppos pcnt cmds stE stF lch llen _ _ hzo2) (cwV 0 hts (gdV mU_664 mU_665 mU_666 mU_68 mU_667) rfl rfl rfl (by decide +kernel) ⟨Nat.le_of_ble_eq_true rfl, Nat.le_of_ble_eq_true rfl⟩) ⟨z_blind _ _ _ _, va_recv hK hP (ci := 1) (q0 := 11) rfl rfl, fun U hU hW => z_preE hP hD hK hB hS hA hU hW⟩ rfl rfl hl.1 rfl (lv_room (Nat.le_of_ble_eq_true rfl)) dX10_run_119 ⟨Nat.le_of_ble_eq_true rfl, Nat.le_of_ble_eq_true rfl⟩) hD hS hA (fun _ => rfl) (fun u H locs hw hP hD hS => ?_)
      subst hw
      have hP : va_P (gD g) zCl (wRoot g ad st sv isS hst zo2.1 zo2.2 seen dbef drec ptx plen ppos pcnt cmds stE stF lch llen) H := hP
      have hD : va_D A (wRoot g ad st sv isS hst zo2.1 zo2.2 seen dbef drec ptx plen ppos pcnt cmds stE stF lch llen) := hD
      refine lv_aload_n hx hb dX10_run_122 rfl (lv_at hl 0 rfl) ?_
      refine va_get (D := gD g) (ci := 6) (v := .ref (ad 60)) (C := RX10) (T := TX10) (N := 9) hx hb hts inX10 hown hK hP 0 rfl rfl 5 (by decide) (hts _ mU_282) (fun _ h9 => h9) rfl dX10_run_123 ?_
      refine va_getN (D := gD g) (ci := 4) (v := .int pcnt) (C := RX6) (T := TX6) (N := 5) hx hb hts inX6 hown hK hP 60 rfl rfl 4 (by decide) (va_Nw.use rfl (hB.2.1.1 _ zn_250)) (fun _ h9 => h9) rfl dX10_run_126 ?_
      have ho := (Option.some.inj hF).symm
      refine vx_ret ?_
      refine W.widen (k := 51) (n := 306) (Nat.le_of_ble_eq_true rfl) (Nat.le_of_ble_eq_true rfl) ?_
      exact W.iret (v := pcnt) hx hb hr (fun t ht hW => ⟨⟨pcnt, (st, hst, zo2.1, zo2.2, plen, ppos, pcnt, cmds, stE, stF), rfl, ⟨_, ho, rfl, rfl⟩, z_end ht hP⟩, hS.F ht⟩) hS.2.2 dX10_run_129
    · have hF := z_neg hF zc1
      refine lv_aload_n hx hb dX10_run_66 rfl (lv_at hl 0 rfl) ?_
      refine lv_aload_n hx hb dX10_run_67 rfl (lv_at hl 0 rfl) ?_
      refine va_get (D := gD g) (ci := 6) (v := .ref (ad 60)) (C := RX10) (T := TX10) (N := 9) hx hb hts inX10 hown hK hP 0 rfl rfl 5 (by decide) (hts _ mU_282) (fun _ h9 => h9) rfl dX10_run_68 ?_
      refine va_getN (D := gD g) (ci := 4) (v := .ref (ad 62)) (C := RX6) (T := TX6) (N := 5) hx hb hts inX6 hown hK hP 60 rfl rfl 3 (by decide) (va_Nw.use rfl (hB.2.1.1 _ zn_248)) (fun _ h9 => h9) rfl dX10_run_71 ?_
      refine lv_iload_n hx hb dX10_run_74 rfl (lv_at hl 1 rfl) ?_
      obtain ⟨zg3, hF⟩ := z_grd hF
      refine va_aldq hx hb hK hP 62 5 rfl rfl zg3 dX10_run_75 ?_
      obtain ⟨zo4, hzo4, hF⟩ := z_bind hF
      refine z_calliE (fun (u : SS) => (wRoot g ad u sv isS hst spare undo seen dbef drec ptx plen ppos pcnt cmds stE stF lch llen)) (vx_runVW (As := [.ref (ad (63 + (Int32.toNatClampNeg x2)))]) (rest := []) ⟨hx, hb, hml, hown, hts⟩ (c_X10_succeeds l hl0 g ad st sv isS hst spare undo seen dbef drec ptx plen ppos pcnt cmds stE stF lch llen _ (Int32.toNatClampNeg x2) (Nat.lt_of_not_le (fun h => zg3 (Or.inr h))) fu _ hzo4) (vx_cwVW 1 hts (gdV mU_1145 mU_1147 mU_27 mU_66 mU_1148) rfl rfl rfl (by decide +kernel) ⟨Nat.le_of_ble_eq_true rfl, Nat.le_of_ble_eq_true rfl⟩) ⟨z_blind _ _ _ _, va_recv hK hP (ci := 6) (q0 := 0) rfl rfl, fun U hU hW => z_preE hP hD hK hB hS hA hU hW⟩ rfl rfl hl.1 rfl (lv_room (Nat.le_of_ble_eq_true rfl)) dX10_run_76 ⟨Nat.le_of_ble_eq_true rfl, Nat.le_of_ble_eq_true rfl⟩) hD hS hA (fun _ => rfl) (fun r u H locs hw hP hD hS => ?_)
      obtain ⟨rfl, rfl⟩ := hw
      have hP : va_P (gD g) zCl (wRoot g ad zo4.2 sv isS hst spare undo seen dbef drec ptx plen ppos pcnt cmds stE stF lch llen) H := hP
      have hD : va_D A (wRoot g ad zo4.2 sv isS hst spare undo seen dbef drec ptx plen ppos pcnt cmds stE stF lch llen) := hD
      refine lv_if_ne (tgt := 109) hx hb dX10_run_79 (by decide) (fun zc5 => ?_) (fun zc5 => ?_)
      · have hF := z_neg hF zc5
        obtain ⟨zv6, ezv6, hF⟩ := z_let hF
        refine lv_iinc (v := zv6) (lv' := [(2, .int zv6), (0, .ref (ad 0))]) hx hb dX10_run_109 hl (k := 1) rfl (by rw [ezv6]; rfl) (by decide) rfl (fun ls hl => ?_)
        refine lv_goto (tgt := 55) hx hb dX10_run_112 (by decide) ?_
        exact absurd hF (by simp)
      · have hF := z_pos hF zc5
        refine lv_aload_n hx hb dX10_run_82 rfl (lv_at hl 0 rfl) ?_
        refine va_get (D := gD g) (ci := 6) (v := .ref (ad 11)) (C := RX10) (T := TX10) (N := 9) hx hb hts inX10 hown hK hP 0 rfl rfl 3 (by decide) (hts _ mU_280) (fun _ h9 => h9) rfl dX10_run_83 ?_
        refine lv_aload_n hx hb dX10_run_86 rfl (lv_at hl 0 rfl) ?_
        refine va_get (D := gD g) (ci := 6) (v := .ref (ad 1)) (C := RX10) (T := TX10) (N := 9) hx hb hts inX10 hown hK hP 0 rfl rfl 0 (by decide) (hts _ mU_277) (fun _ h9 => h9) rfl dX10_run_87 ?_
        obtain ⟨zo7, hzo7, hF⟩ := z_bind hF
        refine z_callvE (fun (u : SS) => (wRoot g ad u sv isS hst spare undo seen dbef drec ptx plen ppos pcnt cmds stE stF lch llen)) (va_runV (As := [.ref (ad 1)]) (rest := []) ⟨hx, hb, hml, hown, hts⟩ (c_X2_takeBack l g ad zo4.2 sv isS hst spare undo seen dbef drec ptx plen ppos pcnt cmds stE stF lch llen _ _ hzo7) (cwV 1 hts (gdV mU_1155 mU_1156 mU_1157 mU_68 mU_1158) rfl rfl rfl (by decide +kernel) ⟨Nat.le_of_ble_eq_true rfl, Nat.le_of_ble_eq_true rfl⟩) ⟨z_blind _ _ _ _, va_recv hK hP (ci := 1) (q0 := 11) rfl rfl, fun U hU hW => z_preE hP hD hK hB hS hA hU hW⟩ rfl rfl hl.1 rfl (lv_room (Nat.le_of_ble_eq_true rfl)) dX10_run_90 ⟨Nat.le_of_ble_eq_true rfl, Nat.le_of_ble_eq_true rfl⟩) hD hS hA (fun _ => rfl) (fun u H locs hw hP hD hS => ?_)
        subst hw
        have hP : va_P (gD g) zCl (wRoot g ad zo7 sv isS hst spare undo seen dbef drec ptx plen ppos pcnt cmds stE stF lch llen) H := hP
        have hD : va_D A (wRoot g ad zo7 sv isS hst spare undo seen dbef drec ptx plen ppos pcnt cmds stE stF lch llen) := hD
        refine lv_aload_n hx hb dX10_run_93 rfl (lv_at hl 0 rfl) ?_
        refine lv_iload_n hx hb dX10_run_94 rfl (lv_at hl 1 rfl) ?_
        refine va_put (D := gD g) (ci := 6) (v := .int x2) (ty := .int) (C := RX10) (T := TX10) (N := 9) hx hb hts inX10 tyX10 tyX10_ok nmX10 hown hK hP hD hS 0 rfl rfl 7 (by decide) (hts _ mU_284) (fun _ h9 => h9) rfl (by decide +kernel) rfl rfl (Nat.le_of_ble_eq_true rfl) dX10_run_95 (fun H locs hP hD hS => ?_)
        have hP : va_P (gD g) zCl (wRoot g ad zo7 sv isS hst spare undo seen dbef drec ptx plen ppos pcnt cmds stE x2 lch llen) H := hP
        have hD : va_D A (wRoot g ad zo7 sv isS hst spare undo seen dbef drec ptx plen ppos pcnt cmds stE x2 lch llen) := hD
        have ho := (Option.some.inj hF).symm
        obtain ⟨sa, hsa⟩ := hB.2.1.2.2.1 (334, "a command fails") (by decide +kernel)
        exact vx_throwSW hx hb hl0 (own := RX10) (cls := "java/lang/UnsupportedOperationException") (text := "a command fails") (names := ["java/lang/RuntimeException", "java/lang/Exception"]) hown (by decide +kernel) (by decide +kernel) (hts _ mU_644) (hts _ mU_89) hsa (zat_120 hts hB) zgo_120 hB.1.1 hB.1.2 hS (hl.1.trans hml.symm) dX10_run_98 dX10_run_101 dX10_run_102 dX10_run_105 dX10_run_108 (fun x hx => (hnx x hx).elim) (Nat.le_of_ble_eq_true rfl) (Nat.le_of_ble_eq_true rfl) (Nat.le_of_ble_eq_true rfl) (Nat.le_of_ble_eq_true rfl) hlocks (fun t ha hz hk => ⟨(2, (zo7, hst, spare, undo, plen, ppos, pcnt, cmds, stE, x2)), ho, ⟨rfl, (z_thr hP hS hz hk).1⟩, (z_thr hP hS hz hk).2⟩) hS.2.2 (Nat.le_of_ble_eq_true rfl) (Nat.le_of_ble_eq_true rfl)
  have K800055 : ∀ (_ : Unit) (st : SS) (hst : Nat → SS) (spare : Int32) (undo : Int32) (plen : Int32) (ppos : Int32) (pcnt : Int32) (cmds : Nat → CC) (stE : Int32) (stF : Int32) (x2 : Int32), F_X10_run_800055 fu st hst spare undo ptx plen ppos pcnt cmds stE stF x2 = some o → ∀ (H : Heap) (locs : List Loc) (ls : Array Slot), lv_has ls 3 [(0, .ref (ad 0)), (2, .int x2)] → va_P (gD g) zCl (wRoot g ad st sv isS hst spare undo seen dbef drec ptx plen ppos pcnt cmds stE stF lch llen) H → va_D A (wRoot g ad st sv isS hst spare undo seen dbef drec ptx plen ppos pcnt cmds stE stF lch llen) → va_S A s.heap H locs → W p l e (headSpec w_X10_run r_X10_run).room s m ([.ref (ad 0)] : List Value).toArray below meth c H locs 40 240 (vx_MQ below (q_X10_run g ad st sv isS hst spare undo seen dbef drec ptx plen ppos pcnt cmds stE stF lch llen o A) (x_X10_run g ad st sv isS hst spare undo seen dbef drec ptx plen ppos pcnt cmds stE stF lch llen o A) ([.ref (ad 0)] : List Value).toArray s 51 306 A) (F0 m 55 ls []) := by
    intro _ st hst spare undo plen ppos pcnt cmds stE stF x2 hF H locs ls hl hP hD hS
    unfold F_X10_run_800055 at hF
    refine lv_iload_n hx hb dX10_run_55 rfl (lv_at hl 1 rfl) ?_
    refine lv_aload_n hx hb dX10_run_56 rfl (lv_at hl 0 rfl) ?_
    refine va_get (D := gD g) (ci := 6) (v := .ref (ad 60)) (C := RX10) (T := TX10) (N := 9) hx hb hts inX10 hown hK hP 0 rfl rfl 5 (by decide) (hts _ mU_282) (fun _ h9 => h9) rfl dX10_run_57 ?_
    refine va_getN (D := gD g) (ci := 4) (v := .int pcnt) (C := RX6) (T := TX6) (N := 5) hx hb hts inX6 hown hK hP 60 rfl rfl 4 (by decide) (va_Nw.use rfl (hB.2.1.1 _ zn_250)) (fun _ h9 => h9) rfl dX10_run_60 ?_
    refine lv_icmp_ge (tgt := 115) hx hb dX10_run_63 (by decide) (fun zc8 => ?_) (fun zc8 => ?_)
    · have hF := z_pos hF zc8
      refine lv_aload_n hx hb dX10_run_115 rfl (lv_at hl 0 rfl) ?_
      refine va_get (D := gD g) (ci := 6) (v := .ref (ad 11)) (C := RX10) (T := TX10) (N := 9) hx hb hts inX10 hown hK hP 0 rfl rfl 3 (by decide) (hts _ mU_280) (fun _ h9 => h9) rfl dX10_run_116 ?_
      obtain ⟨zo9, hzo9, hF⟩ := z_bind hF
      refine z_callvE (fun (u : Int32 × Int32) => (wRoot g ad st sv isS hst u.1 u.2 seen dbef drec ptx plen ppos pcnt cmds stE stF lch llen)) (va_runV (As := []) (rest := []) ⟨hx, hb, hml, hown, hts⟩ (c_X2_keep l g ad st sv isS hst spare undo seen dbef drec ptx plen ppos pcnt cmds stE stF lch llen _ _ hzo9) (cwV 0 hts (gdV mU_664 mU_665 mU_666 mU_68 mU_667) rfl rfl rfl (by decide +kernel) ⟨Nat.le_of_ble_eq_true rfl, Nat.le_of_ble_eq_true rfl⟩) ⟨z_blind _ _ _ _, va_recv hK hP (ci := 1) (q0 := 11) rfl rfl, fun U hU hW => z_preE hP hD hK hB hS hA hU hW⟩ rfl rfl hl.1 rfl (lv_room (Nat.le_of_ble_eq_true rfl)) dX10_run_119 ⟨Nat.le_of_ble_eq_true rfl, Nat.le_of_ble_eq_true rfl⟩) hD hS hA (fun _ => rfl) (fun u H locs hw hP hD hS => ?_)
      subst hw
      have hP : va_P (gD g) zCl (wRoot g ad st sv isS hst zo9.1 zo9.2 seen dbef drec ptx plen ppos pcnt cmds stE stF lch llen) H := hP
      have hD : va_D A (wRoot g ad st sv isS hst zo9.1 zo9.2 seen dbef drec ptx plen ppos pcnt cmds stE stF lch llen) := hD
      refine lv_aload_n hx hb dX10_run_122 rfl (lv_at hl 0 rfl) ?_
      refine va_get (D := gD g) (ci := 6) (v := .ref (ad 60)) (C := RX10) (T := TX10) (N := 9) hx hb hts inX10 hown hK hP 0 rfl rfl 5 (by decide) (hts _ mU_282) (fun _ h9 => h9) rfl dX10_run_123 ?_
      refine va_getN (D := gD g) (ci := 4) (v := .int pcnt) (C := RX6) (T := TX6) (N := 5) hx hb hts inX6 hown hK hP 60 rfl rfl 4 (by decide) (va_Nw.use rfl (hB.2.1.1 _ zn_250)) (fun _ h9 => h9) rfl dX10_run_126 ?_
      have ho := (Option.some.inj hF).symm
      refine vx_ret ?_
      refine W.widen (k := 51) (n := 306) (Nat.le_of_ble_eq_true rfl) (Nat.le_of_ble_eq_true rfl) ?_
      exact W.iret (v := pcnt) hx hb hr (fun t ht hW => ⟨⟨pcnt, (st, hst, zo9.1, zo9.2, plen, ppos, pcnt, cmds, stE, stF), rfl, ⟨_, ho, rfl, rfl⟩, z_end ht hP⟩, hS.F ht⟩) hS.2.2 dX10_run_129
    · have hF := z_neg hF zc8
      refine lv_aload_n hx hb dX10_run_66 rfl (lv_at hl 0 rfl) ?_
      refine lv_aload_n hx hb dX10_run_67 rfl (lv_at hl 0 rfl) ?_
      refine va_get (D := gD g) (ci := 6) (v := .ref (ad 60)) (C := RX10) (T := TX10) (N := 9) hx hb hts inX10 hown hK hP 0 rfl rfl 5 (by decide) (hts _ mU_282) (fun _ h9 => h9) rfl dX10_run_68 ?_
      refine va_getN (D := gD g) (ci := 4) (v := .ref (ad 62)) (C := RX6) (T := TX6) (N := 5) hx hb hts inX6 hown hK hP 60 rfl rfl 3 (by decide) (va_Nw.use rfl (hB.2.1.1 _ zn_248)) (fun _ h9 => h9) rfl dX10_run_71 ?_
      refine lv_iload_n hx hb dX10_run_74 rfl (lv_at hl 1 rfl) ?_
      obtain ⟨zg10, hF⟩ := z_grd hF
      refine va_aldq hx hb hK hP 62 5 rfl rfl zg10 dX10_run_75 ?_
      obtain ⟨zo11, hzo11, hF⟩ := z_bind hF
      refine z_calliE (fun (u : SS) => (wRoot g ad u sv isS hst spare undo seen dbef drec ptx plen ppos pcnt cmds stE stF lch llen)) (vx_runVW (As := [.ref (ad (63 + (Int32.toNatClampNeg x2)))]) (rest := []) ⟨hx, hb, hml, hown, hts⟩ (c_X10_succeeds l hl0 g ad st sv isS hst spare undo seen dbef drec ptx plen ppos pcnt cmds stE stF lch llen _ (Int32.toNatClampNeg x2) (Nat.lt_of_not_le (fun h => zg10 (Or.inr h))) fu _ hzo11) (vx_cwVW 1 hts (gdV mU_1145 mU_1147 mU_27 mU_66 mU_1148) rfl rfl rfl (by decide +kernel) ⟨Nat.le_of_ble_eq_true rfl, Nat.le_of_ble_eq_true rfl⟩) ⟨z_blind _ _ _ _, va_recv hK hP (ci := 6) (q0 := 0) rfl rfl, fun U hU hW => z_preE hP hD hK hB hS hA hU hW⟩ rfl rfl hl.1 rfl (lv_room (Nat.le_of_ble_eq_true rfl)) dX10_run_76 ⟨Nat.le_of_ble_eq_true rfl, Nat.le_of_ble_eq_true rfl⟩) hD hS hA (fun _ => rfl) (fun r u H locs hw hP hD hS => ?_)
      obtain ⟨rfl, rfl⟩ := hw
      have hP : va_P (gD g) zCl (wRoot g ad zo11.2 sv isS hst spare undo seen dbef drec ptx plen ppos pcnt cmds stE stF lch llen) H := hP
      have hD : va_D A (wRoot g ad zo11.2 sv isS hst spare undo seen dbef drec ptx plen ppos pcnt cmds stE stF lch llen) := hD
      refine lv_if_ne (tgt := 109) hx hb dX10_run_79 (by decide) (fun zc12 => ?_) (fun zc12 => ?_)
      · have hF := z_neg hF zc12
        obtain ⟨zv13, ezv13, hF⟩ := z_let hF
        refine lv_iinc (v := zv13) (lv' := [(2, .int zv13), (0, .ref (ad 0))]) hx hb dX10_run_109 hl (k := 1) rfl (by rw [ezv13]; rfl) (by decide) rfl (fun ls hl => ?_)
        refine lv_goto (tgt := 55) hx hb dX10_run_112 (by decide) ?_
        exact K900055 () zo11.2 hst spare undo plen ppos pcnt cmds stE stF zv13 hF _ _ _ (lv_sub hl [1, 0] rfl) hP hD hS
      · have hF := z_pos hF zc12
        refine lv_aload_n hx hb dX10_run_82 rfl (lv_at hl 0 rfl) ?_
        refine va_get (D := gD g) (ci := 6) (v := .ref (ad 11)) (C := RX10) (T := TX10) (N := 9) hx hb hts inX10 hown hK hP 0 rfl rfl 3 (by decide) (hts _ mU_280) (fun _ h9 => h9) rfl dX10_run_83 ?_
        refine lv_aload_n hx hb dX10_run_86 rfl (lv_at hl 0 rfl) ?_
        refine va_get (D := gD g) (ci := 6) (v := .ref (ad 1)) (C := RX10) (T := TX10) (N := 9) hx hb hts inX10 hown hK hP 0 rfl rfl 0 (by decide) (hts _ mU_277) (fun _ h9 => h9) rfl dX10_run_87 ?_
        obtain ⟨zo14, hzo14, hF⟩ := z_bind hF
        refine z_callvE (fun (u : SS) => (wRoot g ad u sv isS hst spare undo seen dbef drec ptx plen ppos pcnt cmds stE stF lch llen)) (va_runV (As := [.ref (ad 1)]) (rest := []) ⟨hx, hb, hml, hown, hts⟩ (c_X2_takeBack l g ad zo11.2 sv isS hst spare undo seen dbef drec ptx plen ppos pcnt cmds stE stF lch llen _ _ hzo14) (cwV 1 hts (gdV mU_1155 mU_1156 mU_1157 mU_68 mU_1158) rfl rfl rfl (by decide +kernel) ⟨Nat.le_of_ble_eq_true rfl, Nat.le_of_ble_eq_true rfl⟩) ⟨z_blind _ _ _ _, va_recv hK hP (ci := 1) (q0 := 11) rfl rfl, fun U hU hW => z_preE hP hD hK hB hS hA hU hW⟩ rfl rfl hl.1 rfl (lv_room (Nat.le_of_ble_eq_true rfl)) dX10_run_90 ⟨Nat.le_of_ble_eq_true rfl, Nat.le_of_ble_eq_true rfl⟩) hD hS hA (fun _ => rfl) (fun u H locs hw hP hD hS => ?_)
        subst hw
        have hP : va_P (gD g) zCl (wRoot g ad zo14 sv isS hst spare undo seen dbef drec ptx plen ppos pcnt cmds stE stF lch llen) H := hP
        have hD : va_D A (wRoot g ad zo14 sv isS hst spare undo seen dbef drec ptx plen ppos pcnt cmds stE stF lch llen) := hD
        refine lv_aload_n hx hb dX10_run_93 rfl (lv_at hl 0 rfl) ?_
        refine lv_iload_n hx hb dX10_run_94 rfl (lv_at hl 1 rfl) ?_
        refine va_put (D := gD g) (ci := 6) (v := .int x2) (ty := .int) (C := RX10) (T := TX10) (N := 9) hx hb hts inX10 tyX10 tyX10_ok nmX10 hown hK hP hD hS 0 rfl rfl 7 (by decide) (hts _ mU_284) (fun _ h9 => h9) rfl (by decide +kernel) rfl rfl (Nat.le_of_ble_eq_true rfl) dX10_run_95 (fun H locs hP hD hS => ?_)
        have hP : va_P (gD g) zCl (wRoot g ad zo14 sv isS hst spare undo seen dbef drec ptx plen ppos pcnt cmds stE x2 lch llen) H := hP
        have hD : va_D A (wRoot g ad zo14 sv isS hst spare undo seen dbef drec ptx plen ppos pcnt cmds stE x2 lch llen) := hD
        have ho := (Option.some.inj hF).symm
        obtain ⟨sa, hsa⟩ := hB.2.1.2.2.1 (334, "a command fails") (by decide +kernel)
        exact vx_throwSW hx hb hl0 (own := RX10) (cls := "java/lang/UnsupportedOperationException") (text := "a command fails") (names := ["java/lang/RuntimeException", "java/lang/Exception"]) hown (by decide +kernel) (by decide +kernel) (hts _ mU_644) (hts _ mU_89) hsa (zat_120 hts hB) zgo_120 hB.1.1 hB.1.2 hS (hl.1.trans hml.symm) dX10_run_98 dX10_run_101 dX10_run_102 dX10_run_105 dX10_run_108 (fun x hx => (hnx x hx).elim) (Nat.le_of_ble_eq_true rfl) (Nat.le_of_ble_eq_true rfl) (Nat.le_of_ble_eq_true rfl) (Nat.le_of_ble_eq_true rfl) hlocks (fun t ha hz hk => ⟨(2, (zo14, hst, spare, undo, plen, ppos, pcnt, cmds, stE, x2)), ho, ⟨rfl, (z_thr hP hS hz hk).1⟩, (z_thr hP hS hz hk).2⟩) hS.2.2 (Nat.le_of_ble_eq_true rfl) (Nat.le_of_ble_eq_true rfl)
  have K700055 : ∀ (_ : Unit) (st : SS) (hst : Nat → SS) (spare : Int32) (undo : Int32) (plen : Int32) (ppos : Int32) (pcnt : Int32) (cmds : Nat → CC) (stE : Int32) (stF : Int32) (x2 : Int32), F_X10_run_700055 fu st hst spare undo ptx plen ppos pcnt cmds stE stF x2 = some o → ∀ (H : Heap) (locs : List Loc) (ls : Array Slot), lv_has ls 3 [(0, .ref (ad 0)), (2, .int x2)] → va_P (gD g) zCl (wRoot g ad st sv isS hst spare undo seen dbef drec ptx plen ppos pcnt cmds stE stF lch llen) H → va_D A (wRoot g ad st sv isS hst spare undo seen dbef drec ptx plen ppos pcnt cmds stE stF lch llen) → va_S A s.heap H locs → W p l e (headSpec w_X10_run r_X10_run).room s m ([.ref (ad 0)] : List Value).toArray below meth c H locs 35 210 (vx_MQ below (q_X10_run g ad st sv isS hst spare undo seen dbef drec ptx plen ppos pcnt cmds stE stF lch llen o A) (x_X10_run g ad st sv isS hst spare undo seen dbef drec ptx plen ppos pcnt cmds stE stF lch llen o A) ([.ref (ad 0)] : List Value).toArray s 51 306 A) (F0 m 55 ls []) := by
    intro _ st hst spare undo plen ppos pcnt cmds stE stF x2 hF H locs ls hl hP hD hS
    unfold F_X10_run_700055 at hF
    refine lv_iload_n hx hb dX10_run_55 rfl (lv_at hl 1 rfl) ?_
    refine lv_aload_n hx hb dX10_run_56 rfl (lv_at hl 0 rfl) ?_
    refine va_get (D := gD g) (ci := 6) (v := .ref (ad 60)) (C := RX10) (T := TX10) (N := 9) hx hb hts inX10 hown hK hP 0 rfl rfl 5 (by decide) (hts _ mU_282) (fun _ h9 => h9) rfl dX10_run_57 ?_
    refine va_getN (D := gD g) (ci := 4) (v := .int pcnt) (C := RX6) (T := TX6) (N := 5) hx hb hts inX6 hown hK hP 60 rfl rfl 4 (by decide) (va_Nw.use rfl (hB.2.1.1 _ zn_250)) (fun _ h9 => h9) rfl dX10_run_60 ?_
    refine lv_icmp_ge (tgt := 115) hx hb dX10_run_63 (by decide) (fun zc15 => ?_) (fun zc15 => ?_)
    · have hF := z_pos hF zc15
      refine lv_aload_n hx hb dX10_run_115 rfl (lv_at hl 0 rfl) ?_
      refine va_get (D := gD g) (ci := 6) (v := .ref (ad 11)) (C := RX10) (T := TX10) (N := 9) hx hb hts inX10 hown hK hP 0 rfl rfl 3 (by decide) (hts _ mU_280) (fun _ h9 => h9) rfl dX10_run_116 ?_
      obtain ⟨zo16, hzo16, hF⟩ := z_bind hF
      refine z_callvE (fun (u : Int32 × Int32) => (wRoot g ad st sv isS hst u.1 u.2 seen dbef drec ptx plen ppos pcnt cmds stE stF lch llen)) (va_runV (As := []) (rest := []) ⟨hx, hb, hml, hown, hts⟩ (c_X2_keep l g ad st sv isS hst spare undo seen dbef drec ptx plen ppos pcnt cmds stE stF lch llen _ _ hzo16) (cwV 0 hts (gdV mU_664 mU_665 mU_666 mU_68 mU_667) rfl rfl rfl (by decide +kernel) ⟨Nat.le_of_ble_eq_true rfl, Nat.le_of_ble_eq_true rfl⟩) ⟨z_blind _ _ _ _, va_recv hK hP (ci := 1) (q0 := 11) rfl rfl, fun U hU hW => z_preE hP hD hK hB hS hA hU hW⟩ rfl rfl hl.1 rfl (lv_room (Nat.le_of_ble_eq_true rfl)) dX10_run_119 ⟨Nat.le_of_ble_eq_true rfl, Nat.le_of_ble_eq_true rfl⟩) hD hS hA (fun _ => rfl) (fun u H locs hw hP hD hS => ?_)
      subst hw
      have hP : va_P (gD g) zCl (wRoot g ad st sv isS hst zo16.1 zo16.2 seen dbef drec ptx plen ppos pcnt cmds stE stF lch llen) H := hP
      have hD : va_D A (wRoot g ad st sv isS hst zo16.1 zo16.2 seen dbef drec ptx plen ppos pcnt cmds stE stF lch llen) := hD
      refine lv_aload_n hx hb dX10_run_122 rfl (lv_at hl 0 rfl) ?_
      refine va_get (D := gD g) (ci := 6) (v := .ref (ad 60)) (C := RX10) (T := TX10) (N := 9) hx hb hts inX10 hown hK hP 0 rfl rfl 5 (by decide) (hts _ mU_282) (fun _ h9 => h9) rfl dX10_run_123 ?_
      refine va_getN (D := gD g) (ci := 4) (v := .int pcnt) (C := RX6) (T := TX6) (N := 5) hx hb hts inX6 hown hK hP 60 rfl rfl 4 (by decide) (va_Nw.use rfl (hB.2.1.1 _ zn_250)) (fun _ h9 => h9) rfl dX10_run_126 ?_
      have ho := (Option.some.inj hF).symm
      refine vx_ret ?_
      refine W.widen (k := 51) (n := 306) (Nat.le_of_ble_eq_true rfl) (Nat.le_of_ble_eq_true rfl) ?_
      exact W.iret (v := pcnt) hx hb hr (fun t ht hW => ⟨⟨pcnt, (st, hst, zo16.1, zo16.2, plen, ppos, pcnt, cmds, stE, stF), rfl, ⟨_, ho, rfl, rfl⟩, z_end ht hP⟩, hS.F ht⟩) hS.2.2 dX10_run_129
    · have hF := z_neg hF zc15
      refine lv_aload_n hx hb dX10_run_66 rfl (lv_at hl 0 rfl) ?_
      refine lv_aload_n hx hb dX10_run_67 rfl (lv_at hl 0 rfl) ?_
      refine va_get (D := gD g) (ci := 6) (v := .ref (ad 60)) (C := RX10) (T := TX10) (N := 9) hx hb hts inX10 hown hK hP 0 rfl rfl 5 (by decide) (hts _ mU_282) (fun _ h9 => h9) rfl dX10_run_68 ?_
      refine va_getN (D := gD g) (ci := 4) (v := .ref (ad 62)) (C := RX6) (T := TX6) (N := 5) hx hb hts inX6 hown hK hP 60 rfl rfl 3 (by decide) (va_Nw.use rfl (hB.2.1.1 _ zn_248)) (fun _ h9 => h9) rfl dX10_run_71 ?_
      refine lv_iload_n hx hb dX10_run_74 rfl (lv_at hl 1 rfl) ?_
      obtain ⟨zg17, hF⟩ := z_grd hF
      refine va_aldq hx hb hK hP 62 5 rfl rfl zg17 dX10_run_75 ?_
      obtain ⟨zo18, hzo18, hF⟩ := z_bind hF
      refine z_calliE (fun (u : SS) => (wRoot g ad u sv isS hst spare undo seen dbef drec ptx plen ppos pcnt cmds stE stF lch llen)) (vx_runVW (As := [.ref (ad (63 + (Int32.toNatClampNeg x2)))]) (rest := []) ⟨hx, hb, hml, hown, hts⟩ (c_X10_succeeds l hl0 g ad st sv isS hst spare undo seen dbef drec ptx plen ppos pcnt cmds stE stF lch llen _ (Int32.toNatClampNeg x2) (Nat.lt_of_not_le (fun h => zg17 (Or.inr h))) fu _ hzo18) (vx_cwVW 1 hts (gdV mU_1145 mU_1147 mU_27 mU_66 mU_1148) rfl rfl rfl (by decide +kernel) ⟨Nat.le_of_ble_eq_true rfl, Nat.le_of_ble_eq_true rfl⟩) ⟨z_blind _ _ _ _, va_recv hK hP (ci := 6) (q0 := 0) rfl rfl, fun U hU hW => z_preE hP hD hK hB hS hA hU hW⟩ rfl rfl hl.1 rfl (lv_room (Nat.le_of_ble_eq_true rfl)) dX10_run_76 ⟨Nat.le_of_ble_eq_true rfl, Nat.le_of_ble_eq_true rfl⟩) hD hS hA (fun _ => rfl) (fun r u H locs hw hP hD hS => ?_)
      obtain ⟨rfl, rfl⟩ := hw
      have hP : va_P (gD g) zCl (wRoot g ad zo18.2 sv isS hst spare undo seen dbef drec ptx plen ppos pcnt cmds stE stF lch llen) H := hP
      have hD : va_D A (wRoot g ad zo18.2 sv isS hst spare undo seen dbef drec ptx plen ppos pcnt cmds stE stF lch llen) := hD
      refine lv_if_ne (tgt := 109) hx hb dX10_run_79 (by decide) (fun zc19 => ?_) (fun zc19 => ?_)
      · have hF := z_neg hF zc19
        obtain ⟨zv20, ezv20, hF⟩ := z_let hF
        refine lv_iinc (v := zv20) (lv' := [(2, .int zv20), (0, .ref (ad 0))]) hx hb dX10_run_109 hl (k := 1) rfl (by rw [ezv20]; rfl) (by decide) rfl (fun ls hl => ?_)
        refine lv_goto (tgt := 55) hx hb dX10_run_112 (by decide) ?_
        exact K800055 () zo18.2 hst spare undo plen ppos pcnt cmds stE stF zv20 hF _ _ _ (lv_sub hl [1, 0] rfl) hP hD hS
      · have hF := z_pos hF zc19
        refine lv_aload_n hx hb dX10_run_82 rfl (lv_at hl 0 rfl) ?_
        refine va_get (D := gD g) (ci := 6) (v := .ref (ad 11)) (C := RX10) (T := TX10) (N := 9) hx hb hts inX10 hown hK hP 0 rfl rfl 3 (by decide) (hts _ mU_280) (fun _ h9 => h9) rfl dX10_run_83 ?_
        refine lv_aload_n hx hb dX10_run_86 rfl (lv_at hl 0 rfl) ?_
        refine va_get (D := gD g) (ci := 6) (v := .ref (ad 1)) (C := RX10) (T := TX10) (N := 9) hx hb hts inX10 hown hK hP 0 rfl rfl 0 (by decide) (hts _ mU_277) (fun _ h9 => h9) rfl dX10_run_87 ?_
        obtain ⟨zo21, hzo21, hF⟩ := z_bind hF
        refine z_callvE (fun (u : SS) => (wRoot g ad u sv isS hst spare undo seen dbef drec ptx plen ppos pcnt cmds stE stF lch llen)) (va_runV (As := [.ref (ad 1)]) (rest := []) ⟨hx, hb, hml, hown, hts⟩ (c_X2_takeBack l g ad zo18.2 sv isS hst spare undo seen dbef drec ptx plen ppos pcnt cmds stE stF lch llen _ _ hzo21) (cwV 1 hts (gdV mU_1155 mU_1156 mU_1157 mU_68 mU_1158) rfl rfl rfl (by decide +kernel) ⟨Nat.le_of_ble_eq_true rfl, Nat.le_of_ble_eq_true rfl⟩) ⟨z_blind _ _ _ _, va_recv hK hP (ci := 1) (q0 := 11) rfl rfl, fun U hU hW => z_preE hP hD hK hB hS hA hU hW⟩ rfl rfl hl.1 rfl (lv_room (Nat.le_of_ble_eq_true rfl)) dX10_run_90 ⟨Nat.le_of_ble_eq_true rfl, Nat.le_of_ble_eq_true rfl⟩) hD hS hA (fun _ => rfl) (fun u H locs hw hP hD hS => ?_)
        subst hw
        have hP : va_P (gD g) zCl (wRoot g ad zo21 sv isS hst spare undo seen dbef drec ptx plen ppos pcnt cmds stE stF lch llen) H := hP
        have hD : va_D A (wRoot g ad zo21 sv isS hst spare undo seen dbef drec ptx plen ppos pcnt cmds stE stF lch llen) := hD
        refine lv_aload_n hx hb dX10_run_93 rfl (lv_at hl 0 rfl) ?_
        refine lv_iload_n hx hb dX10_run_94 rfl (lv_at hl 1 rfl) ?_
        refine va_put (D := gD g) (ci := 6) (v := .int x2) (ty := .int) (C := RX10) (T := TX10) (N := 9) hx hb hts inX10 tyX10 tyX10_ok nmX10 hown hK hP hD hS 0 rfl rfl 7 (by decide) (hts _ mU_284) (fun _ h9 => h9) rfl (by decide +kernel) rfl rfl (Nat.le_of_ble_eq_true rfl) dX10_run_95 (fun H locs hP hD hS => ?_)
        have hP : va_P (gD g) zCl (wRoot g ad zo21 sv isS hst spare undo seen dbef drec ptx plen ppos pcnt cmds stE x2 lch llen) H := hP
        have hD : va_D A (wRoot g ad zo21 sv isS hst spare undo seen dbef drec ptx plen ppos pcnt cmds stE x2 lch llen) := hD
        have ho := (Option.some.inj hF).symm
        obtain ⟨sa, hsa⟩ := hB.2.1.2.2.1 (334, "a command fails") (by decide +kernel)
        exact vx_throwSW hx hb hl0 (own := RX10) (cls := "java/lang/UnsupportedOperationException") (text := "a command fails") (names := ["java/lang/RuntimeException", "java/lang/Exception"]) hown (by decide +kernel) (by decide +kernel) (hts _ mU_644) (hts _ mU_89) hsa (zat_120 hts hB) zgo_120 hB.1.1 hB.1.2 hS (hl.1.trans hml.symm) dX10_run_98 dX10_run_101 dX10_run_102 dX10_run_105 dX10_run_108 (fun x hx => (hnx x hx).elim) (Nat.le_of_ble_eq_true rfl) (Nat.le_of_ble_eq_true rfl) (Nat.le_of_ble_eq_true rfl) (Nat.le_of_ble_eq_true rfl) hlocks (fun t ha hz hk => ⟨(2, (zo21, hst, spare, undo, plen, ppos, pcnt, cmds, stE, x2)), ho, ⟨rfl, (z_thr hP hS hz hk).1⟩, (z_thr hP hS hz hk).2⟩) hS.2.2 (Nat.le_of_ble_eq_true rfl) (Nat.le_of_ble_eq_true rfl)
  have K600055 : ∀ (_ : Unit) (st : SS) (hst : Nat → SS) (spare : Int32) (undo : Int32) (plen : Int32) (ppos : Int32) (pcnt : Int32) (cmds : Nat → CC) (stE : Int32) (stF : Int32) (x2 : Int32), F_X10_run_600055 fu st hst spare undo ptx plen ppos pcnt cmds stE stF x2 = some o → ∀ (H : Heap) (locs : List Loc) (ls : Array Slot), lv_has ls 3 [(0, .ref (ad 0)), (2, .int x2)] → va_P (gD g) zCl (wRoot g ad st sv isS hst spare undo seen dbef drec ptx plen ppos pcnt cmds stE stF lch llen) H → va_D A (wRoot g ad st sv isS hst spare undo seen dbef drec ptx plen ppos pcnt cmds stE stF lch llen) → va_S A s.heap H locs → W p l e (headSpec w_X10_run r_X10_run).room s m ([.ref (ad 0)] : List Value).toArray below meth c H locs 30 180 (vx_MQ below (q_X10_run g ad st sv isS hst spare undo seen dbef drec ptx plen ppos pcnt cmds stE stF lch llen o A) (x_X10_run g ad st sv isS hst spare undo seen dbef drec ptx plen ppos pcnt cmds stE stF lch llen o A) ([.ref (ad 0)] : List Value).toArray s 51 306 A) (F0 m 55 ls []) := by
    intro _ st hst spare undo plen ppos pcnt cmds stE stF x2 hF H locs ls hl hP hD hS
    unfold F_X10_run_600055 at hF
    refine lv_iload_n hx hb dX10_run_55 rfl (lv_at hl 1 rfl) ?_
    refine lv_aload_n hx hb dX10_run_56 rfl (lv_at hl 0 rfl) ?_
    refine va_get (D := gD g) (ci := 6) (v := .ref (ad 60)) (C := RX10) (T := TX10) (N := 9) hx hb hts inX10 hown hK hP 0 rfl rfl 5 (by decide) (hts _ mU_282) (fun _ h9 => h9) rfl dX10_run_57 ?_
    refine va_getN (D := gD g) (ci := 4) (v := .int pcnt) (C := RX6) (T := TX6) (N := 5) hx hb hts inX6 hown hK hP 60 rfl rfl 4 (by decide) (va_Nw.use rfl (hB.2.1.1 _ zn_250)) (fun _ h9 => h9) rfl dX10_run_60 ?_
    refine lv_icmp_ge (tgt := 115) hx hb dX10_run_63 (by decide) (fun zc22 => ?_) (fun zc22 => ?_)
    · have hF := z_pos hF zc22
      refine lv_aload_n hx hb dX10_run_115 rfl (lv_at hl 0 rfl) ?_
      refine va_get (D := gD g) (ci := 6) (v := .ref (ad 11)) (C := RX10) (T := TX10) (N := 9) hx hb hts inX10 hown hK hP 0 rfl rfl 3 (by decide) (hts _ mU_280) (fun _ h9 => h9) rfl dX10_run_116 ?_
      obtain ⟨zo23, hzo23, hF⟩ := z_bind hF
      refine z_callvE (fun (u : Int32 × Int32) => (wRoot g ad st sv isS hst u.1 u.2 seen dbef drec ptx plen ppos pcnt cmds stE stF lch llen)) (va_runV (As := []) (rest := []) ⟨hx, hb, hml, hown, hts⟩ (c_X2_keep l g ad st sv isS hst spare undo seen dbef drec ptx plen ppos pcnt cmds stE stF lch llen _ _ hzo23) (cwV 0 hts (gdV mU_664 mU_665 mU_666 mU_68 mU_667) rfl rfl rfl (by decide +kernel) ⟨Nat.le_of_ble_eq_true rfl, Nat.le_of_ble_eq_true rfl⟩) ⟨z_blind _ _ _ _, va_recv hK hP (ci := 1) (q0 := 11) rfl rfl, fun U hU hW => z_preE hP hD hK hB hS hA hU hW⟩ rfl rfl hl.1 rfl (lv_room (Nat.le_of_ble_eq_true rfl)) dX10_run_119 ⟨Nat.le_of_ble_eq_true rfl, Nat.le_of_ble_eq_true rfl⟩) hD hS hA (fun _ => rfl) (fun u H locs hw hP hD hS => ?_)
      subst hw
      have hP : va_P (gD g) zCl (wRoot g ad st sv isS hst zo23.1 zo23.2 seen dbef drec ptx plen ppos pcnt cmds stE stF lch llen) H := hP
      have hD : va_D A (wRoot g ad st sv isS hst zo23.1 zo23.2 seen dbef drec ptx plen ppos pcnt cmds stE stF lch llen) := hD
      refine lv_aload_n hx hb dX10_run_122 rfl (lv_at hl 0 rfl) ?_
      refine va_get (D := gD g) (ci := 6) (v := .ref (ad 60)) (C := RX10) (T := TX10) (N := 9) hx hb hts inX10 hown hK hP 0 rfl rfl 5 (by decide) (hts _ mU_282) (fun _ h9 => h9) rfl dX10_run_123 ?_
      refine va_getN (D := gD g) (ci := 4) (v := .int pcnt) (C := RX6) (T := TX6) (N := 5) hx hb hts inX6 hown hK hP 60 rfl rfl 4 (by decide) (va_Nw.use rfl (hB.2.1.1 _ zn_250)) (fun _ h9 => h9) rfl dX10_run_126 ?_
      have ho := (Option.some.inj hF).symm
      refine vx_ret ?_
      refine W.widen (k := 51) (n := 306) (Nat.le_of_ble_eq_true rfl) (Nat.le_of_ble_eq_true rfl) ?_
      exact W.iret (v := pcnt) hx hb hr (fun t ht hW => ⟨⟨pcnt, (st, hst, zo23.1, zo23.2, plen, ppos, pcnt, cmds, stE, stF), rfl, ⟨_, ho, rfl, rfl⟩, z_end ht hP⟩, hS.F ht⟩) hS.2.2 dX10_run_129
    · have hF := z_neg hF zc22
      refine lv_aload_n hx hb dX10_run_66 rfl (lv_at hl 0 rfl) ?_
      refine lv_aload_n hx hb dX10_run_67 rfl (lv_at hl 0 rfl) ?_
      refine va_get (D := gD g) (ci := 6) (v := .ref (ad 60)) (C := RX10) (T := TX10) (N := 9) hx hb hts inX10 hown hK hP 0 rfl rfl 5 (by decide) (hts _ mU_282) (fun _ h9 => h9) rfl dX10_run_68 ?_
      refine va_getN (D := gD g) (ci := 4) (v := .ref (ad 62)) (C := RX6) (T := TX6) (N := 5) hx hb hts inX6 hown hK hP 60 rfl rfl 3 (by decide) (va_Nw.use rfl (hB.2.1.1 _ zn_248)) (fun _ h9 => h9) rfl dX10_run_71 ?_
      refine lv_iload_n hx hb dX10_run_74 rfl (lv_at hl 1 rfl) ?_
      obtain ⟨zg24, hF⟩ := z_grd hF
      refine va_aldq hx hb hK hP 62 5 rfl rfl zg24 dX10_run_75 ?_
      obtain ⟨zo25, hzo25, hF⟩ := z_bind hF
      refine z_calliE (fun (u : SS) => (wRoot g ad u sv isS hst spare undo seen dbef drec ptx plen ppos pcnt cmds stE stF lch llen)) (vx_runVW (As := [.ref (ad (63 + (Int32.toNatClampNeg x2)))]) (rest := []) ⟨hx, hb, hml, hown, hts⟩ (c_X10_succeeds l hl0 g ad st sv isS hst spare undo seen dbef drec ptx plen ppos pcnt cmds stE stF lch llen _ (Int32.toNatClampNeg x2) (Nat.lt_of_not_le (fun h => zg24 (Or.inr h))) fu _ hzo25) (vx_cwVW 1 hts (gdV mU_1145 mU_1147 mU_27 mU_66 mU_1148) rfl rfl rfl (by decide +kernel) ⟨Nat.le_of_ble_eq_true rfl, Nat.le_of_ble_eq_true rfl⟩) ⟨z_blind _ _ _ _, va_recv hK hP (ci := 6) (q0 := 0) rfl rfl, fun U hU hW => z_preE hP hD hK hB hS hA hU hW⟩ rfl rfl hl.1 rfl (lv_room (Nat.le_of_ble_eq_true rfl)) dX10_run_76 ⟨Nat.le_of_ble_eq_true rfl, Nat.le_of_ble_eq_true rfl⟩) hD hS hA (fun _ => rfl) (fun r u H locs hw hP hD hS => ?_)
      obtain ⟨rfl, rfl⟩ := hw
      have hP : va_P (gD g) zCl (wRoot g ad zo25.2 sv isS hst spare undo seen dbef drec ptx plen ppos pcnt cmds stE stF lch llen) H := hP
      have hD : va_D A (wRoot g ad zo25.2 sv isS hst spare undo seen dbef drec ptx plen ppos pcnt cmds stE stF lch llen) := hD
      refine lv_if_ne (tgt := 109) hx hb dX10_run_79 (by decide) (fun zc26 => ?_) (fun zc26 => ?_)
      · have hF := z_neg hF zc26
        obtain ⟨zv27, ezv27, hF⟩ := z_let hF
        refine lv_iinc (v := zv27) (lv' := [(2, .int zv27), (0, .ref (ad 0))]) hx hb dX10_run_109 hl (k := 1) rfl (by rw [ezv27]; rfl) (by decide) rfl (fun ls hl => ?_)
        refine lv_goto (tgt := 55) hx hb dX10_run_112 (by decide) ?_
        exact K700055 () zo25.2 hst spare undo plen ppos pcnt cmds stE stF zv27 hF _ _ _ (lv_sub hl [1, 0] rfl) hP hD hS
      · have hF := z_pos hF zc26
        refine lv_aload_n hx hb dX10_run_82 rfl (lv_at hl 0 rfl) ?_
        refine va_get (D := gD g) (ci := 6) (v := .ref (ad 11)) (C := RX10) (T := TX10) (N := 9) hx hb hts inX10 hown hK hP 0 rfl rfl 3 (by decide) (hts _ mU_280) (fun _ h9 => h9) rfl dX10_run_83 ?_
        refine lv_aload_n hx hb dX10_run_86 rfl (lv_at hl 0 rfl) ?_
        refine va_get (D := gD g) (ci := 6) (v := .ref (ad 1)) (C := RX10) (T := TX10) (N := 9) hx hb hts inX10 hown hK hP 0 rfl rfl 0 (by decide) (hts _ mU_277) (fun _ h9 => h9) rfl dX10_run_87 ?_
        obtain ⟨zo28, hzo28, hF⟩ := z_bind hF
        refine z_callvE (fun (u : SS) => (wRoot g ad u sv isS hst spare undo seen dbef drec ptx plen ppos pcnt cmds stE stF lch llen)) (va_runV (As := [.ref (ad 1)]) (rest := []) ⟨hx, hb, hml, hown, hts⟩ (c_X2_takeBack l g ad zo25.2 sv isS hst spare undo seen dbef drec ptx plen ppos pcnt cmds stE stF lch llen _ _ hzo28) (cwV 1 hts (gdV mU_1155 mU_1156 mU_1157 mU_68 mU_1158) rfl rfl rfl (by decide +kernel) ⟨Nat.le_of_ble_eq_true rfl, Nat.le_of_ble_eq_true rfl⟩) ⟨z_blind _ _ _ _, va_recv hK hP (ci := 1) (q0 := 11) rfl rfl, fun U hU hW => z_preE hP hD hK hB hS hA hU hW⟩ rfl rfl hl.1 rfl (lv_room (Nat.le_of_ble_eq_true rfl)) dX10_run_90 ⟨Nat.le_of_ble_eq_true rfl, Nat.le_of_ble_eq_true rfl⟩) hD hS hA (fun _ => rfl) (fun u H locs hw hP hD hS => ?_)
        subst hw
        have hP : va_P (gD g) zCl (wRoot g ad zo28 sv isS hst spare undo seen dbef drec ptx plen ppos pcnt cmds stE stF lch llen) H := hP
        have hD : va_D A (wRoot g ad zo28 sv isS hst spare undo seen dbef drec ptx plen ppos pcnt cmds stE stF lch llen) := hD
        refine lv_aload_n hx hb dX10_run_93 rfl (lv_at hl 0 rfl) ?_
        refine lv_iload_n hx hb dX10_run_94 rfl (lv_at hl 1 rfl) ?_
        refine va_put (D := gD g) (ci := 6) (v := .int x2) (ty := .int) (C := RX10) (T := TX10) (N := 9) hx hb hts inX10 tyX10 tyX10_ok nmX10 hown hK hP hD hS 0 rfl rfl 7 (by decide) (hts _ mU_284) (fun _ h9 => h9) rfl (by decide +kernel) rfl rfl (Nat.le_of_ble_eq_true rfl) dX10_run_95 (fun H locs hP hD hS => ?_)
        have hP : va_P (gD g) zCl (wRoot g ad zo28 sv isS hst spare undo seen dbef drec ptx plen ppos pcnt cmds stE x2 lch llen) H := hP
        have hD : va_D A (wRoot g ad zo28 sv isS hst spare undo seen dbef drec ptx plen ppos pcnt cmds stE x2 lch llen) := hD
        have ho := (Option.some.inj hF).symm
        obtain ⟨sa, hsa⟩ := hB.2.1.2.2.1 (334, "a command fails") (by decide +kernel)
        exact vx_throwSW hx hb hl0 (own := RX10) (cls := "java/lang/UnsupportedOperationException") (text := "a command fails") (names := ["java/lang/RuntimeException", "java/lang/Exception"]) hown (by decide +kernel) (by decide +kernel) (hts _ mU_644) (hts _ mU_89) hsa (zat_120 hts hB) zgo_120 hB.1.1 hB.1.2 hS (hl.1.trans hml.symm) dX10_run_98 dX10_run_101 dX10_run_102 dX10_run_105 dX10_run_108 (fun x hx => (hnx x hx).elim) (Nat.le_of_ble_eq_true rfl) (Nat.le_of_ble_eq_true rfl) (Nat.le_of_ble_eq_true rfl) (Nat.le_of_ble_eq_true rfl) hlocks (fun t ha hz hk => ⟨(2, (zo28, hst, spare, undo, plen, ppos, pcnt, cmds, stE, x2)), ho, ⟨rfl, (z_thr hP hS hz hk).1⟩, (z_thr hP hS hz hk).2⟩) hS.2.2 (Nat.le_of_ble_eq_true rfl) (Nat.le_of_ble_eq_true rfl)
  have K500055 : ∀ (_ : Unit) (st : SS) (hst : Nat → SS) (spare : Int32) (undo : Int32) (plen : Int32) (ppos : Int32) (pcnt : Int32) (cmds : Nat → CC) (stE : Int32) (stF : Int32) (x2 : Int32), F_X10_run_500055 fu st hst spare undo ptx plen ppos pcnt cmds stE stF x2 = some o → ∀ (H : Heap) (locs : List Loc) (ls : Array Slot), lv_has ls 3 [(0, .ref (ad 0)), (2, .int x2)] → va_P (gD g) zCl (wRoot g ad st sv isS hst spare undo seen dbef drec ptx plen ppos pcnt cmds stE stF lch llen) H → va_D A (wRoot g ad st sv isS hst spare undo seen dbef drec ptx plen ppos pcnt cmds stE stF lch llen) → va_S A s.heap H locs → W p l e (headSpec w_X10_run r_X10_run).room s m ([.ref (ad 0)] : List Value).toArray below meth c H locs 25 150 (vx_MQ below (q_X10_run g ad st sv isS hst spare undo seen dbef drec ptx plen ppos pcnt cmds stE stF lch llen o A) (x_X10_run g ad st sv isS hst spare undo seen dbef drec ptx plen ppos pcnt cmds stE stF lch llen o A) ([.ref (ad 0)] : List Value).toArray s 51 306 A) (F0 m 55 ls []) := by
    intro _ st hst spare undo plen ppos pcnt cmds stE stF x2 hF H locs ls hl hP hD hS
    unfold F_X10_run_500055 at hF
    refine lv_iload_n hx hb dX10_run_55 rfl (lv_at hl 1 rfl) ?_
    refine lv_aload_n hx hb dX10_run_56 rfl (lv_at hl 0 rfl) ?_
    refine va_get (D := gD g) (ci := 6) (v := .ref (ad 60)) (C := RX10) (T := TX10) (N := 9) hx hb hts inX10 hown hK hP 0 rfl rfl 5 (by decide) (hts _ mU_282) (fun _ h9 => h9) rfl dX10_run_57 ?_
    refine va_getN (D := gD g) (ci := 4) (v := .int pcnt) (C := RX6) (T := TX6) (N := 5) hx hb hts inX6 hown hK hP 60 rfl rfl 4 (by decide) (va_Nw.use rfl (hB.2.1.1 _ zn_250)) (fun _ h9 => h9) rfl dX10_run_60 ?_
    refine lv_icmp_ge (tgt := 115) hx hb dX10_run_63 (by decide) (fun zc29 => ?_) (fun zc29 => ?_)
    · have hF := z_pos hF zc29
      refine lv_aload_n hx hb dX10_run_115 rfl (lv_at hl 0 rfl) ?_
      refine va_get (D := gD g) (ci := 6) (v := .ref (ad 11)) (C := RX10) (T := TX10) (N := 9) hx hb hts inX10 hown hK hP 0 rfl rfl 3 (by decide) (hts _ mU_280) (fun _ h9 => h9) rfl dX10_run_116 ?_
      obtain ⟨zo30, hzo30, hF⟩ := z_bind hF
      refine z_callvE (fun (u : Int32 × Int32) => (wRoot g ad st sv isS hst u.1 u.2 seen dbef drec ptx plen ppos pcnt cmds stE stF lch llen)) (va_runV (As := []) (rest := []) ⟨hx, hb, hml, hown, hts⟩ (c_X2_keep l g ad st sv isS hst spare undo seen dbef drec ptx plen ppos pcnt cmds stE stF lch llen _ _ hzo30) (cwV 0 hts (gdV mU_664 mU_665 mU_666 mU_68 mU_667) rfl rfl rfl (by decide +kernel) ⟨Nat.le_of_ble_eq_true rfl, Nat.le_of_ble_eq_true rfl⟩) ⟨z_blind _ _ _ _, va_recv hK hP (ci := 1) (q0 := 11) rfl rfl, fun U hU hW => z_preE hP hD hK hB hS hA hU hW⟩ rfl rfl hl.1 rfl (lv_room (Nat.le_of_ble_eq_true rfl)) dX10_run_119 ⟨Nat.le_of_ble_eq_true rfl, Nat.le_of_ble_eq_true rfl⟩) hD hS hA (fun _ => rfl) (fun u H locs hw hP hD hS => ?_)
      subst hw
      have hP : va_P (gD g) zCl (wRoot g ad st sv isS hst zo30.1 zo30.2 seen dbef drec ptx plen ppos pcnt cmds stE stF lch llen) H := hP
      have hD : va_D A (wRoot g ad st sv isS hst zo30.1 zo30.2 seen dbef drec ptx plen ppos pcnt cmds stE stF lch llen) := hD
      refine lv_aload_n hx hb dX10_run_122 rfl (lv_at hl 0 rfl) ?_
      refine va_get (D := gD g) (ci := 6) (v := .ref (ad 60)) (C := RX10) (T := TX10) (N := 9) hx hb hts inX10 hown hK hP 0 rfl rfl 5 (by decide) (hts _ mU_282) (fun _ h9 => h9) rfl dX10_run_123 ?_
      refine va_getN (D := gD g) (ci := 4) (v := .int pcnt) (C := RX6) (T := TX6) (N := 5) hx hb hts inX6 hown hK hP 60 rfl rfl 4 (by decide) (va_Nw.use rfl (hB.2.1.1 _ zn_250)) (fun _ h9 => h9) rfl dX10_run_126 ?_
      have ho := (Option.some.inj hF).symm
      refine vx_ret ?_
      refine W.widen (k := 51) (n := 306) (Nat.le_of_ble_eq_true rfl) (Nat.le_of_ble_eq_true rfl) ?_
      exact W.iret (v := pcnt) hx hb hr (fun t ht hW => ⟨⟨pcnt, (st, hst, zo30.1, zo30.2, plen, ppos, pcnt, cmds, stE, stF), rfl, ⟨_, ho, rfl, rfl⟩, z_end ht hP⟩, hS.F ht⟩) hS.2.2 dX10_run_129
    · have hF := z_neg hF zc29
      refine lv_aload_n hx hb dX10_run_66 rfl (lv_at hl 0 rfl) ?_
      refine lv_aload_n hx hb dX10_run_67 rfl (lv_at hl 0 rfl) ?_
      refine va_get (D := gD g) (ci := 6) (v := .ref (ad 60)) (C := RX10) (T := TX10) (N := 9) hx hb hts inX10 hown hK hP 0 rfl rfl 5 (by decide) (hts _ mU_282) (fun _ h9 => h9) rfl dX10_run_68 ?_
      refine va_getN (D := gD g) (ci := 4) (v := .ref (ad 62)) (C := RX6) (T := TX6) (N := 5) hx hb hts inX6 hown hK hP 60 rfl rfl 3 (by decide) (va_Nw.use rfl (hB.2.1.1 _ zn_248)) (fun _ h9 => h9) rfl dX10_run_71 ?_
      refine lv_iload_n hx hb dX10_run_74 rfl (lv_at hl 1 rfl) ?_
      obtain ⟨zg31, hF⟩ := z_grd hF
      refine va_aldq hx hb hK hP 62 5 rfl rfl zg31 dX10_run_75 ?_
      obtain ⟨zo32, hzo32, hF⟩ := z_bind hF
      refine z_calliE (fun (u : SS) => (wRoot g ad u sv isS hst spare undo seen dbef drec ptx plen ppos pcnt cmds stE stF lch llen)) (vx_runVW (As := [.ref (ad (63 + (Int32.toNatClampNeg x2)))]) (rest := []) ⟨hx, hb, hml, hown, hts⟩ (c_X10_succeeds l hl0 g ad st sv isS hst spare undo seen dbef drec ptx plen ppos pcnt cmds stE stF lch llen _ (Int32.toNatClampNeg x2) (Nat.lt_of_not_le (fun h => zg31 (Or.inr h))) fu _ hzo32) (vx_cwVW 1 hts (gdV mU_1145 mU_1147 mU_27 mU_66 mU_1148) rfl rfl rfl (by decide +kernel) ⟨Nat.le_of_ble_eq_true rfl, Nat.le_of_ble_eq_true rfl⟩) ⟨z_blind _ _ _ _, va_recv hK hP (ci := 6) (q0 := 0) rfl rfl, fun U hU hW => z_preE hP hD hK hB hS hA hU hW⟩ rfl rfl hl.1 rfl (lv_room (Nat.le_of_ble_eq_true rfl)) dX10_run_76 ⟨Nat.le_of_ble_eq_true rfl, Nat.le_of_ble_eq_true rfl⟩) hD hS hA (fun _ => rfl) (fun r u H locs hw hP hD hS => ?_)
      obtain ⟨rfl, rfl⟩ := hw
      have hP : va_P (gD g) zCl (wRoot g ad zo32.2 sv isS hst spare undo seen dbef drec ptx plen ppos pcnt cmds stE stF lch llen) H := hP
      have hD : va_D A (wRoot g ad zo32.2 sv isS hst spare undo seen dbef drec ptx plen ppos pcnt cmds stE stF lch llen) := hD
      refine lv_if_ne (tgt := 109) hx hb dX10_run_79 (by decide) (fun zc33 => ?_) (fun zc33 => ?_)
      · have hF := z_neg hF zc33
        obtain ⟨zv34, ezv34, hF⟩ := z_let hF
        refine lv_iinc (v := zv34) (lv' := [(2, .int zv34), (0, .ref (ad 0))]) hx hb dX10_run_109 hl (k := 1) rfl (by rw [ezv34]; rfl) (by decide) rfl (fun ls hl => ?_)
        refine lv_goto (tgt := 55) hx hb dX10_run_112 (by decide) ?_
        exact K600055 () zo32.2 hst spare undo plen ppos pcnt cmds stE stF zv34 hF _ _ _ (lv_sub hl [1, 0] rfl) hP hD hS
      · have hF := z_pos hF zc33
        refine lv_aload_n hx hb dX10_run_82 rfl (lv_at hl 0 rfl) ?_
        refine va_get (D := gD g) (ci := 6) (v := .ref (ad 11)) (C := RX10) (T := TX10) (N := 9) hx hb hts inX10 hown hK hP 0 rfl rfl 3 (by decide) (hts _ mU_280) (fun _ h9 => h9) rfl dX10_run_83 ?_
        refine lv_aload_n hx hb dX10_run_86 rfl (lv_at hl 0 rfl) ?_
        refine va_get (D := gD g) (ci := 6) (v := .ref (ad 1)) (C := RX10) (T := TX10) (N := 9) hx hb hts inX10 hown hK hP 0 rfl rfl 0 (by decide) (hts _ mU_277) (fun _ h9 => h9) rfl dX10_run_87 ?_
        obtain ⟨zo35, hzo35, hF⟩ := z_bind hF
        refine z_callvE (fun (u : SS) => (wRoot g ad u sv isS hst spare undo seen dbef drec ptx plen ppos pcnt cmds stE stF lch llen)) (va_runV (As := [.ref (ad 1)]) (rest := []) ⟨hx, hb, hml, hown, hts⟩ (c_X2_takeBack l g ad zo32.2 sv isS hst spare undo seen dbef drec ptx plen ppos pcnt cmds stE stF lch llen _ _ hzo35) (cwV 1 hts (gdV mU_1155 mU_1156 mU_1157 mU_68 mU_1158) rfl rfl rfl (by decide +kernel) ⟨Nat.le_of_ble_eq_true rfl, Nat.le_of_ble_eq_true rfl⟩) ⟨z_blind _ _ _ _, va_recv hK hP (ci := 1) (q0 := 11) rfl rfl, fun U hU hW => z_preE hP hD hK hB hS hA hU hW⟩ rfl rfl hl.1 rfl (lv_room (Nat.le_of_ble_eq_true rfl)) dX10_run_90 ⟨Nat.le_of_ble_eq_true rfl, Nat.le_of_ble_eq_true rfl⟩) hD hS hA (fun _ => rfl) (fun u H locs hw hP hD hS => ?_)
        subst hw
        have hP : va_P (gD g) zCl (wRoot g ad zo35 sv isS hst spare undo seen dbef drec ptx plen ppos pcnt cmds stE stF lch llen) H := hP
        have hD : va_D A (wRoot g ad zo35 sv isS hst spare undo seen dbef drec ptx plen ppos pcnt cmds stE stF lch llen) := hD
        refine lv_aload_n hx hb dX10_run_93 rfl (lv_at hl 0 rfl) ?_
        refine lv_iload_n hx hb dX10_run_94 rfl (lv_at hl 1 rfl) ?_
        refine va_put (D := gD g) (ci := 6) (v := .int x2) (ty := .int) (C := RX10) (T := TX10) (N := 9) hx hb hts inX10 tyX10 tyX10_ok nmX10 hown hK hP hD hS 0 rfl rfl 7 (by decide) (hts _ mU_284) (fun _ h9 => h9) rfl (by decide +kernel) rfl rfl (Nat.le_of_ble_eq_true rfl) dX10_run_95 (fun H locs hP hD hS => ?_)
        have hP : va_P (gD g) zCl (wRoot g ad zo35 sv isS hst spare undo seen dbef drec ptx plen ppos pcnt cmds stE x2 lch llen) H := hP
        have hD : va_D A (wRoot g ad zo35 sv isS hst spare undo seen dbef drec ptx plen ppos pcnt cmds stE x2 lch llen) := hD
        have ho := (Option.some.inj hF).symm
        obtain ⟨sa, hsa⟩ := hB.2.1.2.2.1 (334, "a command fails") (by decide +kernel)
        exact vx_throwSW hx hb hl0 (own := RX10) (cls := "java/lang/UnsupportedOperationException") (text := "a command fails") (names := ["java/lang/RuntimeException", "java/lang/Exception"]) hown (by decide +kernel) (by decide +kernel) (hts _ mU_644) (hts _ mU_89) hsa (zat_120 hts hB) zgo_120 hB.1.1 hB.1.2 hS (hl.1.trans hml.symm) dX10_run_98 dX10_run_101 dX10_run_102 dX10_run_105 dX10_run_108 (fun x hx => (hnx x hx).elim) (Nat.le_of_ble_eq_true rfl) (Nat.le_of_ble_eq_true rfl) (Nat.le_of_ble_eq_true rfl) (Nat.le_of_ble_eq_true rfl) hlocks (fun t ha hz hk => ⟨(2, (zo35, hst, spare, undo, plen, ppos, pcnt, cmds, stE, x2)), ho, ⟨rfl, (z_thr hP hS hz hk).1⟩, (z_thr hP hS hz hk).2⟩) hS.2.2 (Nat.le_of_ble_eq_true rfl) (Nat.le_of_ble_eq_true rfl)
  have K400055 : ∀ (_ : Unit) (st : SS) (hst : Nat → SS) (spare : Int32) (undo : Int32) (plen : Int32) (ppos : Int32) (pcnt : Int32) (cmds : Nat → CC) (stE : Int32) (stF : Int32) (x2 : Int32), F_X10_run_400055 fu st hst spare undo ptx plen ppos pcnt cmds stE stF x2 = some o → ∀ (H : Heap) (locs : List Loc) (ls : Array Slot), lv_has ls 3 [(0, .ref (ad 0)), (2, .int x2)] → va_P (gD g) zCl (wRoot g ad st sv isS hst spare undo seen dbef drec ptx plen ppos pcnt cmds stE stF lch llen) H → va_D A (wRoot g ad st sv isS hst spare undo seen dbef drec ptx plen ppos pcnt cmds stE stF lch llen) → va_S A s.heap H locs → W p l e (headSpec w_X10_run r_X10_run).room s m ([.ref (ad 0)] : List Value).toArray below meth c H locs 20 120 (vx_MQ below (q_X10_run g ad st sv isS hst spare undo seen dbef drec ptx plen ppos pcnt cmds stE stF lch llen o A) (x_X10_run g ad st sv isS hst spare undo seen dbef drec ptx plen ppos pcnt cmds stE stF lch llen o A) ([.ref (ad 0)] : List Value).toArray s 51 306 A) (F0 m 55 ls []) := by
    intro _ st hst spare undo plen ppos pcnt cmds stE stF x2 hF H locs ls hl hP hD hS
    unfold F_X10_run_400055 at hF
    refine lv_iload_n hx hb dX10_run_55 rfl (lv_at hl 1 rfl) ?_
    refine lv_aload_n hx hb dX10_run_56 rfl (lv_at hl 0 rfl) ?_
    refine va_get (D := gD g) (ci := 6) (v := .ref (ad 60)) (C := RX10) (T := TX10) (N := 9) hx hb hts inX10 hown hK hP 0 rfl rfl 5 (by decide) (hts _ mU_282) (fun _ h9 => h9) rfl dX10_run_57 ?_
    refine va_getN (D := gD g) (ci := 4) (v := .int pcnt) (C := RX6) (T := TX6) (N := 5) hx hb hts inX6 hown hK hP 60 rfl rfl 4 (by decide) (va_Nw.use rfl (hB.2.1.1 _ zn_250)) (fun _ h9 => h9) rfl dX10_run_60 ?_
    refine lv_icmp_ge (tgt := 115) hx hb dX10_run_63 (by decide) (fun zc36 => ?_) (fun zc36 => ?_)
    · have hF := z_pos hF zc36
      refine lv_aload_n hx hb dX10_run_115 rfl (lv_at hl 0 rfl) ?_
      refine va_get (D := gD g) (ci := 6) (v := .ref (ad 11)) (C := RX10) (T := TX10) (N := 9) hx hb hts inX10 hown hK hP 0 rfl rfl 3 (by decide) (hts _ mU_280) (fun _ h9 => h9) rfl dX10_run_116 ?_
      obtain ⟨zo37, hzo37, hF⟩ := z_bind hF
      refine z_callvE (fun (u : Int32 × Int32) => (wRoot g ad st sv isS hst u.1 u.2 seen dbef drec ptx plen ppos pcnt cmds stE stF lch llen)) (va_runV (As := []) (rest := []) ⟨hx, hb, hml, hown, hts⟩ (c_X2_keep l g ad st sv isS hst spare undo seen dbef drec ptx plen ppos pcnt cmds stE stF lch llen _ _ hzo37) (cwV 0 hts (gdV mU_664 mU_665 mU_666 mU_68 mU_667) rfl rfl rfl (by decide +kernel) ⟨Nat.le_of_ble_eq_true rfl, Nat.le_of_ble_eq_true rfl⟩) ⟨z_blind _ _ _ _, va_recv hK hP (ci := 1) (q0 := 11) rfl rfl, fun U hU hW => z_preE hP hD hK hB hS hA hU hW⟩ rfl rfl hl.1 rfl (lv_room (Nat.le_of_ble_eq_true rfl)) dX10_run_119 ⟨Nat.le_of_ble_eq_true rfl, Nat.le_of_ble_eq_true rfl⟩) hD hS hA (fun _ => rfl) (fun u H locs hw hP hD hS => ?_)
      subst hw
      have hP : va_P (gD g) zCl (wRoot g ad st sv isS hst zo37.1 zo37.2 seen dbef drec ptx plen ppos pcnt cmds stE stF lch llen) H := hP
      have hD : va_D A (wRoot g ad st sv isS hst zo37.1 zo37.2 seen dbef drec ptx plen ppos pcnt cmds stE stF lch llen) := hD
      refine lv_aload_n hx hb dX10_run_122 rfl (lv_at hl 0 rfl) ?_
      refine va_get (D := gD g) (ci := 6) (v := .ref (ad 60)) (C := RX10) (T := TX10) (N := 9) hx hb hts inX10 hown hK hP 0 rfl rfl 5 (by decide) (hts _ mU_282) (fun _ h9 => h9) rfl dX10_run_123 ?_
      refine va_getN (D := gD g) (ci := 4) (v := .int pcnt) (C := RX6) (T := TX6) (N := 5) hx hb hts inX6 hown hK hP 60 rfl rfl 4 (by decide) (va_Nw.use rfl (hB.2.1.1 _ zn_250)) (fun _ h9 => h9) rfl dX10_run_126 ?_
      have ho := (Option.some.inj hF).symm
      refine vx_ret ?_
      refine W.widen (k := 51) (n := 306) (Nat.le_of_ble_eq_true rfl) (Nat.le_of_ble_eq_true rfl) ?_
      exact W.iret (v := pcnt) hx hb hr (fun t ht hW => ⟨⟨pcnt, (st, hst, zo37.1, zo37.2, plen, ppos, pcnt, cmds, stE, stF), rfl, ⟨_, ho, rfl, rfl⟩, z_end ht hP⟩, hS.F ht⟩) hS.2.2 dX10_run_129
    · have hF := z_neg hF zc36
      refine lv_aload_n hx hb dX10_run_66 rfl (lv_at hl 0 rfl) ?_
      refine lv_aload_n hx hb dX10_run_67 rfl (lv_at hl 0 rfl) ?_
      refine va_get (D := gD g) (ci := 6) (v := .ref (ad 60)) (C := RX10) (T := TX10) (N := 9) hx hb hts inX10 hown hK hP 0 rfl rfl 5 (by decide) (hts _ mU_282) (fun _ h9 => h9) rfl dX10_run_68 ?_
      refine va_getN (D := gD g) (ci := 4) (v := .ref (ad 62)) (C := RX6) (T := TX6) (N := 5) hx hb hts inX6 hown hK hP 60 rfl rfl 3 (by decide) (va_Nw.use rfl (hB.2.1.1 _ zn_248)) (fun _ h9 => h9) rfl dX10_run_71 ?_
      refine lv_iload_n hx hb dX10_run_74 rfl (lv_at hl 1 rfl) ?_
      obtain ⟨zg38, hF⟩ := z_grd hF
      refine va_aldq hx hb hK hP 62 5 rfl rfl zg38 dX10_run_75 ?_
      obtain ⟨zo39, hzo39, hF⟩ := z_bind hF
      refine z_calliE (fun (u : SS) => (wRoot g ad u sv isS hst spare undo seen dbef drec ptx plen ppos pcnt cmds stE stF lch llen)) (vx_runVW (As := [.ref (ad (63 + (Int32.toNatClampNeg x2)))]) (rest := []) ⟨hx, hb, hml, hown, hts⟩ (c_X10_succeeds l hl0 g ad st sv isS hst spare undo seen dbef drec ptx plen ppos pcnt cmds stE stF lch llen _ (Int32.toNatClampNeg x2) (Nat.lt_of_not_le (fun h => zg38 (Or.inr h))) fu _ hzo39) (vx_cwVW 1 hts (gdV mU_1145 mU_1147 mU_27 mU_66 mU_1148) rfl rfl rfl (by decide +kernel) ⟨Nat.le_of_ble_eq_true rfl, Nat.le_of_ble_eq_true rfl⟩) ⟨z_blind _ _ _ _, va_recv hK hP (ci := 6) (q0 := 0) rfl rfl, fun U hU hW => z_preE hP hD hK hB hS hA hU hW⟩ rfl rfl hl.1 rfl (lv_room (Nat.le_of_ble_eq_true rfl)) dX10_run_76 ⟨Nat.le_of_ble_eq_true rfl, Nat.le_of_ble_eq_true rfl⟩) hD hS hA (fun _ => rfl) (fun r u H locs hw hP hD hS => ?_)
      obtain ⟨rfl, rfl⟩ := hw
      have hP : va_P (gD g) zCl (wRoot g ad zo39.2 sv isS hst spare undo seen dbef drec ptx plen ppos pcnt cmds stE stF lch llen) H := hP
      have hD : va_D A (wRoot g ad zo39.2 sv isS hst spare undo seen dbef drec ptx plen ppos pcnt cmds stE stF lch llen) := hD
      refine lv_if_ne (tgt := 109) hx hb dX10_run_79 (by decide) (fun zc40 => ?_) (fun zc40 => ?_)
      · have hF := z_neg hF zc40
        obtain ⟨zv41, ezv41, hF⟩ := z_let hF
        refine lv_iinc (v := zv41) (lv' := [(2, .int zv41), (0, .ref (ad 0))]) hx hb dX10_run_109 hl (k := 1) rfl (by rw [ezv41]; rfl) (by decide) rfl (fun ls hl => ?_)
        refine lv_goto (tgt := 55) hx hb dX10_run_112 (by decide) ?_
        exact K500055 () zo39.2 hst spare undo plen ppos pcnt cmds stE stF zv41 hF _ _ _ (lv_sub hl [1, 0] rfl) hP hD hS
      · have hF := z_pos hF zc40
        refine lv_aload_n hx hb dX10_run_82 rfl (lv_at hl 0 rfl) ?_
        refine va_get (D := gD g) (ci := 6) (v := .ref (ad 11)) (C := RX10) (T := TX10) (N := 9) hx hb hts inX10 hown hK hP 0 rfl rfl 3 (by decide) (hts _ mU_280) (fun _ h9 => h9) rfl dX10_run_83 ?_
        refine lv_aload_n hx hb dX10_run_86 rfl (lv_at hl 0 rfl) ?_
        refine va_get (D := gD g) (ci := 6) (v := .ref (ad 1)) (C := RX10) (T := TX10) (N := 9) hx hb hts inX10 hown hK hP 0 rfl rfl 0 (by decide) (hts _ mU_277) (fun _ h9 => h9) rfl dX10_run_87 ?_
        obtain ⟨zo42, hzo42, hF⟩ := z_bind hF
        refine z_callvE (fun (u : SS) => (wRoot g ad u sv isS hst spare undo seen dbef drec ptx plen ppos pcnt cmds stE stF lch llen)) (va_runV (As := [.ref (ad 1)]) (rest := []) ⟨hx, hb, hml, hown, hts⟩ (c_X2_takeBack l g ad zo39.2 sv isS hst spare undo seen dbef drec ptx plen ppos pcnt cmds stE stF lch llen _ _ hzo42) (cwV 1 hts (gdV mU_1155 mU_1156 mU_1157 mU_68 mU_1158) rfl rfl rfl (by decide +kernel) ⟨Nat.le_of_ble_eq_true rfl, Nat.le_of_ble_eq_true rfl⟩) ⟨z_blind _ _ _ _, va_recv hK hP (ci := 1) (q0 := 11) rfl rfl, fun U hU hW => z_preE hP hD hK hB hS hA hU hW⟩ rfl rfl hl.1 rfl (lv_room (Nat.le_of_ble_eq_true rfl)) dX10_run_90 ⟨Nat.le_of_ble_eq_true rfl, Nat.le_of_ble_eq_true rfl⟩) hD hS hA (fun _ => rfl) (fun u H locs hw hP hD hS => ?_)
        subst hw
        have hP : va_P (gD g) zCl (wRoot g ad zo42 sv isS hst spare undo seen dbef drec ptx plen ppos pcnt cmds stE stF lch llen) H := hP
        have hD : va_D A (wRoot g ad zo42 sv isS hst spare undo seen dbef drec ptx plen ppos pcnt cmds stE stF lch llen) := hD
        refine lv_aload_n hx hb dX10_run_93 rfl (lv_at hl 0 rfl) ?_
        refine lv_iload_n hx hb dX10_run_94 rfl (lv_at hl 1 rfl) ?_
        refine va_put (D := gD g) (ci := 6) (v := .int x2) (ty := .int) (C := RX10) (T := TX10) (N := 9) hx hb hts inX10 tyX10 tyX10_ok nmX10 hown hK hP hD hS 0 rfl rfl 7 (by decide) (hts _ mU_284) (fun _ h9 => h9) rfl (by decide +kernel) rfl rfl (Nat.le_of_ble_eq_true rfl) dX10_run_95 (fun H locs hP hD hS => ?_)
        have hP : va_P (gD g) zCl (wRoot g ad zo42 sv isS hst spare undo seen dbef drec ptx plen ppos pcnt cmds stE x2 lch llen) H := hP
        have hD : va_D A (wRoot g ad zo42 sv isS hst spare undo seen dbef drec ptx plen ppos pcnt cmds stE x2 lch llen) := hD
        have ho := (Option.some.inj hF).symm
        obtain ⟨sa, hsa⟩ := hB.2.1.2.2.1 (334, "a command fails") (by decide +kernel)
        exact vx_throwSW hx hb hl0 (own := RX10) (cls := "java/lang/UnsupportedOperationException") (text := "a command fails") (names := ["java/lang/RuntimeException", "java/lang/Exception"]) hown (by decide +kernel) (by decide +kernel) (hts _ mU_644) (hts _ mU_89) hsa (zat_120 hts hB) zgo_120 hB.1.1 hB.1.2 hS (hl.1.trans hml.symm) dX10_run_98 dX10_run_101 dX10_run_102 dX10_run_105 dX10_run_108 (fun x hx => (hnx x hx).elim) (Nat.le_of_ble_eq_true rfl) (Nat.le_of_ble_eq_true rfl) (Nat.le_of_ble_eq_true rfl) (Nat.le_of_ble_eq_true rfl) hlocks (fun t ha hz hk => ⟨(2, (zo42, hst, spare, undo, plen, ppos, pcnt, cmds, stE, x2)), ho, ⟨rfl, (z_thr hP hS hz hk).1⟩, (z_thr hP hS hz hk).2⟩) hS.2.2 (Nat.le_of_ble_eq_true rfl) (Nat.le_of_ble_eq_true rfl)
  have K300055 : ∀ (_ : Unit) (st : SS) (hst : Nat → SS) (spare : Int32) (undo : Int32) (plen : Int32) (ppos : Int32) (pcnt : Int32) (cmds : Nat → CC) (stE : Int32) (stF : Int32) (x2 : Int32), F_X10_run_300055 fu st hst spare undo ptx plen ppos pcnt cmds stE stF x2 = some o → ∀ (H : Heap) (locs : List Loc) (ls : Array Slot), lv_has ls 3 [(0, .ref (ad 0)), (2, .int x2)] → va_P (gD g) zCl (wRoot g ad st sv isS hst spare undo seen dbef drec ptx plen ppos pcnt cmds stE stF lch llen) H → va_D A (wRoot g ad st sv isS hst spare undo seen dbef drec ptx plen ppos pcnt cmds stE stF lch llen) → va_S A s.heap H locs → W p l e (headSpec w_X10_run r_X10_run).room s m ([.ref (ad 0)] : List Value).toArray below meth c H locs 15 90 (vx_MQ below (q_X10_run g ad st sv isS hst spare undo seen dbef drec ptx plen ppos pcnt cmds stE stF lch llen o A) (x_X10_run g ad st sv isS hst spare undo seen dbef drec ptx plen ppos pcnt cmds stE stF lch llen o A) ([.ref (ad 0)] : List Value).toArray s 51 306 A) (F0 m 55 ls []) := by
    intro _ st hst spare undo plen ppos pcnt cmds stE stF x2 hF H locs ls hl hP hD hS
    unfold F_X10_run_300055 at hF
    refine lv_iload_n hx hb dX10_run_55 rfl (lv_at hl 1 rfl) ?_
    refine lv_aload_n hx hb dX10_run_56 rfl (lv_at hl 0 rfl) ?_
    refine va_get (D := gD g) (ci := 6) (v := .ref (ad 60)) (C := RX10) (T := TX10) (N := 9) hx hb hts inX10 hown hK hP 0 rfl rfl 5 (by decide) (hts _ mU_282) (fun _ h9 => h9) rfl dX10_run_57 ?_
    refine va_getN (D := gD g) (ci := 4) (v := .int pcnt) (C := RX6) (T := TX6) (N := 5) hx hb hts inX6 hown hK hP 60 rfl rfl 4 (by decide) (va_Nw.use rfl (hB.2.1.1 _ zn_250)) (fun _ h9 => h9) rfl dX10_run_60 ?_
    refine lv_icmp_ge (tgt := 115) hx hb dX10_run_63 (by decide) (fun zc43 => ?_) (fun zc43 => ?_)
    · have hF := z_pos hF zc43
      refine lv_aload_n hx hb dX10_run_115 rfl (lv_at hl 0 rfl) ?_
      refine va_get (D := gD g) (ci := 6) (v := .ref (ad 11)) (C := RX10) (T := TX10) (N := 9) hx hb hts inX10 hown hK hP 0 rfl rfl 3 (by decide) (hts _ mU_280) (fun _ h9 => h9) rfl dX10_run_116 ?_
      obtain ⟨zo44, hzo44, hF⟩ := z_bind hF
      refine z_callvE (fun (u : Int32 × Int32) => (wRoot g ad st sv isS hst u.1 u.2 seen dbef drec ptx plen ppos pcnt cmds stE stF lch llen)) (va_runV (As := []) (rest := []) ⟨hx, hb, hml, hown, hts⟩ (c_X2_keep l g ad st sv isS hst spare undo seen dbef drec ptx plen ppos pcnt cmds stE stF lch llen _ _ hzo44) (cwV 0 hts (gdV mU_664 mU_665 mU_666 mU_68 mU_667) rfl rfl rfl (by decide +kernel) ⟨Nat.le_of_ble_eq_true rfl, Nat.le_of_ble_eq_true rfl⟩) ⟨z_blind _ _ _ _, va_recv hK hP (ci := 1) (q0 := 11) rfl rfl, fun U hU hW => z_preE hP hD hK hB hS hA hU hW⟩ rfl rfl hl.1 rfl (lv_room (Nat.le_of_ble_eq_true rfl)) dX10_run_119 ⟨Nat.le_of_ble_eq_true rfl, Nat.le_of_ble_eq_true rfl⟩) hD hS hA (fun _ => rfl) (fun u H locs hw hP hD hS => ?_)
      subst hw
      have hP : va_P (gD g) zCl (wRoot g ad st sv isS hst zo44.1 zo44.2 seen dbef drec ptx plen ppos pcnt cmds stE stF lch llen) H := hP
      have hD : va_D A (wRoot g ad st sv isS hst zo44.1 zo44.2 seen dbef drec ptx plen ppos pcnt cmds stE stF lch llen) := hD
      refine lv_aload_n hx hb dX10_run_122 rfl (lv_at hl 0 rfl) ?_
      refine va_get (D := gD g) (ci := 6) (v := .ref (ad 60)) (C := RX10) (T := TX10) (N := 9) hx hb hts inX10 hown hK hP 0 rfl rfl 5 (by decide) (hts _ mU_282) (fun _ h9 => h9) rfl dX10_run_123 ?_
      refine va_getN (D := gD g) (ci := 4) (v := .int pcnt) (C := RX6) (T := TX6) (N := 5) hx hb hts inX6 hown hK hP 60 rfl rfl 4 (by decide) (va_Nw.use rfl (hB.2.1.1 _ zn_250)) (fun _ h9 => h9) rfl dX10_run_126 ?_
      have ho := (Option.some.inj hF).symm
      refine vx_ret ?_
      refine W.widen (k := 51) (n := 306) (Nat.le_of_ble_eq_true rfl) (Nat.le_of_ble_eq_true rfl) ?_
      exact W.iret (v := pcnt) hx hb hr (fun t ht hW => ⟨⟨pcnt, (st, hst, zo44.1, zo44.2, plen, ppos, pcnt, cmds, stE, stF), rfl, ⟨_, ho, rfl, rfl⟩, z_end ht hP⟩, hS.F ht⟩) hS.2.2 dX10_run_129
    · have hF := z_neg hF zc43
      refine lv_aload_n hx hb dX10_run_66 rfl (lv_at hl 0 rfl) ?_
      refine lv_aload_n hx hb dX10_run_67 rfl (lv_at hl 0 rfl) ?_
      refine va_get (D := gD g) (ci := 6) (v := .ref (ad 60)) (C := RX10) (T := TX10) (N := 9) hx hb hts inX10 hown hK hP 0 rfl rfl 5 (by decide) (hts _ mU_282) (fun _ h9 => h9) rfl dX10_run_68 ?_
      refine va_getN (D := gD g) (ci := 4) (v := .ref (ad 62)) (C := RX6) (T := TX6) (N := 5) hx hb hts inX6 hown hK hP 60 rfl rfl 3 (by decide) (va_Nw.use rfl (hB.2.1.1 _ zn_248)) (fun _ h9 => h9) rfl dX10_run_71 ?_
      refine lv_iload_n hx hb dX10_run_74 rfl (lv_at hl 1 rfl) ?_
      obtain ⟨zg45, hF⟩ := z_grd hF
      refine va_aldq hx hb hK hP 62 5 rfl rfl zg45 dX10_run_75 ?_
      obtain ⟨zo46, hzo46, hF⟩ := z_bind hF
      refine z_calliE (fun (u : SS) => (wRoot g ad u sv isS hst spare undo seen dbef drec ptx plen ppos pcnt cmds stE stF lch llen)) (vx_runVW (As := [.ref (ad (63 + (Int32.toNatClampNeg x2)))]) (rest := []) ⟨hx, hb, hml, hown, hts⟩ (c_X10_succeeds l hl0 g ad st sv isS hst spare undo seen dbef drec ptx plen ppos pcnt cmds stE stF lch llen _ (Int32.toNatClampNeg x2) (Nat.lt_of_not_le (fun h => zg45 (Or.inr h))) fu _ hzo46) (vx_cwVW 1 hts (gdV mU_1145 mU_1147 mU_27 mU_66 mU_1148) rfl rfl rfl (by decide +kernel) ⟨Nat.le_of_ble_eq_true rfl, Nat.le_of_ble_eq_true rfl⟩) ⟨z_blind _ _ _ _, va_recv hK hP (ci := 6) (q0 := 0) rfl rfl, fun U hU hW => z_preE hP hD hK hB hS hA hU hW⟩ rfl rfl hl.1 rfl (lv_room (Nat.le_of_ble_eq_true rfl)) dX10_run_76 ⟨Nat.le_of_ble_eq_true rfl, Nat.le_of_ble_eq_true rfl⟩) hD hS hA (fun _ => rfl) (fun r u H locs hw hP hD hS => ?_)
      obtain ⟨rfl, rfl⟩ := hw
      have hP : va_P (gD g) zCl (wRoot g ad zo46.2 sv isS hst spare undo seen dbef drec ptx plen ppos pcnt cmds stE stF lch llen) H := hP
      have hD : va_D A (wRoot g ad zo46.2 sv isS hst spare undo seen dbef drec ptx plen ppos pcnt cmds stE stF lch llen) := hD
      refine lv_if_ne (tgt := 109) hx hb dX10_run_79 (by decide) (fun zc47 => ?_) (fun zc47 => ?_)
      · have hF := z_neg hF zc47
        obtain ⟨zv48, ezv48, hF⟩ := z_let hF
        refine lv_iinc (v := zv48) (lv' := [(2, .int zv48), (0, .ref (ad 0))]) hx hb dX10_run_109 hl (k := 1) rfl (by rw [ezv48]; rfl) (by decide) rfl (fun ls hl => ?_)
        refine lv_goto (tgt := 55) hx hb dX10_run_112 (by decide) ?_
        exact K400055 () zo46.2 hst spare undo plen ppos pcnt cmds stE stF zv48 hF _ _ _ (lv_sub hl [1, 0] rfl) hP hD hS
      · have hF := z_pos hF zc47
        refine lv_aload_n hx hb dX10_run_82 rfl (lv_at hl 0 rfl) ?_
        refine va_get (D := gD g) (ci := 6) (v := .ref (ad 11)) (C := RX10) (T := TX10) (N := 9) hx hb hts inX10 hown hK hP 0 rfl rfl 3 (by decide) (hts _ mU_280) (fun _ h9 => h9) rfl dX10_run_83 ?_
        refine lv_aload_n hx hb dX10_run_86 rfl (lv_at hl 0 rfl) ?_
        refine va_get (D := gD g) (ci := 6) (v := .ref (ad 1)) (C := RX10) (T := TX10) (N := 9) hx hb hts inX10 hown hK hP 0 rfl rfl 0 (by decide) (hts _ mU_277) (fun _ h9 => h9) rfl dX10_run_87 ?_
        obtain ⟨zo49, hzo49, hF⟩ := z_bind hF
        refine z_callvE (fun (u : SS) => (wRoot g ad u sv isS hst spare undo seen dbef drec ptx plen ppos pcnt cmds stE stF lch llen)) (va_runV (As := [.ref (ad 1)]) (rest := []) ⟨hx, hb, hml, hown, hts⟩ (c_X2_takeBack l g ad zo46.2 sv isS hst spare undo seen dbef drec ptx plen ppos pcnt cmds stE stF lch llen _ _ hzo49) (cwV 1 hts (gdV mU_1155 mU_1156 mU_1157 mU_68 mU_1158) rfl rfl rfl (by decide +kernel) ⟨Nat.le_of_ble_eq_true rfl, Nat.le_of_ble_eq_true rfl⟩) ⟨z_blind _ _ _ _, va_recv hK hP (ci := 1) (q0 := 11) rfl rfl, fun U hU hW => z_preE hP hD hK hB hS hA hU hW⟩ rfl rfl hl.1 rfl (lv_room (Nat.le_of_ble_eq_true rfl)) dX10_run_90 ⟨Nat.le_of_ble_eq_true rfl, Nat.le_of_ble_eq_true rfl⟩) hD hS hA (fun _ => rfl) (fun u H locs hw hP hD hS => ?_)
        subst hw
        have hP : va_P (gD g) zCl (wRoot g ad zo49 sv isS hst spare undo seen dbef drec ptx plen ppos pcnt cmds stE stF lch llen) H := hP
        have hD : va_D A (wRoot g ad zo49 sv isS hst spare undo seen dbef drec ptx plen ppos pcnt cmds stE stF lch llen) := hD
        refine lv_aload_n hx hb dX10_run_93 rfl (lv_at hl 0 rfl) ?_
        refine lv_iload_n hx hb dX10_run_94 rfl (lv_at hl 1 rfl) ?_
        refine va_put (D := gD g) (ci := 6) (v := .int x2) (ty := .int) (C := RX10) (T := TX10) (N := 9) hx hb hts inX10 tyX10 tyX10_ok nmX10 hown hK hP hD hS 0 rfl rfl 7 (by decide) (hts _ mU_284) (fun _ h9 => h9) rfl (by decide +kernel) rfl rfl (Nat.le_of_ble_eq_true rfl) dX10_run_95 (fun H locs hP hD hS => ?_)
        have hP : va_P (gD g) zCl (wRoot g ad zo49 sv isS hst spare undo seen dbef drec ptx plen ppos pcnt cmds stE x2 lch llen) H := hP
        have hD : va_D A (wRoot g ad zo49 sv isS hst spare undo seen dbef drec ptx plen ppos pcnt cmds stE x2 lch llen) := hD
        have ho := (Option.some.inj hF).symm
        obtain ⟨sa, hsa⟩ := hB.2.1.2.2.1 (334, "a command fails") (by decide +kernel)
        exact vx_throwSW hx hb hl0 (own := RX10) (cls := "java/lang/UnsupportedOperationException") (text := "a command fails") (names := ["java/lang/RuntimeException", "java/lang/Exception"]) hown (by decide +kernel) (by decide +kernel) (hts _ mU_644) (hts _ mU_89) hsa (zat_120 hts hB) zgo_120 hB.1.1 hB.1.2 hS (hl.1.trans hml.symm) dX10_run_98 dX10_run_101 dX10_run_102 dX10_run_105 dX10_run_108 (fun x hx => (hnx x hx).elim) (Nat.le_of_ble_eq_true rfl) (Nat.le_of_ble_eq_true rfl) (Nat.le_of_ble_eq_true rfl) (Nat.le_of_ble_eq_true rfl) hlocks (fun t ha hz hk => ⟨(2, (zo49, hst, spare, undo, plen, ppos, pcnt, cmds, stE, x2)), ho, ⟨rfl, (z_thr hP hS hz hk).1⟩, (z_thr hP hS hz hk).2⟩) hS.2.2 (Nat.le_of_ble_eq_true rfl) (Nat.le_of_ble_eq_true rfl)
  have K200055 : ∀ (_ : Unit) (st : SS) (hst : Nat → SS) (spare : Int32) (undo : Int32) (plen : Int32) (ppos : Int32) (pcnt : Int32) (cmds : Nat → CC) (stE : Int32) (stF : Int32) (x2 : Int32), F_X10_run_200055 fu st hst spare undo ptx plen ppos pcnt cmds stE stF x2 = some o → ∀ (H : Heap) (locs : List Loc) (ls : Array Slot), lv_has ls 3 [(0, .ref (ad 0)), (2, .int x2)] → va_P (gD g) zCl (wRoot g ad st sv isS hst spare undo seen dbef drec ptx plen ppos pcnt cmds stE stF lch llen) H → va_D A (wRoot g ad st sv isS hst spare undo seen dbef drec ptx plen ppos pcnt cmds stE stF lch llen) → va_S A s.heap H locs → W p l e (headSpec w_X10_run r_X10_run).room s m ([.ref (ad 0)] : List Value).toArray below meth c H locs 10 60 (vx_MQ below (q_X10_run g ad st sv isS hst spare undo seen dbef drec ptx plen ppos pcnt cmds stE stF lch llen o A) (x_X10_run g ad st sv isS hst spare undo seen dbef drec ptx plen ppos pcnt cmds stE stF lch llen o A) ([.ref (ad 0)] : List Value).toArray s 51 306 A) (F0 m 55 ls []) := by
    intro _ st hst spare undo plen ppos pcnt cmds stE stF x2 hF H locs ls hl hP hD hS
    unfold F_X10_run_200055 at hF
    refine lv_iload_n hx hb dX10_run_55 rfl (lv_at hl 1 rfl) ?_
    refine lv_aload_n hx hb dX10_run_56 rfl (lv_at hl 0 rfl) ?_
    refine va_get (D := gD g) (ci := 6) (v := .ref (ad 60)) (C := RX10) (T := TX10) (N := 9) hx hb hts inX10 hown hK hP 0 rfl rfl 5 (by decide) (hts _ mU_282) (fun _ h9 => h9) rfl dX10_run_57 ?_
    refine va_getN (D := gD g) (ci := 4) (v := .int pcnt) (C := RX6) (T := TX6) (N := 5) hx hb hts inX6 hown hK hP 60 rfl rfl 4 (by decide) (va_Nw.use rfl (hB.2.1.1 _ zn_250)) (fun _ h9 => h9) rfl dX10_run_60 ?_
    refine lv_icmp_ge (tgt := 115) hx hb dX10_run_63 (by decide) (fun zc50 => ?_) (fun zc50 => ?_)
    · have hF := z_pos hF zc50
      refine lv_aload_n hx hb dX10_run_115 rfl (lv_at hl 0 rfl) ?_
      refine va_get (D := gD g) (ci := 6) (v := .ref (ad 11)) (C := RX10) (T := TX10) (N := 9) hx hb hts inX10 hown hK hP 0 rfl rfl 3 (by decide) (hts _ mU_280) (fun _ h9 => h9) rfl dX10_run_116 ?_
      obtain ⟨zo51, hzo51, hF⟩ := z_bind hF
      refine z_callvE (fun (u : Int32 × Int32) => (wRoot g ad st sv isS hst u.1 u.2 seen dbef drec ptx plen ppos pcnt cmds stE stF lch llen)) (va_runV (As := []) (rest := []) ⟨hx, hb, hml, hown, hts⟩ (c_X2_keep l g ad st sv isS hst spare undo seen dbef drec ptx plen ppos pcnt cmds stE stF lch llen _ _ hzo51) (cwV 0 hts (gdV mU_664 mU_665 mU_666 mU_68 mU_667) rfl rfl rfl (by decide +kernel) ⟨Nat.le_of_ble_eq_true rfl, Nat.le_of_ble_eq_true rfl⟩) ⟨z_blind _ _ _ _, va_recv hK hP (ci := 1) (q0 := 11) rfl rfl, fun U hU hW => z_preE hP hD hK hB hS hA hU hW⟩ rfl rfl hl.1 rfl (lv_room (Nat.le_of_ble_eq_true rfl)) dX10_run_119 ⟨Nat.le_of_ble_eq_true rfl, Nat.le_of_ble_eq_true rfl⟩) hD hS hA (fun _ => rfl) (fun u H locs hw hP hD hS => ?_)
      subst hw
      have hP : va_P (gD g) zCl (wRoot g ad st sv isS hst zo51.1 zo51.2 seen dbef drec ptx plen ppos pcnt cmds stE stF lch llen) H := hP
      have hD : va_D A (wRoot g ad st sv isS hst zo51.1 zo51.2 seen dbef drec ptx plen ppos pcnt cmds stE stF lch llen) := hD
      refine lv_aload_n hx hb dX10_run_122 rfl (lv_at hl 0 rfl) ?_
      refine va_get (D := gD g) (ci := 6) (v := .ref (ad 60)) (C := RX10) (T := TX10) (N := 9) hx hb hts inX10 hown hK hP 0 rfl rfl 5 (by decide) (hts _ mU_282) (fun _ h9 => h9) rfl dX10_run_123 ?_
      refine va_getN (D := gD g) (ci := 4) (v := .int pcnt) (C := RX6) (T := TX6) (N := 5) hx hb hts inX6 hown hK hP 60 rfl rfl 4 (by decide) (va_Nw.use rfl (hB.2.1.1 _ zn_250)) (fun _ h9 => h9) rfl dX10_run_126 ?_
      have ho := (Option.some.inj hF).symm
      refine vx_ret ?_
      refine W.widen (k := 51) (n := 306) (Nat.le_of_ble_eq_true rfl) (Nat.le_of_ble_eq_true rfl) ?_
      exact W.iret (v := pcnt) hx hb hr (fun t ht hW => ⟨⟨pcnt, (st, hst, zo51.1, zo51.2, plen, ppos, pcnt, cmds, stE, stF), rfl, ⟨_, ho, rfl, rfl⟩, z_end ht hP⟩, hS.F ht⟩) hS.2.2 dX10_run_129
    · have hF := z_neg hF zc50
      refine lv_aload_n hx hb dX10_run_66 rfl (lv_at hl 0 rfl) ?_
      refine lv_aload_n hx hb dX10_run_67 rfl (lv_at hl 0 rfl) ?_
      refine va_get (D := gD g) (ci := 6) (v := .ref (ad 60)) (C := RX10) (T := TX10) (N := 9) hx hb hts inX10 hown hK hP 0 rfl rfl 5 (by decide) (hts _ mU_282) (fun _ h9 => h9) rfl dX10_run_68 ?_
      refine va_getN (D := gD g) (ci := 4) (v := .ref (ad 62)) (C := RX6) (T := TX6) (N := 5) hx hb hts inX6 hown hK hP 60 rfl rfl 3 (by decide) (va_Nw.use rfl (hB.2.1.1 _ zn_248)) (fun _ h9 => h9) rfl dX10_run_71 ?_
      refine lv_iload_n hx hb dX10_run_74 rfl (lv_at hl 1 rfl) ?_
      obtain ⟨zg52, hF⟩ := z_grd hF
      refine va_aldq hx hb hK hP 62 5 rfl rfl zg52 dX10_run_75 ?_
      obtain ⟨zo53, hzo53, hF⟩ := z_bind hF
      refine z_calliE (fun (u : SS) => (wRoot g ad u sv isS hst spare undo seen dbef drec ptx plen ppos pcnt cmds stE stF lch llen)) (vx_runVW (As := [.ref (ad (63 + (Int32.toNatClampNeg x2)))]) (rest := []) ⟨hx, hb, hml, hown, hts⟩ (c_X10_succeeds l hl0 g ad st sv isS hst spare undo seen dbef drec ptx plen ppos pcnt cmds stE stF lch llen _ (Int32.toNatClampNeg x2) (Nat.lt_of_not_le (fun h => zg52 (Or.inr h))) fu _ hzo53) (vx_cwVW 1 hts (gdV mU_1145 mU_1147 mU_27 mU_66 mU_1148) rfl rfl rfl (by decide +kernel) ⟨Nat.le_of_ble_eq_true rfl, Nat.le_of_ble_eq_true rfl⟩) ⟨z_blind _ _ _ _, va_recv hK hP (ci := 6) (q0 := 0) rfl rfl, fun U hU hW => z_preE hP hD hK hB hS hA hU hW⟩ rfl rfl hl.1 rfl (lv_room (Nat.le_of_ble_eq_true rfl)) dX10_run_76 ⟨Nat.le_of_ble_eq_true rfl, Nat.le_of_ble_eq_true rfl⟩) hD hS hA (fun _ => rfl) (fun r u H locs hw hP hD hS => ?_)
      obtain ⟨rfl, rfl⟩ := hw
      have hP : va_P (gD g) zCl (wRoot g ad zo53.2 sv isS hst spare undo seen dbef drec ptx plen ppos pcnt cmds stE stF lch llen) H := hP
      have hD : va_D A (wRoot g ad zo53.2 sv isS hst spare undo seen dbef drec ptx plen ppos pcnt cmds stE stF lch llen) := hD
      refine lv_if_ne (tgt := 109) hx hb dX10_run_79 (by decide) (fun zc54 => ?_) (fun zc54 => ?_)
      · have hF := z_neg hF zc54
        obtain ⟨zv55, ezv55, hF⟩ := z_let hF
        refine lv_iinc (v := zv55) (lv' := [(2, .int zv55), (0, .ref (ad 0))]) hx hb dX10_run_109 hl (k := 1) rfl (by rw [ezv55]; rfl) (by decide) rfl (fun ls hl => ?_)
        refine lv_goto (tgt := 55) hx hb dX10_run_112 (by decide) ?_
        exact K300055 () zo53.2 hst spare undo plen ppos pcnt cmds stE stF zv55 hF _ _ _ (lv_sub hl [1, 0] rfl) hP hD hS
      · have hF := z_pos hF zc54
        refine lv_aload_n hx hb dX10_run_82 rfl (lv_at hl 0 rfl) ?_
        refine va_get (D := gD g) (ci := 6) (v := .ref (ad 11)) (C := RX10) (T := TX10) (N := 9) hx hb hts inX10 hown hK hP 0 rfl rfl 3 (by decide) (hts _ mU_280) (fun _ h9 => h9) rfl dX10_run_83 ?_
        refine lv_aload_n hx hb dX10_run_86 rfl (lv_at hl 0 rfl) ?_
        refine va_get (D := gD g) (ci := 6) (v := .ref (ad 1)) (C := RX10) (T := TX10) (N := 9) hx hb hts inX10 hown hK hP 0 rfl rfl 0 (by decide) (hts _ mU_277) (fun _ h9 => h9) rfl dX10_run_87 ?_
        obtain ⟨zo56, hzo56, hF⟩ := z_bind hF
        refine z_callvE (fun (u : SS) => (wRoot g ad u sv isS hst spare undo seen dbef drec ptx plen ppos pcnt cmds stE stF lch llen)) (va_runV (As := [.ref (ad 1)]) (rest := []) ⟨hx, hb, hml, hown, hts⟩ (c_X2_takeBack l g ad zo53.2 sv isS hst spare undo seen dbef drec ptx plen ppos pcnt cmds stE stF lch llen _ _ hzo56) (cwV 1 hts (gdV mU_1155 mU_1156 mU_1157 mU_68 mU_1158) rfl rfl rfl (by decide +kernel) ⟨Nat.le_of_ble_eq_true rfl, Nat.le_of_ble_eq_true rfl⟩) ⟨z_blind _ _ _ _, va_recv hK hP (ci := 1) (q0 := 11) rfl rfl, fun U hU hW => z_preE hP hD hK hB hS hA hU hW⟩ rfl rfl hl.1 rfl (lv_room (Nat.le_of_ble_eq_true rfl)) dX10_run_90 ⟨Nat.le_of_ble_eq_true rfl, Nat.le_of_ble_eq_true rfl⟩) hD hS hA (fun _ => rfl) (fun u H locs hw hP hD hS => ?_)
        subst hw
        have hP : va_P (gD g) zCl (wRoot g ad zo56 sv isS hst spare undo seen dbef drec ptx plen ppos pcnt cmds stE stF lch llen) H := hP
        have hD : va_D A (wRoot g ad zo56 sv isS hst spare undo seen dbef drec ptx plen ppos pcnt cmds stE stF lch llen) := hD
        refine lv_aload_n hx hb dX10_run_93 rfl (lv_at hl 0 rfl) ?_
        refine lv_iload_n hx hb dX10_run_94 rfl (lv_at hl 1 rfl) ?_
        refine va_put (D := gD g) (ci := 6) (v := .int x2) (ty := .int) (C := RX10) (T := TX10) (N := 9) hx hb hts inX10 tyX10 tyX10_ok nmX10 hown hK hP hD hS 0 rfl rfl 7 (by decide) (hts _ mU_284) (fun _ h9 => h9) rfl (by decide +kernel) rfl rfl (Nat.le_of_ble_eq_true rfl) dX10_run_95 (fun H locs hP hD hS => ?_)
        have hP : va_P (gD g) zCl (wRoot g ad zo56 sv isS hst spare undo seen dbef drec ptx plen ppos pcnt cmds stE x2 lch llen) H := hP
        have hD : va_D A (wRoot g ad zo56 sv isS hst spare undo seen dbef drec ptx plen ppos pcnt cmds stE x2 lch llen) := hD
        have ho := (Option.some.inj hF).symm
        obtain ⟨sa, hsa⟩ := hB.2.1.2.2.1 (334, "a command fails") (by decide +kernel)
        exact vx_throwSW hx hb hl0 (own := RX10) (cls := "java/lang/UnsupportedOperationException") (text := "a command fails") (names := ["java/lang/RuntimeException", "java/lang/Exception"]) hown (by decide +kernel) (by decide +kernel) (hts _ mU_644) (hts _ mU_89) hsa (zat_120 hts hB) zgo_120 hB.1.1 hB.1.2 hS (hl.1.trans hml.symm) dX10_run_98 dX10_run_101 dX10_run_102 dX10_run_105 dX10_run_108 (fun x hx => (hnx x hx).elim) (Nat.le_of_ble_eq_true rfl) (Nat.le_of_ble_eq_true rfl) (Nat.le_of_ble_eq_true rfl) (Nat.le_of_ble_eq_true rfl) hlocks (fun t ha hz hk => ⟨(2, (zo56, hst, spare, undo, plen, ppos, pcnt, cmds, stE, x2)), ho, ⟨rfl, (z_thr hP hS hz hk).1⟩, (z_thr hP hS hz hk).2⟩) hS.2.2 (Nat.le_of_ble_eq_true rfl) (Nat.le_of_ble_eq_true rfl)
  have K100055 : ∀ (_ : Unit) (st : SS) (hst : Nat → SS) (spare : Int32) (undo : Int32) (plen : Int32) (ppos : Int32) (pcnt : Int32) (cmds : Nat → CC) (stE : Int32) (stF : Int32) (x2 : Int32), F_X10_run_100055 fu st hst spare undo ptx plen ppos pcnt cmds stE stF x2 = some o → ∀ (H : Heap) (locs : List Loc) (ls : Array Slot), lv_has ls 3 [(0, .ref (ad 0)), (2, .int x2)] → va_P (gD g) zCl (wRoot g ad st sv isS hst spare undo seen dbef drec ptx plen ppos pcnt cmds stE stF lch llen) H → va_D A (wRoot g ad st sv isS hst spare undo seen dbef drec ptx plen ppos pcnt cmds stE stF lch llen) → va_S A s.heap H locs → W p l e (headSpec w_X10_run r_X10_run).room s m ([.ref (ad 0)] : List Value).toArray below meth c H locs 5 30 (vx_MQ below (q_X10_run g ad st sv isS hst spare undo seen dbef drec ptx plen ppos pcnt cmds stE stF lch llen o A) (x_X10_run g ad st sv isS hst spare undo seen dbef drec ptx plen ppos pcnt cmds stE stF lch llen o A) ([.ref (ad 0)] : List Value).toArray s 51 306 A) (F0 m 55 ls []) := by
    intro _ st hst spare undo plen ppos pcnt cmds stE stF x2 hF H locs ls hl hP hD hS
    unfold F_X10_run_100055 at hF
    refine lv_iload_n hx hb dX10_run_55 rfl (lv_at hl 1 rfl) ?_
    refine lv_aload_n hx hb dX10_run_56 rfl (lv_at hl 0 rfl) ?_
    refine va_get (D := gD g) (ci := 6) (v := .ref (ad 60)) (C := RX10) (T := TX10) (N := 9) hx hb hts inX10 hown hK hP 0 rfl rfl 5 (by decide) (hts _ mU_282) (fun _ h9 => h9) rfl dX10_run_57 ?_
    refine va_getN (D := gD g) (ci := 4) (v := .int pcnt) (C := RX6) (T := TX6) (N := 5) hx hb hts inX6 hown hK hP 60 rfl rfl 4 (by decide) (va_Nw.use rfl (hB.2.1.1 _ zn_250)) (fun _ h9 => h9) rfl dX10_run_60 ?_
    refine lv_icmp_ge (tgt := 115) hx hb dX10_run_63 (by decide) (fun zc57 => ?_) (fun zc57 => ?_)
    · have hF := z_pos hF zc57
      refine lv_aload_n hx hb dX10_run_115 rfl (lv_at hl 0 rfl) ?_
      refine va_get (D := gD g) (ci := 6) (v := .ref (ad 11)) (C := RX10) (T := TX10) (N := 9) hx hb hts inX10 hown hK hP 0 rfl rfl 3 (by decide) (hts _ mU_280) (fun _ h9 => h9) rfl dX10_run_116 ?_
      obtain ⟨zo58, hzo58, hF⟩ := z_bind hF
      refine z_callvE (fun (u : Int32 × Int32) => (wRoot g ad st sv isS hst u.1 u.2 seen dbef drec ptx plen ppos pcnt cmds stE stF lch llen)) (va_runV (As := []) (rest := []) ⟨hx, hb, hml, hown, hts⟩ (c_X2_keep l g ad st sv isS hst spare undo seen dbef drec ptx plen ppos pcnt cmds stE stF lch llen _ _ hzo58) (cwV 0 hts (gdV mU_664 mU_665 mU_666 mU_68 mU_667) rfl rfl rfl (by decide +kernel) ⟨Nat.le_of_ble_eq_true rfl, Nat.le_of_ble_eq_true rfl⟩) ⟨z_blind _ _ _ _, va_recv hK hP (ci := 1) (q0 := 11) rfl rfl, fun U hU hW => z_preE hP hD hK hB hS hA hU hW⟩ rfl rfl hl.1 rfl (lv_room (Nat.le_of_ble_eq_true rfl)) dX10_run_119 ⟨Nat.le_of_ble_eq_true rfl, Nat.le_of_ble_eq_true rfl⟩) hD hS hA (fun _ => rfl) (fun u H locs hw hP hD hS => ?_)
      subst hw
      have hP : va_P (gD g) zCl (wRoot g ad st sv isS hst zo58.1 zo58.2 seen dbef drec ptx plen ppos pcnt cmds stE stF lch llen) H := hP
      have hD : va_D A (wRoot g ad st sv isS hst zo58.1 zo58.2 seen dbef drec ptx plen ppos pcnt cmds stE stF lch llen) := hD
      refine lv_aload_n hx hb dX10_run_122 rfl (lv_at hl 0 rfl) ?_
      refine va_get (D := gD g) (ci := 6) (v := .ref (ad 60)) (C := RX10) (T := TX10) (N := 9) hx hb hts inX10 hown hK hP 0 rfl rfl 5 (by decide) (hts _ mU_282) (fun _ h9 => h9) rfl dX10_run_123 ?_
      refine va_getN (D := gD g) (ci := 4) (v := .int pcnt) (C := RX6) (T := TX6) (N := 5) hx hb hts inX6 hown hK hP 60 rfl rfl 4 (by decide) (va_Nw.use rfl (hB.2.1.1 _ zn_250)) (fun _ h9 => h9) rfl dX10_run_126 ?_
      have ho := (Option.some.inj hF).symm
      refine vx_ret ?_
      refine W.widen (k := 51) (n := 306) (Nat.le_of_ble_eq_true rfl) (Nat.le_of_ble_eq_true rfl) ?_
      exact W.iret (v := pcnt) hx hb hr (fun t ht hW => ⟨⟨pcnt, (st, hst, zo58.1, zo58.2, plen, ppos, pcnt, cmds, stE, stF), rfl, ⟨_, ho, rfl, rfl⟩, z_end ht hP⟩, hS.F ht⟩) hS.2.2 dX10_run_129
    · have hF := z_neg hF zc57
      refine lv_aload_n hx hb dX10_run_66 rfl (lv_at hl 0 rfl) ?_
      refine lv_aload_n hx hb dX10_run_67 rfl (lv_at hl 0 rfl) ?_
      refine va_get (D := gD g) (ci := 6) (v := .ref (ad 60)) (C := RX10) (T := TX10) (N := 9) hx hb hts inX10 hown hK hP 0 rfl rfl 5 (by decide) (hts _ mU_282) (fun _ h9 => h9) rfl dX10_run_68 ?_
      refine va_getN (D := gD g) (ci := 4) (v := .ref (ad 62)) (C := RX6) (T := TX6) (N := 5) hx hb hts inX6 hown hK hP 60 rfl rfl 3 (by decide) (va_Nw.use rfl (hB.2.1.1 _ zn_248)) (fun _ h9 => h9) rfl dX10_run_71 ?_
      refine lv_iload_n hx hb dX10_run_74 rfl (lv_at hl 1 rfl) ?_
      obtain ⟨zg59, hF⟩ := z_grd hF
      refine va_aldq hx hb hK hP 62 5 rfl rfl zg59 dX10_run_75 ?_
      obtain ⟨zo60, hzo60, hF⟩ := z_bind hF
      refine z_calliE (fun (u : SS) => (wRoot g ad u sv isS hst spare undo seen dbef drec ptx plen ppos pcnt cmds stE stF lch llen)) (vx_runVW (As := [.ref (ad (63 + (Int32.toNatClampNeg x2)))]) (rest := []) ⟨hx, hb, hml, hown, hts⟩ (c_X10_succeeds l hl0 g ad st sv isS hst spare undo seen dbef drec ptx plen ppos pcnt cmds stE stF lch llen _ (Int32.toNatClampNeg x2) (Nat.lt_of_not_le (fun h => zg59 (Or.inr h))) fu _ hzo60) (vx_cwVW 1 hts (gdV mU_1145 mU_1147 mU_27 mU_66 mU_1148) rfl rfl rfl (by decide +kernel) ⟨Nat.le_of_ble_eq_true rfl, Nat.le_of_ble_eq_true rfl⟩) ⟨z_blind _ _ _ _, va_recv hK hP (ci := 6) (q0 := 0) rfl rfl, fun U hU hW => z_preE hP hD hK hB hS hA hU hW⟩ rfl rfl hl.1 rfl (lv_room (Nat.le_of_ble_eq_true rfl)) dX10_run_76 ⟨Nat.le_of_ble_eq_true rfl, Nat.le_of_ble_eq_true rfl⟩) hD hS hA (fun _ => rfl) (fun r u H locs hw hP hD hS => ?_)
      obtain ⟨rfl, rfl⟩ := hw
      have hP : va_P (gD g) zCl (wRoot g ad zo60.2 sv isS hst spare undo seen dbef drec ptx plen ppos pcnt cmds stE stF lch llen) H := hP
      have hD : va_D A (wRoot g ad zo60.2 sv isS hst spare undo seen dbef drec ptx plen ppos pcnt cmds stE stF lch llen) := hD
      refine lv_if_ne (tgt := 109) hx hb dX10_run_79 (by decide) (fun zc61 => ?_) (fun zc61 => ?_)
      · have hF := z_neg hF zc61
        obtain ⟨zv62, ezv62, hF⟩ := z_let hF
        refine lv_iinc (v := zv62) (lv' := [(2, .int zv62), (0, .ref (ad 0))]) hx hb dX10_run_109 hl (k := 1) rfl (by rw [ezv62]; rfl) (by decide) rfl (fun ls hl => ?_)
        refine lv_goto (tgt := 55) hx hb dX10_run_112 (by decide) ?_
        exact K200055 () zo60.2 hst spare undo plen ppos pcnt cmds stE stF zv62 hF _ _ _ (lv_sub hl [1, 0] rfl) hP hD hS
      · have hF := z_pos hF zc61
        refine lv_aload_n hx hb dX10_run_82 rfl (lv_at hl 0 rfl) ?_
        refine va_get (D := gD g) (ci := 6) (v := .ref (ad 11)) (C := RX10) (T := TX10) (N := 9) hx hb hts inX10 hown hK hP 0 rfl rfl 3 (by decide) (hts _ mU_280) (fun _ h9 => h9) rfl dX10_run_83 ?_
        refine lv_aload_n hx hb dX10_run_86 rfl (lv_at hl 0 rfl) ?_
        refine va_get (D := gD g) (ci := 6) (v := .ref (ad 1)) (C := RX10) (T := TX10) (N := 9) hx hb hts inX10 hown hK hP 0 rfl rfl 0 (by decide) (hts _ mU_277) (fun _ h9 => h9) rfl dX10_run_87 ?_
        obtain ⟨zo63, hzo63, hF⟩ := z_bind hF
        refine z_callvE (fun (u : SS) => (wRoot g ad u sv isS hst spare undo seen dbef drec ptx plen ppos pcnt cmds stE stF lch llen)) (va_runV (As := [.ref (ad 1)]) (rest := []) ⟨hx, hb, hml, hown, hts⟩ (c_X2_takeBack l g ad zo60.2 sv isS hst spare undo seen dbef drec ptx plen ppos pcnt cmds stE stF lch llen _ _ hzo63) (cwV 1 hts (gdV mU_1155 mU_1156 mU_1157 mU_68 mU_1158) rfl rfl rfl (by decide +kernel) ⟨Nat.le_of_ble_eq_true rfl, Nat.le_of_ble_eq_true rfl⟩) ⟨z_blind _ _ _ _, va_recv hK hP (ci := 1) (q0 := 11) rfl rfl, fun U hU hW => z_preE hP hD hK hB hS hA hU hW⟩ rfl rfl hl.1 rfl (lv_room (Nat.le_of_ble_eq_true rfl)) dX10_run_90 ⟨Nat.le_of_ble_eq_true rfl, Nat.le_of_ble_eq_true rfl⟩) hD hS hA (fun _ => rfl) (fun u H locs hw hP hD hS => ?_)
        subst hw
        have hP : va_P (gD g) zCl (wRoot g ad zo63 sv isS hst spare undo seen dbef drec ptx plen ppos pcnt cmds stE stF lch llen) H := hP
        have hD : va_D A (wRoot g ad zo63 sv isS hst spare undo seen dbef drec ptx plen ppos pcnt cmds stE stF lch llen) := hD
        refine lv_aload_n hx hb dX10_run_93 rfl (lv_at hl 0 rfl) ?_
        refine lv_iload_n hx hb dX10_run_94 rfl (lv_at hl 1 rfl) ?_
        refine va_put (D := gD g) (ci := 6) (v := .int x2) (ty := .int) (C := RX10) (T := TX10) (N := 9) hx hb hts inX10 tyX10 tyX10_ok nmX10 hown hK hP hD hS 0 rfl rfl 7 (by decide) (hts _ mU_284) (fun _ h9 => h9) rfl (by decide +kernel) rfl rfl (Nat.le_of_ble_eq_true rfl) dX10_run_95 (fun H locs hP hD hS => ?_)
        have hP : va_P (gD g) zCl (wRoot g ad zo63 sv isS hst spare undo seen dbef drec ptx plen ppos pcnt cmds stE x2 lch llen) H := hP
        have hD : va_D A (wRoot g ad zo63 sv isS hst spare undo seen dbef drec ptx plen ppos pcnt cmds stE x2 lch llen) := hD
        have ho := (Option.some.inj hF).symm
        obtain ⟨sa, hsa⟩ := hB.2.1.2.2.1 (334, "a command fails") (by decide +kernel)
        exact vx_throwSW hx hb hl0 (own := RX10) (cls := "java/lang/UnsupportedOperationException") (text := "a command fails") (names := ["java/lang/RuntimeException", "java/lang/Exception"]) hown (by decide +kernel) (by decide +kernel) (hts _ mU_644) (hts _ mU_89) hsa (zat_120 hts hB) zgo_120 hB.1.1 hB.1.2 hS (hl.1.trans hml.symm) dX10_run_98 dX10_run_101 dX10_run_102 dX10_run_105 dX10_run_108 (fun x hx => (hnx x hx).elim) (Nat.le_of_ble_eq_true rfl) (Nat.le_of_ble_eq_true rfl) (Nat.le_of_ble_eq_true rfl) (Nat.le_of_ble_eq_true rfl) hlocks (fun t ha hz hk => ⟨(2, (zo63, hst, spare, undo, plen, ppos, pcnt, cmds, stE, x2)), ho, ⟨rfl, (z_thr hP hS hz hk).1⟩, (z_thr hP hS hz hk).2⟩) hS.2.2 (Nat.le_of_ble_eq_true rfl) (Nat.le_of_ble_eq_true rfl)
  have K55 : ∀ (_ : Unit) (st : SS) (hst : Nat → SS) (spare : Int32) (undo : Int32) (plen : Int32) (ppos : Int32) (pcnt : Int32) (cmds : Nat → CC) (stE : Int32) (stF : Int32) (x2 : Int32), F_X10_run_55 fu st hst spare undo ptx plen ppos pcnt cmds stE stF x2 = some o → ∀ (H : Heap) (locs : List Loc) (ls : Array Slot), lv_has ls 3 [(0, .ref (ad 0)), (2, .int x2)] → va_P (gD g) zCl (wRoot g ad st sv isS hst spare undo seen dbef drec ptx plen ppos pcnt cmds stE stF lch llen) H → va_D A (wRoot g ad st sv isS hst spare undo seen dbef drec ptx plen ppos pcnt cmds stE stF lch llen) → va_S A s.heap H locs → W p l e (headSpec w_X10_run r_X10_run).room s m ([.ref (ad 0)] : List Value).toArray below meth c H locs 0 0 (vx_MQ below (q_X10_run g ad st sv isS hst spare undo seen dbef drec ptx plen ppos pcnt cmds stE stF lch llen o A) (x_X10_run g ad st sv isS hst spare undo seen dbef drec ptx plen ppos pcnt cmds stE stF lch llen o A) ([.ref (ad 0)] : List Value).toArray s 51 306 A) (F0 m 55 ls []) := by
    intro _ st hst spare undo plen ppos pcnt cmds stE stF x2 hF H locs ls hl hP hD hS
    unfold F_X10_run_55 at hF
    refine lv_iload_n hx hb dX10_run_55 rfl (lv_at hl 1 rfl) ?_
    refine lv_aload_n hx hb dX10_run_56 rfl (lv_at hl 0 rfl) ?_
    refine va_get (D := gD g) (ci := 6) (v := .ref (ad 60)) (C := RX10) (T := TX10) (N := 9) hx hb hts inX10 hown hK hP 0 rfl rfl 5 (by decide) (hts _ mU_282) (fun _ h9 => h9) rfl dX10_run_57 ?_
    refine va_getN (D := gD g) (ci := 4) (v := .int pcnt) (C := RX6) (T := TX6) (N := 5) hx hb hts inX6 hown hK hP 60 rfl rfl 4 (by decide) (va_Nw.use rfl (hB.2.1.1 _ zn_250)) (fun _ h9 => h9) rfl dX10_run_60 ?_
    refine lv_icmp_ge (tgt := 115) hx hb dX10_run_63 (by decide) (fun zc64 => ?_) (fun zc64 => ?_)
    · have hF := z_pos hF zc64
      refine lv_aload_n hx hb dX10_run_115 rfl (lv_at hl 0 rfl) ?_
      refine va_get (D := gD g) (ci := 6) (v := .ref (ad 11)) (C := RX10) (T := TX10) (N := 9) hx hb hts inX10 hown hK hP 0 rfl rfl 3 (by decide) (hts _ mU_280) (fun _ h9 => h9) rfl dX10_run_116 ?_
      obtain ⟨zo65, hzo65, hF⟩ := z_bind hF
      refine z_callvE (fun (u : Int32 × Int32) => (wRoot g ad st sv isS hst u.1 u.2 seen dbef drec ptx plen ppos pcnt cmds stE stF lch llen)) (va_runV (As := []) (rest := []) ⟨hx, hb, hml, hown, hts⟩ (c_X2_keep l g ad st sv isS hst spare undo seen dbef drec ptx plen ppos pcnt cmds stE stF lch llen _ _ hzo65) (cwV 0 hts (gdV mU_664 mU_665 mU_666 mU_68 mU_667) rfl rfl rfl (by decide +kernel) ⟨Nat.le_of_ble_eq_true rfl, Nat.le_of_ble_eq_true rfl⟩) ⟨z_blind _ _ _ _, va_recv hK hP (ci := 1) (q0 := 11) rfl rfl, fun U hU hW => z_preE hP hD hK hB hS hA hU hW⟩ rfl rfl hl.1 rfl (lv_room (Nat.le_of_ble_eq_true rfl)) dX10_run_119 ⟨Nat.le_of_ble_eq_true rfl, Nat.le_of_ble_eq_true rfl⟩) hD hS hA (fun _ => rfl) (fun u H locs hw hP hD hS => ?_)
      subst hw
      have hP : va_P (gD g) zCl (wRoot g ad st sv isS hst zo65.1 zo65.2 seen dbef drec ptx plen ppos pcnt cmds stE stF lch llen) H := hP
      have hD : va_D A (wRoot g ad st sv isS hst zo65.1 zo65.2 seen dbef drec ptx plen ppos pcnt cmds stE stF lch llen) := hD
      refine lv_aload_n hx hb dX10_run_122 rfl (lv_at hl 0 rfl) ?_
      refine va_get (D := gD g) (ci := 6) (v := .ref (ad 60)) (C := RX10) (T := TX10) (N := 9) hx hb hts inX10 hown hK hP 0 rfl rfl 5 (by decide) (hts _ mU_282) (fun _ h9 => h9) rfl dX10_run_123 ?_
      refine va_getN (D := gD g) (ci := 4) (v := .int pcnt) (C := RX6) (T := TX6) (N := 5) hx hb hts inX6 hown hK hP 60 rfl rfl 4 (by decide) (va_Nw.use rfl (hB.2.1.1 _ zn_250)) (fun _ h9 => h9) rfl dX10_run_126 ?_
      have ho := (Option.some.inj hF).symm
      refine vx_ret ?_
      refine W.widen (k := 51) (n := 306) (Nat.le_of_ble_eq_true rfl) (Nat.le_of_ble_eq_true rfl) ?_
      exact W.iret (v := pcnt) hx hb hr (fun t ht hW => ⟨⟨pcnt, (st, hst, zo65.1, zo65.2, plen, ppos, pcnt, cmds, stE, stF), rfl, ⟨_, ho, rfl, rfl⟩, z_end ht hP⟩, hS.F ht⟩) hS.2.2 dX10_run_129
    · have hF := z_neg hF zc64
      refine lv_aload_n hx hb dX10_run_66 rfl (lv_at hl 0 rfl) ?_
      refine lv_aload_n hx hb dX10_run_67 rfl (lv_at hl 0 rfl) ?_
      refine va_get (D := gD g) (ci := 6) (v := .ref (ad 60)) (C := RX10) (T := TX10) (N := 9) hx hb hts inX10 hown hK hP 0 rfl rfl 5 (by decide) (hts _ mU_282) (fun _ h9 => h9) rfl dX10_run_68 ?_
      refine va_getN (D := gD g) (ci := 4) (v := .ref (ad 62)) (C := RX6) (T := TX6) (N := 5) hx hb hts inX6 hown hK hP 60 rfl rfl 3 (by decide) (va_Nw.use rfl (hB.2.1.1 _ zn_248)) (fun _ h9 => h9) rfl dX10_run_71 ?_
      refine lv_iload_n hx hb dX10_run_74 rfl (lv_at hl 1 rfl) ?_
      obtain ⟨zg66, hF⟩ := z_grd hF
      refine va_aldq hx hb hK hP 62 5 rfl rfl zg66 dX10_run_75 ?_
      obtain ⟨zo67, hzo67, hF⟩ := z_bind hF
      refine z_calliE (fun (u : SS) => (wRoot g ad u sv isS hst spare undo seen dbef drec ptx plen ppos pcnt cmds stE stF lch llen)) (vx_runVW (As := [.ref (ad (63 + (Int32.toNatClampNeg x2)))]) (rest := []) ⟨hx, hb, hml, hown, hts⟩ (c_X10_succeeds l hl0 g ad st sv isS hst spare undo seen dbef drec ptx plen ppos pcnt cmds stE stF lch llen _ (Int32.toNatClampNeg x2) (Nat.lt_of_not_le (fun h => zg66 (Or.inr h))) fu _ hzo67) (vx_cwVW 1 hts (gdV mU_1145 mU_1147 mU_27 mU_66 mU_1148) rfl rfl rfl (by decide +kernel) ⟨Nat.le_of_ble_eq_true rfl, Nat.le_of_ble_eq_true rfl⟩) ⟨z_blind _ _ _ _, va_recv hK hP (ci := 6) (q0 := 0) rfl rfl, fun U hU hW => z_preE hP hD hK hB hS hA hU hW⟩ rfl rfl hl.1 rfl (lv_room (Nat.le_of_ble_eq_true rfl)) dX10_run_76 ⟨Nat.le_of_ble_eq_true rfl, Nat.le_of_ble_eq_true rfl⟩) hD hS hA (fun _ => rfl) (fun r u H locs hw hP hD hS => ?_)
      obtain ⟨rfl, rfl⟩ := hw
      have hP : va_P (gD g) zCl (wRoot g ad zo67.2 sv isS hst spare undo seen dbef drec ptx plen ppos pcnt cmds stE stF lch llen) H := hP
      have hD : va_D A (wRoot g ad zo67.2 sv isS hst spare undo seen dbef drec ptx plen ppos pcnt cmds stE stF lch llen) := hD
      refine lv_if_ne (tgt := 109) hx hb dX10_run_79 (by decide) (fun zc68 => ?_) (fun zc68 => ?_)
      · have hF := z_neg hF zc68
        obtain ⟨zv69, ezv69, hF⟩ := z_let hF
        refine lv_iinc (v := zv69) (lv' := [(2, .int zv69), (0, .ref (ad 0))]) hx hb dX10_run_109 hl (k := 1) rfl (by rw [ezv69]; rfl) (by decide) rfl (fun ls hl => ?_)
        refine lv_goto (tgt := 55) hx hb dX10_run_112 (by decide) ?_
        exact K100055 () zo67.2 hst spare undo plen ppos pcnt cmds stE stF zv69 hF _ _ _ (lv_sub hl [1, 0] rfl) hP hD hS
      · have hF := z_pos hF zc68
        refine lv_aload_n hx hb dX10_run_82 rfl (lv_at hl 0 rfl) ?_
        refine va_get (D := gD g) (ci := 6) (v := .ref (ad 11)) (C := RX10) (T := TX10) (N := 9) hx hb hts inX10 hown hK hP 0 rfl rfl 3 (by decide) (hts _ mU_280) (fun _ h9 => h9) rfl dX10_run_83 ?_
        refine lv_aload_n hx hb dX10_run_86 rfl (lv_at hl 0 rfl) ?_
        refine va_get (D := gD g) (ci := 6) (v := .ref (ad 1)) (C := RX10) (T := TX10) (N := 9) hx hb hts inX10 hown hK hP 0 rfl rfl 0 (by decide) (hts _ mU_277) (fun _ h9 => h9) rfl dX10_run_87 ?_
        obtain ⟨zo70, hzo70, hF⟩ := z_bind hF
        refine z_callvE (fun (u : SS) => (wRoot g ad u sv isS hst spare undo seen dbef drec ptx plen ppos pcnt cmds stE stF lch llen)) (va_runV (As := [.ref (ad 1)]) (rest := []) ⟨hx, hb, hml, hown, hts⟩ (c_X2_takeBack l g ad zo67.2 sv isS hst spare undo seen dbef drec ptx plen ppos pcnt cmds stE stF lch llen _ _ hzo70) (cwV 1 hts (gdV mU_1155 mU_1156 mU_1157 mU_68 mU_1158) rfl rfl rfl (by decide +kernel) ⟨Nat.le_of_ble_eq_true rfl, Nat.le_of_ble_eq_true rfl⟩) ⟨z_blind _ _ _ _, va_recv hK hP (ci := 1) (q0 := 11) rfl rfl, fun U hU hW => z_preE hP hD hK hB hS hA hU hW⟩ rfl rfl hl.1 rfl (lv_room (Nat.le_of_ble_eq_true rfl)) dX10_run_90 ⟨Nat.le_of_ble_eq_true rfl, Nat.le_of_ble_eq_true rfl⟩) hD hS hA (fun _ => rfl) (fun u H locs hw hP hD hS => ?_)
        subst hw
        have hP : va_P (gD g) zCl (wRoot g ad zo70 sv isS hst spare undo seen dbef drec ptx plen ppos pcnt cmds stE stF lch llen) H := hP
        have hD : va_D A (wRoot g ad zo70 sv isS hst spare undo seen dbef drec ptx plen ppos pcnt cmds stE stF lch llen) := hD
        refine lv_aload_n hx hb dX10_run_93 rfl (lv_at hl 0 rfl) ?_
        refine lv_iload_n hx hb dX10_run_94 rfl (lv_at hl 1 rfl) ?_
        refine va_put (D := gD g) (ci := 6) (v := .int x2) (ty := .int) (C := RX10) (T := TX10) (N := 9) hx hb hts inX10 tyX10 tyX10_ok nmX10 hown hK hP hD hS 0 rfl rfl 7 (by decide) (hts _ mU_284) (fun _ h9 => h9) rfl (by decide +kernel) rfl rfl (Nat.le_of_ble_eq_true rfl) dX10_run_95 (fun H locs hP hD hS => ?_)
        have hP : va_P (gD g) zCl (wRoot g ad zo70 sv isS hst spare undo seen dbef drec ptx plen ppos pcnt cmds stE x2 lch llen) H := hP
        have hD : va_D A (wRoot g ad zo70 sv isS hst spare undo seen dbef drec ptx plen ppos pcnt cmds stE x2 lch llen) := hD
        have ho := (Option.some.inj hF).symm
        obtain ⟨sa, hsa⟩ := hB.2.1.2.2.1 (334, "a command fails") (by decide +kernel)
        exact vx_throwSW hx hb hl0 (own := RX10) (cls := "java/lang/UnsupportedOperationException") (text := "a command fails") (names := ["java/lang/RuntimeException", "java/lang/Exception"]) hown (by decide +kernel) (by decide +kernel) (hts _ mU_644) (hts _ mU_89) hsa (zat_120 hts hB) zgo_120 hB.1.1 hB.1.2 hS (hl.1.trans hml.symm) dX10_run_98 dX10_run_101 dX10_run_102 dX10_run_105 dX10_run_108 (fun x hx => (hnx x hx).elim) (Nat.le_of_ble_eq_true rfl) (Nat.le_of_ble_eq_true rfl) (Nat.le_of_ble_eq_true rfl) (Nat.le_of_ble_eq_true rfl) hlocks (fun t ha hz hk => ⟨(2, (zo70, hst, spare, undo, plen, ppos, pcnt, cmds, stE, x2)), ho, ⟨rfl, (z_thr hP hS hz hk).1⟩, (z_thr hP hS hz hk).2⟩) hS.2.2 (Nat.le_of_ble_eq_true rfl) (Nat.le_of_ble_eq_true rfl)
  refine lv_aload_n hx hb dX10_run_0 rfl (lv_at hl 0 rfl) ?_
  refine va_get (D := gD g) (ci := 6) (v := .ref (ad 60)) (C := RX10) (T := TX10) (N := 9) hx hb hts inX10 hown hK hP 0 rfl rfl 5 (by decide) (hts _ mU_282) (fun _ h9 => h9) rfl dX10_run_1 ?_
  obtain ⟨zo71, hzo71, hF⟩ := z_bind hF
  refine z_calliE (fun (u : Int32 × Int32 × (Nat → CC)) => (wRoot g ad st sv isS hst spare undo seen dbef drec ptx plen u.1 u.2.1 u.2.2 stE stF lch llen)) (va_runV (As := []) (rest := []) ⟨hx, hb, hml, hown, hts⟩ (c_X6_read l g ad st sv isS hst spare undo seen dbef drec ptx plen ppos pcnt cmds stE stF lch llen _ fu _ hzo71) (cwV 0 hts (gdV mU_1054 mU_1055 mU_1056 mU_70 mU_1057) rfl rfl rfl (by decide +kernel) ⟨Nat.le_of_ble_eq_true rfl, Nat.le_of_ble_eq_true rfl⟩) ⟨z_blind _ _ _ _, va_recv hK hP (ci := 4) (q0 := 60) rfl rfl, fun U hU hW => z_preE hP hD hK hB hS hA hU hW⟩ rfl rfl hl.1 rfl (lv_room (Nat.le_of_ble_eq_true rfl)) dX10_run_4 ⟨Nat.le_of_ble_eq_true rfl, Nat.le_of_ble_eq_true rfl⟩) hD hS hA (fun _ => rfl) (fun r u H locs hw hP hD hS => ?_)
  obtain ⟨rfl, rfl⟩ := hw
  have hP : va_P (gD g) zCl (wRoot g ad st sv isS hst spare undo seen dbef drec ptx plen zo71.2.1 zo71.2.2.1 zo71.2.2.2 stE stF lch llen) H := hP
  have hD : va_D A (wRoot g ad st sv isS hst spare undo seen dbef drec ptx plen zo71.2.1 zo71.2.2.1 zo71.2.2.2 stE stF lch llen) := hD
  refine lv_istore_n (lv' := [(1, .int zo71.1), (0, .ref (ad 0))]) hx hb dX10_run_7 rfl hl (by decide) rfl (fun ls hl => ?_)
  refine lv_aload_n hx hb dX10_run_8 rfl (lv_at hl 1 rfl) ?_
  refine va_get (D := gD g) (ci := 6) (v := .ref (ad 60)) (C := RX10) (T := TX10) (N := 9) hx hb hts inX10 hown hK hP 0 rfl rfl 5 (by decide) (hts _ mU_282) (fun _ h9 => h9) rfl dX10_run_9 ?_
  refine lv_iconst (v := 0) hx hb dX10_run_12 (by decide) ?_
  refine va_putN (D := gD g) (ci := 4) (v := .int 0) (ty := .int) (C := RX6) (T := TX6) (N := 5) hx hb hts inX6 tyX6 tyX6_ok nmX6 hown hK hP hD hS 60 rfl rfl 1 (by decide) (va_Nw.use rfl (hB.2.1.1 _ zn_244)) (fun _ h9 => h9) rfl (by decide +kernel) rfl rfl (Nat.le_of_ble_eq_true rfl) dX10_run_13 (fun H locs hP hD hS => ?_)
  have hP : va_P (gD g) zCl (wRoot g ad st sv isS hst spare undo seen dbef drec ptx 0 zo71.2.1 zo71.2.2.1 zo71.2.2.2 stE stF lch llen) H := hP
  have hD : va_D A (wRoot g ad st sv isS hst spare undo seen dbef drec ptx 0 zo71.2.1 zo71.2.2.1 zo71.2.2.2 stE stF lch llen) := hD
  refine lv_iload_n hx hb dX10_run_16 rfl (lv_at hl 0 rfl) ?_
  refine lv_if_ne (tgt := 42) hx hb dX10_run_17 (by decide) (fun zc72 => ?_) (fun zc72 => ?_)
  · have hF := z_neg hF zc72
    refine lv_aload_n hx hb dX10_run_42 rfl (lv_at hl 1 rfl) ?_
    refine va_get (D := gD g) (ci := 6) (v := .ref (ad 11)) (C := RX10) (T := TX10) (N := 9) hx hb hts inX10 hown hK hP 0 rfl rfl 3 (by decide) (hts _ mU_280) (fun _ h9 => h9) rfl dX10_run_43 ?_
    refine lv_aload_n hx hb dX10_run_46 rfl (lv_at hl 1 rfl) ?_
    refine va_get (D := gD g) (ci := 6) (v := .ref (ad 1)) (C := RX10) (T := TX10) (N := 9) hx hb hts inX10 hown hK hP 0 rfl rfl 0 (by decide) (hts _ mU_277) (fun _ h9 => h9) rfl dX10_run_47 ?_
    obtain ⟨zo73, hzo73, hF⟩ := z_bind hF
    refine z_callvE (fun (u : (Nat → SS)) => (wRoot g ad st sv isS u spare undo seen dbef drec ptx 0 zo71.2.1 zo71.2.2.1 zo71.2.2.2 stE stF lch llen)) (va_runV (As := [.ref (ad 1)]) (rest := []) ⟨hx, hb, hml, hown, hts⟩ (c_X2_remember l g ad st sv isS hst spare undo seen dbef drec ptx 0 zo71.2.1 zo71.2.2.1 zo71.2.2.2 stE stF lch llen _ _ hzo73) (cwV 1 hts (gdV mU_443 mU_444 mU_445 mU_68 mU_446) rfl rfl rfl (by decide +kernel) ⟨Nat.le_of_ble_eq_true rfl, Nat.le_of_ble_eq_true rfl⟩) ⟨z_blind _ _ _ _, va_recv hK hP (ci := 1) (q0 := 11) rfl rfl, fun U hU hW => z_preE hP hD hK hB hS hA hU hW⟩ rfl rfl hl.1 rfl (lv_room (Nat.le_of_ble_eq_true rfl)) dX10_run_50 ⟨Nat.le_of_ble_eq_true rfl, Nat.le_of_ble_eq_true rfl⟩) hD hS hA (fun _ => rfl) (fun u H locs hw hP hD hS => ?_)
    subst hw
    have hP : va_P (gD g) zCl (wRoot g ad st sv isS zo73 spare undo seen dbef drec ptx 0 zo71.2.1 zo71.2.2.1 zo71.2.2.2 stE stF lch llen) H := hP
    have hD : va_D A (wRoot g ad st sv isS zo73 spare undo seen dbef drec ptx 0 zo71.2.1 zo71.2.2.1 zo71.2.2.2 stE stF lch llen) := hD
    refine lv_iconst (v := 0) hx hb dX10_run_53 (by decide) ?_
    refine lv_istore_n (lv' := [(2, .int 0), (1, .int zo71.1), (0, .ref (ad 0))]) hx hb dX10_run_54 rfl hl (by decide) rfl (fun ls hl => ?_)
    exact K55 () st zo73 spare undo 0 zo71.2.1 zo71.2.2.1 zo71.2.2.2 stE stF 0 hF _ _ _ (lv_sub hl [2, 0] rfl) hP hD hS
  · have hF := z_pos hF zc72
    refine lv_aload_n hx hb dX10_run_20 rfl (lv_at hl 1 rfl) ?_
    refine lv_aload_n hx hb dX10_run_21 rfl (lv_at hl 1 rfl) ?_
    refine va_get (D := gD g) (ci := 6) (v := .ref (ad 60)) (C := RX10) (T := TX10) (N := 9) hx hb hts inX10 hown hK hP 0 rfl rfl 5 (by decide) (hts _ mU_282) (fun _ h9 => h9) rfl dX10_run_22 ?_
    refine va_getN (D := gD g) (ci := 4) (v := .int zo71.2.1) (C := RX6) (T := TX6) (N := 5) hx hb hts inX6 hown hK hP 60 rfl rfl 2 (by decide) (va_Nw.use rfl (hB.2.1.1 _ zn_246)) (fun _ h9 => h9) rfl dX10_run_25 ?_
    refine va_put (D := gD g) (ci := 6) (v := .int zo71.2.1) (ty := .int) (C := RX10) (T := TX10) (N := 9) hx hb hts inX10 tyX10 tyX10_ok nmX10 hown hK hP hD hS 0 rfl rfl 6 (by decide) (hts _ mU_283) (fun _ h9 => h9) rfl (by decide +kernel) rfl rfl (Nat.le_of_ble_eq_true rfl) dX10_run_28 (fun H locs hP hD hS => ?_)
    have hP : va_P (gD g) zCl (wRoot g ad st sv isS hst spare undo seen dbef drec ptx 0 zo71.2.1 zo71.2.2.1 zo71.2.2.2 zo71.2.1 stF lch llen) H := hP
    have hD : va_D A (wRoot g ad st sv isS hst spare undo seen dbef drec ptx 0 zo71.2.1 zo71.2.2.1 zo71.2.2.2 zo71.2.1 stF lch llen) := hD
    have ho := (Option.some.inj hF).symm
    obtain ⟨sa, hsa⟩ := hB.2.1.2.2.1 (318, "the text is not a program") (by decide +kernel)
    exact vx_throwSW hx hb hl0 (own := RX10) (cls := "java/lang/IllegalArgumentException") (text := "the text is not a program") (names := ["java/lang/RuntimeException", "java/lang/Exception"]) hown (by decide +kernel) (by decide +kernel) (hts _ mU_456) (hts _ mU_80) hsa (zat_156 hts hB) zgo_156 hB.1.1 hB.1.2 hS (hl.1.trans hml.symm) dX10_run_31 dX10_run_34 dX10_run_35 dX10_run_38 dX10_run_41 (fun x hx => (hnx x hx).elim) (Nat.le_of_ble_eq_true rfl) (Nat.le_of_ble_eq_true rfl) (Nat.le_of_ble_eq_true rfl) (Nat.le_of_ble_eq_true rfl) hlocks (fun t ha hz hk => ⟨(0, (st, hst, spare, undo, 0, zo71.2.1, zo71.2.2.1, zo71.2.2.2, zo71.2.1, stF)), ho, ⟨rfl, (z_thr hP hS hz hk).1⟩, (z_thr hP hS hz hk).2⟩) hS.2.2 (Nat.le_of_ble_eq_true rfl) (Nat.le_of_ble_eq_true rfl)
