abbrev w_X10_errorsAgree : List Cond := .code yX10_errorsAgree cX10_errorsAgree 4 (some .boolean) :: wU
abbrev r_X10_errorsAgree : Room := { frames := 4, cells := 0, slots := 0, locals := 102 }
abbrev q_X10_errorsAgree (g : GG) (ad : Nat → Nat) (st : SS) (sv : SS) (isS : Int32) (hst : Nat → SS) (spare : Int32) (undo : Int32) (seen : Nat → Int32) (dbef : Int32) (drec : Int32) (ptx : Nat → Int32) (plen : Int32) (ppos : Int32) (pcnt : Int32) (cmds : Nat → CC) (stE : Int32) (stF : Int32) (lch : Nat → Int32) (llen : Int32) (o : Int32) (A : Nat → Prop) := va_Qi (fun (r : Int32) (u : Unit) => o = r) (fun u t => va_P (gD g) zCl (wRoot g ad st sv isS hst spare undo seen dbef drec ptx plen ppos pcnt cmds stE stF lch llen) t.heap) A
set_option maxHeartbeats 4000000 in
set_option maxRecDepth 100000 in
theorem c_X10_errorsAgree (l : Launch) (g : GG) (ad : Nat → Nat) (st : SS) (sv : SS) (isS : Int32) (hst : Nat → SS) (spare : Int32) (undo : Int32) (seen : Nat → Int32) (dbef : Int32) (drec : Int32) (ptx : Nat → Int32) (plen : Int32) (ppos : Int32) (pcnt : Int32) (cmds : Nat → CC) (stE : Int32) (stF : Int32) (lch : Nat → Int32) (llen : Int32) (sz : Nat) (fu : Nat) (o : Int32) (hF : F_X10_errorsAgree fu st = some o) : Met l yX10_errorsAgree w_X10_errorsAgree r_X10_errorsAgree (va_Pc [.ref (ad 0)] (zP g (wRoot g ad st sv isS hst spare undo seen dbef drec ptx plen ppos pcnt cmds stE stF lch llen) sz)) (q_X10_errorsAgree g ad st sv isS hst spare undo seen dbef drec ptx plen ppos pcnt cmds stE stF lch llen o (va_A (wRoot g ad st sv isS hst spare undo seen dbef drec ptx plen ppos pcnt cmds stE stF lch llen) sz)) 0 0 (va_A (wRoot g ad st sv isS hst spare undo seen dbef drec ptx plen ppos pcnt cmds stE stF lch llen) sz) := by
  refine Met.ofW (cc := cX10_errorsAgree) (maxL := 4) (ret := (some .boolean)) (by decide) rfl ?_
  intro p e s m args below meth c s₁ B hml hv
  obtain ⟨rfl, rfl, hP, hK, hD0, hB⟩ := hv
  have hx := B.exec
  have hb := B.bytes
  have hr := B.returns
  have hts : ∀ w ∈ wU, w.before _ s = true := fun w h => atoms_spec (ws := w_X10_errorsAgree) B.pre w (List.mem_cons_of_mem _ h)
  have hown : s.vm.findClass RX10 = some m.cls := findClass_of_methodNamed B.named
  have hlocks := B.notSynchronized
  have hD := hD0.self (sz := s.heap.size)
  generalize hAe : va_A (wRoot g ad st sv isS hst spare undo seen dbef drec ptx plen ppos pcnt cmds stE stF lch llen) s.heap.size = A at hD hB ⊢
  have hA : ∀ q : Nat, s.heap.size ≤ q → A q := fun q h => by rw [← hAe]; exact Or.inr h
  have hS : va_S A s.heap s.heap [] := va_S.rf
  have hl := lv_entry ([.ref (ad 0)]) (n := 4) (Nat.le_of_ble_eq_true rfl)
  rw [lg_entry_eq]
  generalize (lg_sl ([.ref (ad 0)]) ++ List.replicate (4 - (lg_sl ([.ref (ad 0)])).length) Slot.unset).toArray = ls at hl ⊢
  have hl : lv_has ls 4 [(0, .ref (ad 0))] := hl
  unfold F_X10_errorsAgree at hF
  have K2 : ∀ (n2 : Nat) (x1 : Int32), F_X10_errorsAgree_2 fu n2 st x1 = some o → ∀ (H : Heap) (locs : List Loc) (ls : Array Slot), lv_has ls 4 [(0, .ref (ad 0)), (1, .int x1)] → va_P (gD g) zCl (wRoot g ad st sv isS hst spare undo seen dbef drec ptx plen ppos pcnt cmds stE stF lch llen) H → va_D A (wRoot g ad st sv isS hst spare undo seen dbef drec ptx plen ppos pcnt cmds stE stF lch llen) → va_S A s.heap H locs → W p l e (headSpec w_X10_errorsAgree r_X10_errorsAgree).room s m ([.ref (ad 0)] : List Value).toArray below meth c H locs 0 0 (MQ below (q_X10_errorsAgree g ad st sv isS hst spare undo seen dbef drec ptx plen ppos pcnt cmds stE stF lch llen o A) ([.ref (ad 0)] : List Value).toArray s 0 0 A) (F0 m 2 ls []) := by
    intro n2
    induction n2 with
    | zero =>
      intro x1 hF
      exact absurd hF (by simp [F_X10_errorsAgree_2])
    | succ n2 ih2 =>
      intro x1 hF H locs ls hl hP hD hS
      unfold F_X10_errorsAgree_2 at hF
      refine lv_iload_n hx hb dX10_errorsAgree_2 rfl (lv_at hl 1 rfl) ?_
      refine lv_iconst (v := 4) hx hb dX10_errorsAgree_3 (by decide) ?_
      refine lv_icmp_gt (tgt := 45) hx hb dX10_errorsAgree_4 (by decide) (fun zc1 => ?_) (fun zc1 => ?_)
      · have hF := z_pos hF zc1
        refine lv_iconst (v := 1) hx hb dX10_errorsAgree_45 (by decide) ?_
        have ho := (Option.some.inj hF).symm
        exact W.zret (v := 1) hx hb hr rfl (fun t ht hW => ⟨⟨1, (), rfl, ho, z_end ht hP⟩, hS.F ht⟩) hS.2.2 dX10_errorsAgree_46
      · have hF := z_neg hF zc1
        refine lv_aload_n hx hb dX10_errorsAgree_7 rfl (lv_at hl 0 rfl) ?_
        refine va_get (D := gD g) (ci := 6) (v := .ref (ad 1)) (C := RX10) (T := TX10) (N := 9) hx hb hts inX10 hown hK hP 0 rfl rfl 0 (by decide) (hts _ mU_277) (fun _ h9 => h9) rfl dX10_errorsAgree_8 ?_
        refine lv_iload_n hx hb dX10_errorsAgree_11 rfl (lv_at hl 1 rfl) ?_
        refine lv_aload_n hx hb dX10_errorsAgree_12 rfl (lv_at hl 0 rfl) ?_
        refine va_get (D := gD g) (ci := 6) (v := .ref (ad 1)) (C := RX10) (T := TX10) (N := 9) hx hb hts inX10 hown hK hP 0 rfl rfl 0 (by decide) (hts _ mU_277) (fun _ h9 => h9) rfl dX10_errorsAgree_13 ?_
        refine lv_iload_n hx hb dX10_errorsAgree_16 rfl (lv_at hl 1 rfl) ?_
        obtain ⟨zo2, hzo2, hF⟩ := z_bind hF
        refine z_calli (fun (_ : Unit) => (wState g (ad 1) (ad 2) (ad 3) (ad 4) (ad 5) st)) [1, 2, 3, 4, 5] (va_runS (As := [.ref (ad 1), .int x1]) (rest := [.int x1, .ref (ad 1)]) ⟨hx, hb, hml, hown, hts⟩ (c_X9_bestChoice l g (ad 1) (ad 2) (ad 3) (ad 4) (ad 5) st _ x1 fu _ hzo2) (va_cwS 2 hts (gdS mU_353 mU_354 mU_91 mU_355) rfl rfl rfl (by decide +kernel) ⟨Nat.le_of_ble_eq_true rfl, Nat.le_of_ble_eq_true rfl⟩) ⟨z_blind _ _ _ _, fun U hU hW => z_pre [1, 2, 3, 4, 5] hP hD hK hB hS hA rfl rfl hU hW⟩ rfl rfl hl.1 rfl (lv_room (Nat.le_of_ble_eq_true rfl)) dX10_errorsAgree_17 ⟨Nat.le_of_ble_eq_true rfl, Nat.le_of_ble_eq_true rfl⟩) hP hD hS hA rfl (fun _ => rfl) (fun r u H locs hw hP hD hS => ?_)
        subst hw
        have hP : va_P (gD g) zCl (wRoot g ad st sv isS hst spare undo seen dbef drec ptx plen ppos pcnt cmds stE stF lch llen) H := hP
        have hD : va_D A (wRoot g ad st sv isS hst spare undo seen dbef drec ptx plen ppos pcnt cmds stE stF lch llen) := hD
        obtain ⟨zo3, hzo3, hF⟩ := z_bind hF
        refine z_calll (fun (_ : Unit) => (wState g (ad 1) (ad 2) (ad 3) (ad 4) (ad 5) st)) [1, 2, 3, 4, 5] (va_runS (As := [.ref (ad 1), .int x1, .int zo2]) (rest := []) ⟨hx, hb, hml, hown, hts⟩ (c_X9_errorOf l g (ad 1) (ad 2) (ad 3) (ad 4) (ad 5) st _ x1 zo2 fu _ hzo3) (va_cwS 3 hts (gdS mU_371 mU_372 mU_91 mU_373) rfl rfl rfl (by decide +kernel) ⟨Nat.le_of_ble_eq_true rfl, Nat.le_of_ble_eq_true rfl⟩) ⟨z_blind _ _ _ _, fun U hU hW => z_pre [1, 2, 3, 4, 5] hP hD hK hB hS hA rfl rfl hU hW⟩ rfl rfl hl.1 rfl (lv_room (Nat.le_of_ble_eq_true rfl)) dX10_errorsAgree_20 ⟨Nat.le_of_ble_eq_true rfl, Nat.le_of_ble_eq_true rfl⟩) hP hD hS hA rfl (fun _ => rfl) (fun r u H locs hw hP hD hS => ?_)
        subst hw
        have hP : va_P (gD g) zCl (wRoot g ad st sv isS hst spare undo seen dbef drec ptx plen ppos pcnt cmds stE stF lch llen) H := hP
        have hD : va_D A (wRoot g ad st sv isS hst spare undo seen dbef drec ptx plen ppos pcnt cmds stE stF lch llen) := hD
        refine lv_lstore_n (lv' := [(2, .long zo3), (0, .ref (ad 0)), (1, .int x1)]) hx hb dX10_errorsAgree_23 rfl hl (by decide) rfl (fun ls hl => ?_)
        refine lv_lload_n hx hb dX10_errorsAgree_24 rfl (lv_at hl 0 rfl) ?_
        refine lv_aload_n hx hb dX10_errorsAgree_25 rfl (lv_at hl 1 rfl) ?_
        refine va_get (D := gD g) (ci := 6) (v := .ref (ad 1)) (C := RX10) (T := TX10) (N := 9) hx hb hts inX10 hown hK hP 0 rfl rfl 0 (by decide) (hts _ mU_277) (fun _ h9 => h9) rfl dX10_errorsAgree_26 ?_
        refine lv_iload_n hx hb dX10_errorsAgree_29 rfl (lv_at hl 2 rfl) ?_
        obtain ⟨zo4, hzo4, hF⟩ := z_bind hF
        refine z_calll (fun (_ : Unit) => (wState g (ad 1) (ad 2) (ad 3) (ad 4) (ad 5) st)) [1, 2, 3, 4, 5] (va_runS (As := [.ref (ad 1), .int x1]) (rest := [.long zo3]) ⟨hx, hb, hml, hown, hts⟩ (c_X9_leastErrorOfSets l g (ad 1) (ad 2) (ad 3) (ad 4) (ad 5) st _ x1 fu _ hzo4) (va_cwS 2 hts (gdS mU_380 mU_381 mU_91 mU_382) rfl rfl rfl (by decide +kernel) ⟨Nat.le_of_ble_eq_true rfl, Nat.le_of_ble_eq_true rfl⟩) ⟨z_blind _ _ _ _, fun U hU hW => z_pre [1, 2, 3, 4, 5] hP hD hK hB hS hA rfl rfl hU hW⟩ rfl rfl hl.1 rfl (lv_room (Nat.le_of_ble_eq_true rfl)) dX10_errorsAgree_30 ⟨Nat.le_of_ble_eq_true rfl, Nat.le_of_ble_eq_true rfl⟩) hP hD hS hA rfl (fun _ => rfl) (fun r u H locs hw hP hD hS => ?_)
        subst hw
        have hP : va_P (gD g) zCl (wRoot g ad st sv isS hst spare undo seen dbef drec ptx plen ppos pcnt cmds stE stF lch llen) H := hP
        have hD : va_D A (wRoot g ad st sv isS hst spare undo seen dbef drec ptx plen ppos pcnt cmds stE stF lch llen) := hD
        refine z_lcmp_eq (tgt := 39) hx hb dX10_errorsAgree_33 dX10_errorsAgree_34 (by decide) (fun zc5 => ?_) (fun zc5 => ?_)
        · have hF := z_pos hF zc5
          obtain ⟨zv6, ezv6, hF⟩ := z_let hF
          refine lv_iinc (v := zv6) (lv' := [(1, .int zv6), (2, .long zo3), (0, .ref (ad 0))]) hx hb dX10_errorsAgree_39 hl (k := 2) rfl (by rw [ezv6]; rfl) (by decide) rfl (fun ls hl => ?_)
          refine lv_goto (tgt := 2) hx hb dX10_errorsAgree_42 (by decide) ?_
          exact ih2 zv6 hF _ _ _ (lv_sub hl [2, 0] rfl) hP hD hS
        · have hF := z_neg hF zc5
          refine lv_iconst (v := 0) hx hb dX10_errorsAgree_37 (by decide) ?_
          have ho := (Option.some.inj hF).symm
          exact W.zret (v := 0) hx hb hr rfl (fun t ht hW => ⟨⟨0, (), rfl, ho, z_end ht hP⟩, hS.F ht⟩) hS.2.2 dX10_errorsAgree_38
  refine lv_iconst (v := 0) hx hb dX10_errorsAgree_0 (by decide) ?_
  refine lv_istore_n (lv' := [(1, .int 0), (0, .ref (ad 0))]) hx hb dX10_errorsAgree_1 rfl hl (by decide) rfl (fun ls hl => ?_)
  exact K2 fu 0 hF _ _ _ (lv_sub hl [1, 0] rfl) hP hD hS
abbrev w_X10_carriesAgree : List Cond := .code yX10_carriesAgree cX10_carriesAgree 6 (some .boolean) :: wU
abbrev r_X10_carriesAgree : Room := { frames := 3, cells := 0, slots := 0, locals := 71 }
abbrev q_X10_carriesAgree (g : GG) (ad : Nat → Nat) (st : SS) (sv : SS) (isS : Int32) (hst : Nat → SS) (spare : Int32) (undo : Int32) (seen : Nat → Int32) (dbef : Int32) (drec : Int32) (ptx : Nat → Int32) (plen : Int32) (ppos : Int32) (pcnt : Int32) (cmds : Nat → CC) (stE : Int32) (stF : Int32) (lch : Nat → Int32) (llen : Int32) (o : Int32) (A : Nat → Prop) := va_Qi (fun (r : Int32) (u : Unit) => o = r) (fun u t => va_P (gD g) zCl (wRoot g ad st sv isS hst spare undo seen dbef drec ptx plen ppos pcnt cmds stE stF lch llen) t.heap) A
set_option maxHeartbeats 4000000 in
set_option maxRecDepth 100000 in
theorem c_X10_carriesAgree (l : Launch) (g : GG) (ad : Nat → Nat) (st : SS) (sv : SS) (isS : Int32) (hst : Nat → SS) (spare : Int32) (undo : Int32) (seen : Nat → Int32) (dbef : Int32) (drec : Int32) (ptx : Nat → Int32) (plen : Int32) (ppos : Int32) (pcnt : Int32) (cmds : Nat → CC) (stE : Int32) (stF : Int32) (lch : Nat → Int32) (llen : Int32) (sz : Nat) (fu : Nat) (o : Int32) (hF : F_X10_carriesAgree fu st = some o) : Met l yX10_carriesAgree w_X10_carriesAgree r_X10_carriesAgree (va_Pc [.ref (ad 0)] (zP g (wRoot g ad st sv isS hst spare undo seen dbef drec ptx plen ppos pcnt cmds stE stF lch llen) sz)) (q_X10_carriesAgree g ad st sv isS hst spare undo seen dbef drec ptx plen ppos pcnt cmds stE stF lch llen o (va_A (wRoot g ad st sv isS hst spare undo seen dbef drec ptx plen ppos pcnt cmds stE stF lch llen) sz)) 0 0 (va_A (wRoot g ad st sv isS hst spare undo seen dbef drec ptx plen ppos pcnt cmds stE stF lch llen) sz) := by
  refine Met.ofW (cc := cX10_carriesAgree) (maxL := 6) (ret := (some .boolean)) (by decide) rfl ?_
  intro p e s m args below meth c s₁ B hml hv
  obtain ⟨rfl, rfl, hP, hK, hD0, hB⟩ := hv
  have hx := B.exec
  have hb := B.bytes
  have hr := B.returns
  have hts : ∀ w ∈ wU, w.before _ s = true := fun w h => atoms_spec (ws := w_X10_carriesAgree) B.pre w (List.mem_cons_of_mem _ h)
  have hown : s.vm.findClass RX10 = some m.cls := findClass_of_methodNamed B.named
  have hlocks := B.notSynchronized
  have hD := hD0.self (sz := s.heap.size)
  generalize hAe : va_A (wRoot g ad st sv isS hst spare undo seen dbef drec ptx plen ppos pcnt cmds stE stF lch llen) s.heap.size = A at hD hB ⊢
  have hA : ∀ q : Nat, s.heap.size ≤ q → A q := fun q h => by rw [← hAe]; exact Or.inr h
  have hS : va_S A s.heap s.heap [] := va_S.rf
  have hl := lv_entry ([.ref (ad 0)]) (n := 6) (Nat.le_of_ble_eq_true rfl)
  rw [lg_entry_eq]
  generalize (lg_sl ([.ref (ad 0)]) ++ List.replicate (6 - (lg_sl ([.ref (ad 0)])).length) Slot.unset).toArray = ls at hl ⊢
  have hl : lv_has ls 6 [(0, .ref (ad 0))] := hl
  unfold F_X10_carriesAgree at hF
  have K10 : ∀ (n10 : Nat) (x1 : Int64) (x3 : Int32), F_X10_carriesAgree_10 fu n10 st x1 x3 = some o → ∀ (H : Heap) (locs : List Loc) (ls : Array Slot), lv_has ls 6 [(0, .ref (ad 0)), (1, .long x1), (3, .int x3)] → va_P (gD g) zCl (wRoot g ad st sv isS hst spare undo seen dbef drec ptx plen ppos pcnt cmds stE stF lch llen) H → va_D A (wRoot g ad st sv isS hst spare undo seen dbef drec ptx plen ppos pcnt cmds stE stF lch llen) → va_S A s.heap H locs → W p l e (headSpec w_X10_carriesAgree r_X10_carriesAgree).room s m ([.ref (ad 0)] : List Value).toArray below meth c H locs 0 0 (MQ below (q_X10_carriesAgree g ad st sv isS hst spare undo seen dbef drec ptx plen ppos pcnt cmds stE stF lch llen o A) ([.ref (ad 0)] : List Value).toArray s 0 0 A) (F0 m 10 ls []) := by
    intro n10
    induction n10 with
    | zero =>
      intro x1 x3 hF
      exact absurd hF (by simp [F_X10_carriesAgree_10])
    | succ n10 ih10 =>
      intro x1 x3 hF H locs ls hl hP hD hS
      unfold F_X10_carriesAgree_10 at hF
      refine lv_iload_n hx hb dX10_carriesAgree_10 rfl (lv_at hl 2 rfl) ?_
      refine lv_aload_n hx hb dX10_carriesAgree_11 rfl (lv_at hl 0 rfl) ?_
      refine va_get (D := gD g) (ci := 6) (v := .ref (ad 1)) (C := RX10) (T := TX10) (N := 9) hx hb hts inX10 hown hK hP 0 rfl rfl 0 (by decide) (hts _ mU_277) (fun _ h9 => h9) rfl dX10_carriesAgree_12 ?_
      refine va_getN (D := gD g) (ci := 5) (v := .int (s_cnt st)) (C := RX8) (T := TX8) (N := 11) hx hb hts inX8 hown hK hP 1 rfl rfl 4 (by decide) (va_Nw.use rfl (hB.2.1.1 _ zn_123)) (fun _ h9 => h9) rfl dX10_carriesAgree_15 ?_
      refine lv_icmp_ge (tgt := 58) hx hb dX10_carriesAgree_18 (by decide) (fun zc1 => ?_) (fun zc1 => ?_)
      · have hF := z_pos hF zc1
        refine lv_iconst (v := 1) hx hb dX10_carriesAgree_58 (by decide) ?_
        have ho := (Option.some.inj hF).symm
        exact W.zret (v := 1) hx hb hr rfl (fun t ht hW => ⟨⟨1, (), rfl, ho, z_end ht hP⟩, hS.F ht⟩) hS.2.2 dX10_carriesAgree_59
      · have hF := z_neg hF zc1
        refine lv_aload_n hx hb dX10_carriesAgree_21 rfl (lv_at hl 0 rfl) ?_
        refine va_get (D := gD g) (ci := 6) (v := .ref (ad 1)) (C := RX10) (T := TX10) (N := 9) hx hb hts inX10 hown hK hP 0 rfl rfl 0 (by decide) (hts _ mU_277) (fun _ h9 => h9) rfl dX10_carriesAgree_22 ?_
        refine va_getN (D := gD g) (ci := 5) (v := .ref (ad 3)) (C := RX8) (T := TX8) (N := 11) hx hb hts inX8 hown hK hP 1 rfl rfl 1 (by decide) (va_Nw.use rfl (hB.2.1.1 _ zn_116)) (fun _ h9 => h9) rfl dX10_carriesAgree_25 ?_
        refine lv_iload_n hx hb dX10_carriesAgree_28 rfl (lv_at hl 2 rfl) ?_
        obtain ⟨zg2, hF⟩ := z_grd hF
        refine va_lald hx hb hK hP 3 2 rfl rfl zg2 dX10_carriesAgree_29 ?_
        obtain ⟨zv3, ezv3, hF⟩ := z_let hF
        refine z_topl ezv3 ?_
        refine lv_lstore (lv' := [(4, .long zv3), (0, .ref (ad 0)), (1, .long x1), (3, .int x3)]) hx hb dX10_carriesAgree_30 hl (by decide) rfl (fun ls hl => ?_)
        refine lv_lload hx hb dX10_carriesAgree_32 (lv_at hl 0 rfl) ?_
        refine lv_lload_n hx hb dX10_carriesAgree_34 rfl (lv_at hl 2 rfl) ?_
        obtain ⟨zo4, hzo4, hF⟩ := z_bind hF
        refine z_calli (fun (_ : Unit) => []) [] (va_runS (As := [.long zv3, .long x1]) (rest := []) ⟨hx, hb, hml, hown, hts⟩ (c_X10_carryingPlaces l g _ zv3 x1 fu _ hzo4) (va_cwS 2 hts (gdS mU_403 mU_404 mU_66 mU_405) rfl rfl rfl (by decide +kernel) ⟨Nat.le_of_ble_eq_true rfl, Nat.le_of_ble_eq_true rfl⟩) ⟨z_blind _ _ _ _, fun U hU hW => z_pre [] hP hD hK hB hS hA rfl rfl hU hW⟩ rfl rfl hl.1 rfl (lv_room (Nat.le_of_ble_eq_true rfl)) dX10_carriesAgree_35 ⟨Nat.le_of_ble_eq_true rfl, Nat.le_of_ble_eq_true rfl⟩) hP hD hS hA rfl (fun _ => rfl) (fun r u H locs hw hP hD hS => ?_)
        subst hw
        have hP : va_P (gD g) zCl (wRoot g ad st sv isS hst spare undo seen dbef drec ptx plen ppos pcnt cmds stE stF lch llen) H := hP
        have hD : va_D A (wRoot g ad st sv isS hst spare undo seen dbef drec ptx plen ppos pcnt cmds stE stF lch llen) := hD
        obtain ⟨zo5, hzo5, hF⟩ := z_bind hF
        refine z_calli (fun (_ : Unit) => []) [] (va_runS (As := [.int zo4]) (rest := []) ⟨hx, hb, hml, hown, hts⟩ (c_J6_bitCount_0f7a4 l g _ zo4 _ hzo5) (va_cwS 1 hts (gdS mU_410 mU_411 mU_92 mU_412) rfl rfl rfl (by decide +kernel) ⟨Nat.le_of_ble_eq_true rfl, Nat.le_of_ble_eq_true rfl⟩) ⟨z_blind _ _ _ _, fun U hU hW => z_pre [] hP hD hK hB hS hA rfl rfl hU hW⟩ rfl rfl hl.1 rfl (lv_room (Nat.le_of_ble_eq_true rfl)) dX10_carriesAgree_38 ⟨Nat.le_of_ble_eq_true rfl, Nat.le_of_ble_eq_true rfl⟩) hP hD hS hA rfl (fun _ => rfl) (fun r u H locs hw hP hD hS => ?_)
        subst hw
        have hP : va_P (gD g) zCl (wRoot g ad st sv isS hst spare undo seen dbef drec ptx plen ppos pcnt cmds stE stF lch llen) H := hP
        have hD : va_D A (wRoot g ad st sv isS hst spare undo seen dbef drec ptx plen ppos pcnt cmds stE stF lch llen) := hD
        refine lv_lload hx hb dX10_carriesAgree_41 (lv_at hl 0 rfl) ?_
        refine lv_lload_n hx hb dX10_carriesAgree_43 rfl (lv_at hl 2 rfl) ?_
        obtain ⟨zo6, hzo6, hF⟩ := z_bind hF
        refine z_calli (fun (_ : Unit) => []) [] (va_runS (As := [.long zv3, .long x1]) (rest := [.int zo5]) ⟨hx, hb, hml, hown, hts⟩ (c_X10_carriesByDigitSums l g _ zv3 x1 fu _ hzo6) (va_cwS 2 hts (gdS mU_416 mU_417 mU_66 mU_418) rfl rfl rfl (by decide +kernel) ⟨Nat.le_of_ble_eq_true rfl, Nat.le_of_ble_eq_true rfl⟩) ⟨z_blind _ _ _ _, fun U hU hW => z_pre [] hP hD hK hB hS hA rfl rfl hU hW⟩ rfl rfl hl.1 rfl (lv_room (Nat.le_of_ble_eq_true rfl)) dX10_carriesAgree_44 ⟨Nat.le_of_ble_eq_true rfl, Nat.le_of_ble_eq_true rfl⟩) hP hD hS hA rfl (fun _ => rfl) (fun r u H locs hw hP hD hS => ?_)
        subst hw
        have hP : va_P (gD g) zCl (wRoot g ad st sv isS hst spare undo seen dbef drec ptx plen ppos pcnt cmds stE stF lch llen) H := hP
        have hD : va_D A (wRoot g ad st sv isS hst spare undo seen dbef drec ptx plen ppos pcnt cmds stE stF lch llen) := hD
        refine lv_icmp_eq (tgt := 52) hx hb dX10_carriesAgree_47 (by decide) (fun zc7 => ?_) (fun zc7 => ?_)
        · have hF := z_pos hF zc7
          obtain ⟨zv8, ezv8, hF⟩ := z_let hF
          refine lv_iinc (v := zv8) (lv' := [(3, .int zv8), (4, .long zv3), (0, .ref (ad 0)), (1, .long x1)]) hx hb dX10_carriesAgree_52 hl (k := 3) rfl (by rw [ezv8]; rfl) (by decide) rfl (fun ls hl => ?_)
          refine lv_goto (tgt := 10) hx hb dX10_carriesAgree_55 (by decide) ?_
          exact ih10 x1 zv8 hF _ _ _ (lv_sub hl [2, 3, 0] rfl) hP hD hS
        · have hF := z_neg hF zc7
          refine lv_iconst (v := 0) hx hb dX10_carriesAgree_50 (by decide) ?_
          have ho := (Option.some.inj hF).symm
          exact W.zret (v := 0) hx hb hr rfl (fun t ht hW => ⟨⟨0, (), rfl, ho, z_end ht hP⟩, hS.F ht⟩) hS.2.2 dX10_carriesAgree_51
  refine lv_iconst (v := 1) hx hb dX10_carriesAgree_0 (by decide) ?_
  refine lv_sipush (v := 9999) hx hb dX10_carriesAgree_1 (by decide) ?_
  obtain ⟨zo9, hzo9, hF⟩ := z_bind hF
  refine z_calll (fun (_ : Unit) => []) [] (va_runS (As := [.int 1, .int 9999]) (rest := []) ⟨hx, hb, hml, hown, hts⟩ (c_X10_unitsOf l g _ 1 9999 _ hzo9) (va_cwS 2 hts (gdS mU_399 mU_400 mU_66 mU_401) rfl rfl rfl (by decide +kernel) ⟨Nat.le_of_ble_eq_true rfl, Nat.le_of_ble_eq_true rfl⟩) ⟨z_blind _ _ _ _, fun U hU hW => z_pre [] hP hD hK hB hS hA rfl rfl hU hW⟩ rfl rfl hl.1 rfl (lv_room (Nat.le_of_ble_eq_true rfl)) dX10_carriesAgree_4 ⟨Nat.le_of_ble_eq_true rfl, Nat.le_of_ble_eq_true rfl⟩) hP hD hS hA rfl (fun _ => rfl) (fun r u H locs hw hP hD hS => ?_)
  subst hw
  have hP : va_P (gD g) zCl (wRoot g ad st sv isS hst spare undo seen dbef drec ptx plen ppos pcnt cmds stE stF lch llen) H := hP
  have hD : va_D A (wRoot g ad st sv isS hst spare undo seen dbef drec ptx plen ppos pcnt cmds stE stF lch llen) := hD
  refine lv_lstore_n (lv' := [(1, .long zo9), (0, .ref (ad 0))]) hx hb dX10_carriesAgree_7 rfl hl (by decide) rfl (fun ls hl => ?_)
  refine lv_iconst (v := 0) hx hb dX10_carriesAgree_8 (by decide) ?_
  refine lv_istore_n (lv' := [(3, .int 0), (1, .long zo9), (0, .ref (ad 0))]) hx hb dX10_carriesAgree_9 rfl hl (by decide) rfl (fun ls hl => ?_)
  exact K10 fu zo9 0 hF _ _ _ (lv_sub hl [2, 1, 0] rfl) hP hD hS
abbrev w_X10_isConsistent : List Cond := .code yX10_isConsistent cX10_isConsistent 1 (some .boolean) :: wU
abbrev r_X10_isConsistent : Room := { frames := 5, cells := 0, slots := 0, locals := 125 }
abbrev q_X10_isConsistent (g : GG) (ad : Nat → Nat) (st : SS) (sv : SS) (isS : Int32) (hst : Nat → SS) (spare : Int32) (undo : Int32) (seen : Nat → Int32) (dbef : Int32) (drec : Int32) (ptx : Nat → Int32) (plen : Int32) (ppos : Int32) (pcnt : Int32) (cmds : Nat → CC) (stE : Int32) (stF : Int32) (lch : Nat → Int32) (llen : Int32) (o : Int32) (A : Nat → Prop) := va_Qi (fun (r : Int32) (u : Unit) => o = r) (fun u t => va_P (gD g) zCl (wRoot g ad st sv isS hst spare undo seen dbef drec ptx plen ppos pcnt cmds stE stF lch llen) t.heap) A
set_option maxHeartbeats 4000000 in
set_option maxRecDepth 100000 in
theorem c_X10_isConsistent (l : Launch) (g : GG) (ad : Nat → Nat) (st : SS) (sv : SS) (isS : Int32) (hst : Nat → SS) (spare : Int32) (undo : Int32) (seen : Nat → Int32) (dbef : Int32) (drec : Int32) (ptx : Nat → Int32) (plen : Int32) (ppos : Int32) (pcnt : Int32) (cmds : Nat → CC) (stE : Int32) (stF : Int32) (lch : Nat → Int32) (llen : Int32) (sz : Nat) (fu : Nat) (o : Int32) (hF : F_X10_isConsistent fu st = some o) : Met l yX10_isConsistent w_X10_isConsistent r_X10_isConsistent (va_Pc [.ref (ad 0)] (zP g (wRoot g ad st sv isS hst spare undo seen dbef drec ptx plen ppos pcnt cmds stE stF lch llen) sz)) (q_X10_isConsistent g ad st sv isS hst spare undo seen dbef drec ptx plen ppos pcnt cmds stE stF lch llen o (va_A (wRoot g ad st sv isS hst spare undo seen dbef drec ptx plen ppos pcnt cmds stE stF lch llen) sz)) 0 0 (va_A (wRoot g ad st sv isS hst spare undo seen dbef drec ptx plen ppos pcnt cmds stE stF lch llen) sz) := by
  refine Met.ofW (cc := cX10_isConsistent) (maxL := 1) (ret := (some .boolean)) (by decide) rfl ?_
  intro p e s m args below meth c s₁ B hml hv
  obtain ⟨rfl, rfl, hP, hK, hD0, hB⟩ := hv
  have hx := B.exec
  have hb := B.bytes
  have hr := B.returns
  have hts : ∀ w ∈ wU, w.before _ s = true := fun w h => atoms_spec (ws := w_X10_isConsistent) B.pre w (List.mem_cons_of_mem _ h)
  have hown : s.vm.findClass RX10 = some m.cls := findClass_of_methodNamed B.named
  have hlocks := B.notSynchronized
  have hD := hD0.self (sz := s.heap.size)
  generalize hAe : va_A (wRoot g ad st sv isS hst spare undo seen dbef drec ptx plen ppos pcnt cmds stE stF lch llen) s.heap.size = A at hD hB ⊢
  have hA : ∀ q : Nat, s.heap.size ≤ q → A q := fun q h => by rw [← hAe]; exact Or.inr h
  have hS : va_S A s.heap s.heap [] := va_S.rf
  have hl := lv_entry ([.ref (ad 0)]) (n := 1) (Nat.le_of_ble_eq_true rfl)
  rw [lg_entry_eq]
  generalize (lg_sl ([.ref (ad 0)]) ++ List.replicate (1 - (lg_sl ([.ref (ad 0)])).length) Slot.unset).toArray = ls at hl ⊢
  have hl : lv_has ls 1 [(0, .ref (ad 0))] := hl
  unfold F_X10_isConsistent at hF
  refine lv_aload_n hx hb dX10_isConsistent_0 rfl (lv_at hl 0 rfl) ?_
  refine va_get (D := gD g) (ci := 6) (v := .ref (ad 1)) (C := RX10) (T := TX10) (N := 9) hx hb hts inX10 hown hK hP 0 rfl rfl 0 (by decide) (hts _ mU_277) (fun _ h9 => h9) rfl dX10_isConsistent_1 ?_
  obtain ⟨zo1, hzo1, hF⟩ := z_bind hF
  refine z_calll (fun (_ : Unit) => (wState g (ad 1) (ad 2) (ad 3) (ad 4) (ad 5) st)) [1, 2, 3, 4, 5] (va_runV (As := []) (rest := []) ⟨hx, hb, hml, hown, hts⟩ (c_X8_sumOfValues l g (ad 1) (ad 2) (ad 3) (ad 4) (ad 5) st _ fu _ hzo1) (cwV 0 hts (gdV mU_313 mU_314 mU_315 mU_67 mU_316) rfl rfl rfl (by decide +kernel) ⟨Nat.le_of_ble_eq_true rfl, Nat.le_of_ble_eq_true rfl⟩) ⟨z_blind _ _ _ _, va_recv hK hP (ci := 5) (q0 := 1) rfl rfl, fun U hU hW => z_pre [1, 2, 3, 4, 5] hP hD hK hB hS hA rfl rfl hU hW⟩ rfl rfl hl.1 rfl (lv_room (Nat.le_of_ble_eq_true rfl)) dX10_isConsistent_4 ⟨Nat.le_of_ble_eq_true rfl, Nat.le_of_ble_eq_true rfl⟩) hP hD hS hA rfl (fun _ => rfl) (fun r u H locs hw hP hD hS => ?_)
  subst hw
  have hP : va_P (gD g) zCl (wRoot g ad st sv isS hst spare undo seen dbef drec ptx plen ppos pcnt cmds stE stF lch llen) H := hP
  have hD : va_D A (wRoot g ad st sv isS hst spare undo seen dbef drec ptx plen ppos pcnt cmds stE stF lch llen) := hD
  refine lv_aload_n hx hb dX10_isConsistent_7 rfl (lv_at hl 0 rfl) ?_
  refine va_get (D := gD g) (ci := 6) (v := .ref (ad 1)) (C := RX10) (T := TX10) (N := 9) hx hb hts inX10 hown hK hP 0 rfl rfl 0 (by decide) (hts _ mU_277) (fun _ h9 => h9) rfl dX10_isConsistent_8 ?_
  obtain ⟨zo2, hzo2, hF⟩ := z_bind hF
  refine z_calll (fun (_ : Unit) => (wState g (ad 1) (ad 2) (ad 3) (ad 4) (ad 5) st)) [1, 2, 3, 4, 5] (va_runV (As := []) (rest := [.long zo1]) ⟨hx, hb, hml, hown, hts⟩ (c_X8_sumByAccounts l g (ad 1) (ad 2) (ad 3) (ad 4) (ad 5) st _ _ hzo2) (cwV 0 hts (gdV mU_321 mU_322 mU_323 mU_67 mU_324) rfl rfl rfl (by decide +kernel) ⟨Nat.le_of_ble_eq_true rfl, Nat.le_of_ble_eq_true rfl⟩) ⟨z_blind _ _ _ _, va_recv hK hP (ci := 5) (q0 := 1) rfl rfl, fun U hU hW => z_pre [1, 2, 3, 4, 5] hP hD hK hB hS hA rfl rfl hU hW⟩ rfl rfl hl.1 rfl (lv_room (Nat.le_of_ble_eq_true rfl)) dX10_isConsistent_11 ⟨Nat.le_of_ble_eq_true rfl, Nat.le_of_ble_eq_true rfl⟩) hP hD hS hA rfl (fun _ => rfl) (fun r u H locs hw hP hD hS => ?_)
  subst hw
  have hP : va_P (gD g) zCl (wRoot g ad st sv isS hst spare undo seen dbef drec ptx plen ppos pcnt cmds stE stF lch llen) H := hP
  have hD : va_D A (wRoot g ad st sv isS hst spare undo seen dbef drec ptx plen ppos pcnt cmds stE stF lch llen) := hD
  refine z_lcmp_ne (tgt := 46) hx hb dX10_isConsistent_14 dX10_isConsistent_15 (by decide) (fun zc3 => ?_) (fun zc3 => ?_)
  · have hF := z_neg hF zc3
    refine lv_iconst (v := 0) hx hb dX10_isConsistent_46 (by decide) ?_
    have ho := (Option.some.inj hF).symm
    exact W.zret (v := 0) hx hb hr rfl (fun t ht hW => ⟨⟨0, (), rfl, ho, z_end ht hP⟩, hS.F ht⟩) hS.2.2 dX10_isConsistent_47
  · have hF := z_pos hF zc3
    refine lv_aload_n hx hb dX10_isConsistent_18 rfl (lv_at hl 0 rfl) ?_
    refine va_get (D := gD g) (ci := 6) (v := .ref (ad 1)) (C := RX10) (T := TX10) (N := 9) hx hb hts inX10 hown hK hP 0 rfl rfl 0 (by decide) (hts _ mU_277) (fun _ h9 => h9) rfl dX10_isConsistent_19 ?_
    obtain ⟨zo4, hzo4, hF⟩ := z_bind hF
    refine z_calli (fun (_ : Unit) => (wState g (ad 1) (ad 2) (ad 3) (ad 4) (ad 5) st)) [1, 2, 3, 4, 5] (va_runV (As := []) (rest := []) ⟨hx, hb, hml, hown, hts⟩ (c_X8_fitsSteps l g (ad 1) (ad 2) (ad 3) (ad 4) (ad 5) st _ fu _ hzo4) (cwV 0 hts (gdV mU_338 mU_339 mU_340 mU_67 mU_341) rfl rfl rfl (by decide +kernel) ⟨Nat.le_of_ble_eq_true rfl, Nat.le_of_ble_eq_true rfl⟩) ⟨z_blind _ _ _ _, va_recv hK hP (ci := 5) (q0 := 1) rfl rfl, fun U hU hW => z_pre [1, 2, 3, 4, 5] hP hD hK hB hS hA rfl rfl hU hW⟩ rfl rfl hl.1 rfl (lv_room (Nat.le_of_ble_eq_true rfl)) dX10_isConsistent_22 ⟨Nat.le_of_ble_eq_true rfl, Nat.le_of_ble_eq_true rfl⟩) hP hD hS hA rfl (fun _ => rfl) (fun r u H locs hw hP hD hS => ?_)
    subst hw
    have hP : va_P (gD g) zCl (wRoot g ad st sv isS hst spare undo seen dbef drec ptx plen ppos pcnt cmds stE stF lch llen) H := hP
    have hD : va_D A (wRoot g ad st sv isS hst spare undo seen dbef drec ptx plen ppos pcnt cmds stE stF lch llen) := hD
    refine lv_if_eq (tgt := 46) hx hb dX10_isConsistent_25 (by decide) (fun zc5 => ?_) (fun zc5 => ?_)
    · have hF := z_pos hF zc5
      refine lv_iconst (v := 0) hx hb dX10_isConsistent_46 (by decide) ?_
      have ho := (Option.some.inj hF).symm
      exact W.zret (v := 0) hx hb hr rfl (fun t ht hW => ⟨⟨0, (), rfl, ho, z_end ht hP⟩, hS.F ht⟩) hS.2.2 dX10_isConsistent_47
    · have hF := z_neg hF zc5
      refine lv_aload_n hx hb dX10_isConsistent_28 rfl (lv_at hl 0 rfl) ?_
      obtain ⟨zo6, hzo6, hF⟩ := z_bind hF
      refine z_calliE (fun (_ : Unit) => (wRoot g ad st sv isS hst spare undo seen dbef drec ptx plen ppos pcnt cmds stE stF lch llen)) (va_runV (As := []) (rest := []) ⟨hx, hb, hml, hown, hts⟩ (c_X10_errorsAgree l g ad st sv isS hst spare undo seen dbef drec ptx plen ppos pcnt cmds stE stF lch llen _ fu _ hzo6) (cwV 0 hts (gdV mU_349 mU_351 mU_0 mU_66 mU_352) rfl rfl rfl (by decide +kernel) ⟨Nat.le_of_ble_eq_true rfl, Nat.le_of_ble_eq_true rfl⟩) ⟨z_blind _ _ _ _, va_recv hK hP (ci := 6) (q0 := 0) rfl rfl, fun U hU hW => z_preE hP hD hK hB hS hA hU hW⟩ rfl rfl hl.1 rfl (lv_room (Nat.le_of_ble_eq_true rfl)) dX10_isConsistent_29 ⟨Nat.le_of_ble_eq_true rfl, Nat.le_of_ble_eq_true rfl⟩) hD hS hA (fun _ => rfl) (fun r u H locs hw hP hD hS => ?_)
      subst hw
      have hP : va_P (gD g) zCl (wRoot g ad st sv isS hst spare undo seen dbef drec ptx plen ppos pcnt cmds stE stF lch llen) H := hP
      have hD : va_D A (wRoot g ad st sv isS hst spare undo seen dbef drec ptx plen ppos pcnt cmds stE stF lch llen) := hD
      refine lv_if_eq (tgt := 46) hx hb dX10_isConsistent_32 (by decide) (fun zc7 => ?_) (fun zc7 => ?_)
      · have hF := z_pos hF zc7
        refine lv_iconst (v := 0) hx hb dX10_isConsistent_46 (by decide) ?_
        have ho := (Option.some.inj hF).symm
        exact W.zret (v := 0) hx hb hr rfl (fun t ht hW => ⟨⟨0, (), rfl, ho, z_end ht hP⟩, hS.F ht⟩) hS.2.2 dX10_isConsistent_47
      · have hF := z_neg hF zc7
        refine lv_aload_n hx hb dX10_isConsistent_35 rfl (lv_at hl 0 rfl) ?_
        obtain ⟨zo8, hzo8, hF⟩ := z_bind hF
        refine z_calliE (fun (_ : Unit) => (wRoot g ad st sv isS hst spare undo seen dbef drec ptx plen ppos pcnt cmds stE stF lch llen)) (va_runV (As := []) (rest := []) ⟨hx, hb, hml, hown, hts⟩ (c_X10_carriesAgree l g ad st sv isS hst spare undo seen dbef drec ptx plen ppos pcnt cmds stE stF lch llen _ fu _ hzo8) (cwV 0 hts (gdV mU_395 mU_397 mU_1 mU_66 mU_398) rfl rfl rfl (by decide +kernel) ⟨Nat.le_of_ble_eq_true rfl, Nat.le_of_ble_eq_true rfl⟩) ⟨z_blind _ _ _ _, va_recv hK hP (ci := 6) (q0 := 0) rfl rfl, fun U hU hW => z_preE hP hD hK hB hS hA hU hW⟩ rfl rfl hl.1 rfl (lv_room (Nat.le_of_ble_eq_true rfl)) dX10_isConsistent_36 ⟨Nat.le_of_ble_eq_true rfl, Nat.le_of_ble_eq_true rfl⟩) hD hS hA (fun _ => rfl) (fun r u H locs hw hP hD hS => ?_)
        subst hw
        have hP : va_P (gD g) zCl (wRoot g ad st sv isS hst spare undo seen dbef drec ptx plen ppos pcnt cmds stE stF lch llen) H := hP
        have hD : va_D A (wRoot g ad st sv isS hst spare undo seen dbef drec ptx plen ppos pcnt cmds stE stF lch llen) := hD
        refine lv_if_eq (tgt := 46) hx hb dX10_isConsistent_39 (by decide) (fun zc9 => ?_) (fun zc9 => ?_)
        · have hF := z_pos hF zc9
          refine lv_iconst (v := 0) hx hb dX10_isConsistent_46 (by decide) ?_
          have ho := (Option.some.inj hF).symm
          exact W.zret (v := 0) hx hb hr rfl (fun t ht hW => ⟨⟨0, (), rfl, ho, z_end ht hP⟩, hS.F ht⟩) hS.2.2 dX10_isConsistent_47
        · have hF := z_neg hF zc9
          refine lv_iconst (v := 1) hx hb dX10_isConsistent_42 (by decide) ?_
          refine lv_goto (tgt := 47) hx hb dX10_isConsistent_43 (by decide) ?_
          have ho := (Option.some.inj hF).symm
          exact W.zret (v := 1) hx hb hr rfl (fun t ht hW => ⟨⟨1, (), rfl, ho, z_end ht hP⟩, hS.F ht⟩) hS.2.2 dX10_isConsistent_47
abbrev w_X10_append : List Cond := .code yX10_append cX10_append 2 (some .int) :: wU
abbrev r_X10_append : Room := { frames := 6, cells := 1, slots := 6, locals := 82 }
abbrev q_X10_append (g : GG) (ad : Nat → Nat) (st : SS) (sv : SS) (isS : Int32) (hst : Nat → SS) (spare : Int32) (undo : Int32) (seen : Nat → Int32) (dbef : Int32) (drec : Int32) (ptx : Nat → Int32) (plen : Int32) (ppos : Int32) (pcnt : Int32) (cmds : Nat → CC) (stE : Int32) (stF : Int32) (lch : Nat → Int32) (llen : Int32) (o : Except (Nat × ((Nat → Int32) × Int32)) (Int32 × (Nat → Int32) × Int32)) (A : Nat → Prop) := va_Qi (fun (r : Int32) (u : (Nat → Int32) × Int32) => ∃ a : Int32 × (Nat → Int32) × Int32, o = .ok a ∧ a.1 = r ∧ a.2 = u) (fun u t => va_P (gD g) zCl (wRoot g ad st sv isS hst spare undo seen dbef drec u.1 u.2 ppos pcnt cmds stE stF lch llen) t.heap) A
abbrev x_X10_append (g : GG) (ad : Nat → Nat) (st : SS) (sv : SS) (isS : Int32) (hst : Nat → SS) (spare : Int32) (undo : Int32) (seen : Nat → Int32) (dbef : Int32) (drec : Int32) (ptx : Nat → Int32) (plen : Int32) (ppos : Int32) (pcnt : Int32) (cmds : Nat → CC) (stE : Int32) (stF : Int32) (lch : Nat → Int32) (llen : Int32) (o : Except (Nat × ((Nat → Int32) × Int32)) (Int32 × (Nat → Int32) × Int32)) (A : Nat → Prop) := vx_X (fun (x : Nat × ((Nat → Int32) × Int32)) => o = .error x) (fun E x t => E = xN x.1 ∧ va_P (gD g) zCl (wRoot g ad st sv isS hst spare undo seen dbef drec x.2.1 x.2.2 ppos pcnt cmds stE stF lch llen) t.heap) A
set_option maxHeartbeats 4000000 in
set_option maxRecDepth 100000 in
theorem c_X10_append (l : Launch) (hl0 : l.stackTraces = false) (g : GG) (ad : Nat → Nat) (st : SS) (sv : SS) (isS : Int32) (hst : Nat → SS) (spare : Int32) (undo : Int32) (seen : Nat → Int32) (dbef : Int32) (drec : Int32) (ptx : Nat → Int32) (plen : Int32) (ppos : Int32) (pcnt : Int32) (cmds : Nat → CC) (stE : Int32) (stF : Int32) (lch : Nat → Int32) (llen : Int32) (sz : Nat) (p1 : Int32) (o : Except (Nat × ((Nat → Int32) × Int32)) (Int32 × (Nat → Int32) × Int32)) (hF : F_X10_append ptx plen p1 = some o) : vx_Met l yX10_append w_X10_append r_X10_append (va_Pc [.ref (ad 0), .int p1] (zP g (wRoot g ad st sv isS hst spare undo seen dbef drec ptx plen ppos pcnt cmds stE stF lch llen) sz)) (q_X10_append g ad st sv isS hst spare undo seen dbef drec ptx plen ppos pcnt cmds stE stF lch llen o (va_A (wRoot g ad st sv isS hst spare undo seen dbef drec ptx plen ppos pcnt cmds stE stF lch llen) sz)) (x_X10_append g ad st sv isS hst spare undo seen dbef drec ptx plen ppos pcnt cmds stE stF lch llen o (va_A (wRoot g ad st sv isS hst spare undo seen dbef drec ptx plen ppos pcnt cmds stE stF lch llen) sz)) 1 6 (va_A (wRoot g ad st sv isS hst spare undo seen dbef drec ptx plen ppos pcnt cmds stE stF lch llen) sz) := by
  refine vx_ofW (cc := cX10_append) (maxL := 2) (ret := (some .int)) (by decide) rfl ?_
  intro p e s m args below meth c s₁ B hml hnx hv
  obtain ⟨rfl, rfl, hP, hK, hD0, hB⟩ := hv
  have hx := B.exec
  have hb := B.bytes
  have hr := B.returns
  have hts : ∀ w ∈ wU, w.before _ s = true := fun w h => atoms_spec (ws := w_X10_append) B.pre w (List.mem_cons_of_mem _ h)
  have hown : s.vm.findClass RX10 = some m.cls := findClass_of_methodNamed B.named
  have hlocks := B.notSynchronized
  have hD := hD0.self (sz := s.heap.size)
  generalize hAe : va_A (wRoot g ad st sv isS hst spare undo seen dbef drec ptx plen ppos pcnt cmds stE stF lch llen) s.heap.size = A at hD hB ⊢
  have hA : ∀ q : Nat, s.heap.size ≤ q → A q := fun q h => by rw [← hAe]; exact Or.inr h
  have hS : va_S A s.heap s.heap [] := va_S.rf
  have hl := lv_entry ([.ref (ad 0), .int p1]) (n := 2) (Nat.le_of_ble_eq_true rfl)
  rw [lg_entry_eq]
  generalize (lg_sl ([.ref (ad 0), .int p1]) ++ List.replicate (2 - (lg_sl ([.ref (ad 0), .int p1])).length) Slot.unset).toArray = ls at hl ⊢
  have hl : lv_has ls 2 [(0, .ref (ad 0)), (1, .int p1)] := hl
  unfold F_X10_append at hF
  refine lv_aload_n hx hb dX10_append_0 rfl (lv_at hl 0 rfl) ?_
  refine va_get (D := gD g) (ci := 6) (v := .ref (ad 60)) (C := RX10) (T := TX10) (N := 9) hx hb hts inX10 hown hK hP 0 rfl rfl 5 (by decide) (hts _ mU_282) (fun _ h9 => h9) rfl dX10_append_1 ?_
  obtain ⟨zo1, hzo1, hF⟩ := z_bind hF
  refine z_calli (fun (_ : Unit) => (wPT g (ad 60) (ad 61) (ad 62) ptx plen ppos pcnt)) [60, 61] (va_runV (As := []) (rest := []) ⟨hx, hb, hml, hown, hts⟩ (c_X6_isFull l g (ad 60) (ad 61) (ad 62) ptx plen ppos pcnt _ _ hzo1) (cwV 0 hts (gdV mU_1038 mU_1039 mU_1040 mU_70 mU_1041) rfl rfl rfl (by decide +kernel) ⟨Nat.le_of_ble_eq_true rfl, Nat.le_of_ble_eq_true rfl⟩) ⟨z_blind _ _ _ _, va_recv hK hP (ci := 4) (q0 := 60) rfl rfl, fun U hU hW => z_pre [60, 61] hP hD hK hB hS hA rfl rfl hU hW⟩ rfl rfl hl.1 rfl (lv_room (Nat.le_of_ble_eq_true rfl)) dX10_append_4 ⟨Nat.le_of_ble_eq_true rfl, Nat.le_of_ble_eq_true rfl⟩) hP hD hS hA rfl (fun _ => rfl) (fun r u H locs hw hP hD hS => ?_)
  subst hw
  have hP : va_P (gD g) zCl (wRoot g ad st sv isS hst spare undo seen dbef drec ptx plen ppos pcnt cmds stE stF lch llen) H := hP
  have hD : va_D A (wRoot g ad st sv isS hst spare undo seen dbef drec ptx plen ppos pcnt cmds stE stF lch llen) := hD
  refine lv_if_eq (tgt := 21) hx hb dX10_append_7 (by decide) (fun zc2 => ?_) (fun zc2 => ?_)
  · have hF := z_pos hF zc2
    refine lv_aload_n hx hb dX10_append_21 rfl (lv_at hl 0 rfl) ?_
    refine va_get (D := gD g) (ci := 6) (v := .ref (ad 60)) (C := RX10) (T := TX10) (N := 9) hx hb hts inX10 hown hK hP 0 rfl rfl 5 (by decide) (hts _ mU_282) (fun _ h9 => h9) rfl dX10_append_22 ?_
    refine lv_iload_n hx hb dX10_append_25 rfl (lv_at hl 1 rfl) ?_
    obtain ⟨zo3, hzo3, hF⟩ := z_bind hF
    refine z_callv (fun (u : (Nat → Int32) × Int32) => (wPT g (ad 60) (ad 61) (ad 62) u.1 u.2 ppos pcnt)) [60, 61] (va_runV (As := [.int p1]) (rest := []) ⟨hx, hb, hml, hown, hts⟩ (c_X6_put l g (ad 60) (ad 61) (ad 62) ptx plen ppos pcnt _ p1 _ hzo3) (cwV 1 hts (gdV mU_1043 mU_1044 mU_1045 mU_70 mU_1046) rfl rfl rfl (by decide +kernel) ⟨Nat.le_of_ble_eq_true rfl, Nat.le_of_ble_eq_true rfl⟩) ⟨z_blind _ _ _ _, va_recv hK hP (ci := 4) (q0 := 60) rfl rfl, fun U hU hW => z_pre [60, 61] hP hD hK hB hS hA rfl rfl hU hW⟩ rfl rfl hl.1 rfl (lv_room (Nat.le_of_ble_eq_true rfl)) dX10_append_26 ⟨Nat.le_of_ble_eq_true rfl, Nat.le_of_ble_eq_true rfl⟩) hP hD hS hA rfl (fun _ => rfl) (fun u H locs hw hP hD hS => ?_)
    subst hw
    have hP : va_P (gD g) zCl (wRoot g ad st sv isS hst spare undo seen dbef drec zo3.1 zo3.2 ppos pcnt cmds stE stF lch llen) H := hP
    have hD : va_D A (wRoot g ad st sv isS hst spare undo seen dbef drec zo3.1 zo3.2 ppos pcnt cmds stE stF lch llen) := hD
    refine lv_aload_n hx hb dX10_append_29 rfl (lv_at hl 0 rfl) ?_
    refine va_get (D := gD g) (ci := 6) (v := .ref (ad 60)) (C := RX10) (T := TX10) (N := 9) hx hb hts inX10 hown hK hP 0 rfl rfl 5 (by decide) (hts _ mU_282) (fun _ h9 => h9) rfl dX10_append_30 ?_
    refine va_getN (D := gD g) (ci := 4) (v := .int zo3.2) (C := RX6) (T := TX6) (N := 5) hx hb hts inX6 hown hK hP 60 rfl rfl 1 (by decide) (va_Nw.use rfl (hB.2.1.1 _ zn_244)) (fun _ h9 => h9) rfl dX10_append_33 ?_
    have ho := (Option.some.inj hF).symm
    refine vx_ret ?_
    refine W.widen (k := 1) (n := 6) (Nat.le_of_ble_eq_true rfl) (Nat.le_of_ble_eq_true rfl) ?_
    exact W.iret (v := zo3.2) hx hb hr (fun t ht hW => ⟨⟨zo3.2, (zo3.1, zo3.2), rfl, ⟨_, ho, rfl, rfl⟩, z_end ht hP⟩, hS.F ht⟩) hS.2.2 dX10_append_36
  · have hF := z_neg hF zc2
    have ho := (Option.some.inj hF).symm
    obtain ⟨sa, hsa⟩ := hB.2.1.2.2.1 (304, "the text buffer is full") (by decide +kernel)
    exact vx_throwSW hx hb hl0 (own := RX10) (cls := "java/lang/IllegalStateException") (text := "the text buffer is full") (names := ["java/lang/RuntimeException", "java/lang/Exception"]) hown (by decide +kernel) (by decide +kernel) (hts _ mU_627) (hts _ mU_87) hsa (zat_161 hts hB) zgo_161 hB.1.1 hB.1.2 hS (hl.1.trans hml.symm) dX10_append_10 dX10_append_13 dX10_append_14 dX10_append_17 dX10_append_20 (fun x hx => (hnx x hx).elim) (Nat.le_of_ble_eq_true rfl) (Nat.le_of_ble_eq_true rfl) (Nat.le_of_ble_eq_true rfl) (Nat.le_of_ble_eq_true rfl) hlocks (fun t ha hz hk => ⟨(1, (ptx, plen)), ho, ⟨rfl, (z_thr hP hS hz hk).1⟩, (z_thr hP hS hz hk).2⟩) hS.2.2 (Nat.le_of_ble_eq_true rfl) (Nat.le_of_ble_eq_true rfl)
abbrev w_X10_errorPosition : List Cond := .code yX10_errorPosition cX10_errorPosition 1 (some .int) :: wU
abbrev r_X10_errorPosition : Room := { frames := 6, cells := 1, slots := 6, locals := 82 }
abbrev q_X10_errorPosition (g : GG) (ad : Nat → Nat) (st : SS) (sv : SS) (isS : Int32) (hst : Nat → SS) (spare : Int32) (undo : Int32) (seen : Nat → Int32) (dbef : Int32) (drec : Int32) (ptx : Nat → Int32) (plen : Int32) (ppos : Int32) (pcnt : Int32) (cmds : Nat → CC) (stE : Int32) (stF : Int32) (lch : Nat → Int32) (llen : Int32) (o : Except (Nat × (Unit)) (Int32)) (A : Nat → Prop) := va_Qi (fun (r : Int32) (u : Unit) => ∃ a : Int32, o = .ok a ∧ a = r) (fun u t => va_P (gD g) zCl (wRoot g ad st sv isS hst spare undo seen dbef drec ptx plen ppos pcnt cmds stE stF lch llen) t.heap) A
abbrev x_X10_errorPosition (g : GG) (ad : Nat → Nat) (st : SS) (sv : SS) (isS : Int32) (hst : Nat → SS) (spare : Int32) (undo : Int32) (seen : Nat → Int32) (dbef : Int32) (drec : Int32) (ptx : Nat → Int32) (plen : Int32) (ppos : Int32) (pcnt : Int32) (cmds : Nat → CC) (stE : Int32) (stF : Int32) (lch : Nat → Int32) (llen : Int32) (o : Except (Nat × (Unit)) (Int32)) (A : Nat → Prop) := vx_X (fun (x : Nat × (Unit)) => o = .error x) (fun E x t => E = xN x.1 ∧ va_P (gD g) zCl (wRoot g ad st sv isS hst spare undo seen dbef drec ptx plen ppos pcnt cmds stE stF lch llen) t.heap) A
set_option maxHeartbeats 4000000 in
set_option maxRecDepth 100000 in
theorem c_X10_errorPosition (l : Launch) (hl0 : l.stackTraces = false) (g : GG) (ad : Nat → Nat) (st : SS) (sv : SS) (isS : Int32) (hst : Nat → SS) (spare : Int32) (undo : Int32) (seen : Nat → Int32) (dbef : Int32) (drec : Int32) (ptx : Nat → Int32) (plen : Int32) (ppos : Int32) (pcnt : Int32) (cmds : Nat → CC) (stE : Int32) (stF : Int32) (lch : Nat → Int32) (llen : Int32) (sz : Nat) (o : Except (Nat × (Unit)) (Int32)) (hF : F_X10_errorPosition stE = some o) : vx_Met l yX10_errorPosition w_X10_errorPosition r_X10_errorPosition (va_Pc [.ref (ad 0)] (zP g (wRoot g ad st sv isS hst spare undo seen dbef drec ptx plen ppos pcnt cmds stE stF lch llen) sz)) (q_X10_errorPosition g ad st sv isS hst spare undo seen dbef drec ptx plen ppos pcnt cmds stE stF lch llen o (va_A (wRoot g ad st sv isS hst spare undo seen dbef drec ptx plen ppos pcnt cmds stE stF lch llen) sz)) (x_X10_errorPosition g ad st sv isS hst spare undo seen dbef drec ptx plen ppos pcnt cmds stE stF lch llen o (va_A (wRoot g ad st sv isS hst spare undo seen dbef drec ptx plen ppos pcnt cmds stE stF lch llen) sz)) 1 6 (va_A (wRoot g ad st sv isS hst spare undo seen dbef drec ptx plen ppos pcnt cmds stE stF lch llen) sz) := by
  refine vx_ofW (cc := cX10_errorPosition) (maxL := 1) (ret := (some .int)) (by decide) rfl ?_
  intro p e s m args below meth c s₁ B hml hnx hv
  obtain ⟨rfl, rfl, hP, hK, hD0, hB⟩ := hv
  have hx := B.exec
  have hb := B.bytes
  have hr := B.returns
  have hts : ∀ w ∈ wU, w.before _ s = true := fun w h => atoms_spec (ws := w_X10_errorPosition) B.pre w (List.mem_cons_of_mem _ h)
  have hown : s.vm.findClass RX10 = some m.cls := findClass_of_methodNamed B.named
  have hlocks := B.notSynchronized
  have hD := hD0.self (sz := s.heap.size)
  generalize hAe : va_A (wRoot g ad st sv isS hst spare undo seen dbef drec ptx plen ppos pcnt cmds stE stF lch llen) s.heap.size = A at hD hB ⊢
  have hA : ∀ q : Nat, s.heap.size ≤ q → A q := fun q h => by rw [← hAe]; exact Or.inr h
  have hS : va_S A s.heap s.heap [] := va_S.rf
  have hl := lv_entry ([.ref (ad 0)]) (n := 1) (Nat.le_of_ble_eq_true rfl)
  rw [lg_entry_eq]
  generalize (lg_sl ([.ref (ad 0)]) ++ List.replicate (1 - (lg_sl ([.ref (ad 0)])).length) Slot.unset).toArray = ls at hl ⊢
  have hl : lv_has ls 1 [(0, .ref (ad 0))] := hl
  unfold F_X10_errorPosition at hF
  refine lv_aload_n hx hb dX10_errorPosition_0 rfl (lv_at hl 0 rfl) ?_
  refine va_get (D := gD g) (ci := 6) (v := .int stE) (C := RX10) (T := TX10) (N := 9) hx hb hts inX10 hown hK hP 0 rfl rfl 6 (by decide) (hts _ mU_283) (fun _ h9 => h9) rfl dX10_errorPosition_1 ?_
  refine lv_iconst (v := (-1)) hx hb dX10_errorPosition_4 (by decide) ?_
  refine lv_icmp_ne (tgt := 19) hx hb dX10_errorPosition_5 (by decide) (fun zc1 => ?_) (fun zc1 => ?_)
  · have hF := z_neg hF zc1
    refine lv_aload_n hx hb dX10_errorPosition_19 rfl (lv_at hl 0 rfl) ?_
    refine va_get (D := gD g) (ci := 6) (v := .int stE) (C := RX10) (T := TX10) (N := 9) hx hb hts inX10 hown hK hP 0 rfl rfl 6 (by decide) (hts _ mU_283) (fun _ h9 => h9) rfl dX10_errorPosition_20 ?_
    have ho := (Option.some.inj hF).symm
    refine vx_ret ?_
    refine W.widen (k := 1) (n := 6) (Nat.le_of_ble_eq_true rfl) (Nat.le_of_ble_eq_true rfl) ?_
    exact W.iret (v := stE) hx hb hr (fun t ht hW => ⟨⟨stE, (), rfl, ⟨_, ho, rfl⟩, z_end ht hP⟩, hS.F ht⟩) hS.2.2 dX10_errorPosition_23
  · have hF := z_pos hF zc1
    have ho := (Option.some.inj hF).symm
    obtain ⟨sa, hsa⟩ := hB.2.1.2.2.1 (378, "no error position was stored") (by decide +kernel)
    exact zx_throw hx hb hl0 (text := "no error position was stored") hown (hts _ mU_703) (hts _ mU_90) hsa (zat_380 hts hB) zgo_380 hB.1.1 hB.1.2 hS (hl.1.trans hml.symm) dX10_errorPosition_8 dX10_errorPosition_11 dX10_errorPosition_12 dX10_errorPosition_15 dX10_errorPosition_18 (fun x hx => (hnx x hx).elim) (Nat.le_of_ble_eq_true rfl) (Nat.le_of_ble_eq_true rfl) (Nat.le_of_ble_eq_true rfl) (Nat.le_of_ble_eq_true rfl) hlocks (fun t ha hz hk => ⟨(3, ()), ho, ⟨rfl, (z_thr hP hS hz hk).1⟩, (z_thr hP hS hz hk).2⟩) hS.2.2 (Nat.le_of_ble_eq_true rfl) (Nat.le_of_ble_eq_true rfl)
abbrev w_X10_failedCommand : List Cond := .code yX10_failedCommand cX10_failedCommand 1 (some .int) :: wU
abbrev r_X10_failedCommand : Room := { frames := 6, cells := 1, slots := 6, locals := 82 }
abbrev q_X10_failedCommand (g : GG) (ad : Nat → Nat) (st : SS) (sv : SS) (isS : Int32) (hst : Nat → SS) (spare : Int32) (undo : Int32) (seen : Nat → Int32) (dbef : Int32) (drec : Int32) (ptx : Nat → Int32) (plen : Int32) (ppos : Int32) (pcnt : Int32) (cmds : Nat → CC) (stE : Int32) (stF : Int32) (lch : Nat → Int32) (llen : Int32) (o : Except (Nat × (Unit)) (Int32)) (A : Nat → Prop) := va_Qi (fun (r : Int32) (u : Unit) => ∃ a : Int32, o = .ok a ∧ a = r) (fun u t => va_P (gD g) zCl (wRoot g ad st sv isS hst spare undo seen dbef drec ptx plen ppos pcnt cmds stE stF lch llen) t.heap) A
abbrev x_X10_failedCommand (g : GG) (ad : Nat → Nat) (st : SS) (sv : SS) (isS : Int32) (hst : Nat → SS) (spare : Int32) (undo : Int32) (seen : Nat → Int32) (dbef : Int32) (drec : Int32) (ptx : Nat → Int32) (plen : Int32) (ppos : Int32) (pcnt : Int32) (cmds : Nat → CC) (stE : Int32) (stF : Int32) (lch : Nat → Int32) (llen : Int32) (o : Except (Nat × (Unit)) (Int32)) (A : Nat → Prop) := vx_X (fun (x : Nat × (Unit)) => o = .error x) (fun E x t => E = xN x.1 ∧ va_P (gD g) zCl (wRoot g ad st sv isS hst spare undo seen dbef drec ptx plen ppos pcnt cmds stE stF lch llen) t.heap) A
set_option maxHeartbeats 4000000 in
set_option maxRecDepth 100000 in
theorem c_X10_failedCommand (l : Launch) (hl0 : l.stackTraces = false) (g : GG) (ad : Nat → Nat) (st : SS) (sv : SS) (isS : Int32) (hst : Nat → SS) (spare : Int32) (undo : Int32) (seen : Nat → Int32) (dbef : Int32) (drec : Int32) (ptx : Nat → Int32) (plen : Int32) (ppos : Int32) (pcnt : Int32) (cmds : Nat → CC) (stE : Int32) (stF : Int32) (lch : Nat → Int32) (llen : Int32) (sz : Nat) (o : Except (Nat × (Unit)) (Int32)) (hF : F_X10_failedCommand stF = some o) : vx_Met l yX10_failedCommand w_X10_failedCommand r_X10_failedCommand (va_Pc [.ref (ad 0)] (zP g (wRoot g ad st sv isS hst spare undo seen dbef drec ptx plen ppos pcnt cmds stE stF lch llen) sz)) (q_X10_failedCommand g ad st sv isS hst spare undo seen dbef drec ptx plen ppos pcnt cmds stE stF lch llen o (va_A (wRoot g ad st sv isS hst spare undo seen dbef drec ptx plen ppos pcnt cmds stE stF lch llen) sz)) (x_X10_failedCommand g ad st sv isS hst spare undo seen dbef drec ptx plen ppos pcnt cmds stE stF lch llen o (va_A (wRoot g ad st sv isS hst spare undo seen dbef drec ptx plen ppos pcnt cmds stE stF lch llen) sz)) 1 6 (va_A (wRoot g ad st sv isS hst spare undo seen dbef drec ptx plen ppos pcnt cmds stE stF lch llen) sz) := by
  refine vx_ofW (cc := cX10_failedCommand) (maxL := 1) (ret := (some .int)) (by decide) rfl ?_
  intro p e s m args below meth c s₁ B hml hnx hv
  obtain ⟨rfl, rfl, hP, hK, hD0, hB⟩ := hv
  have hx := B.exec
  have hb := B.bytes
  have hr := B.returns
  have hts : ∀ w ∈ wU, w.before _ s = true := fun w h => atoms_spec (ws := w_X10_failedCommand) B.pre w (List.mem_cons_of_mem _ h)
  have hown : s.vm.findClass RX10 = some m.cls := findClass_of_methodNamed B.named
  have hlocks := B.notSynchronized
  have hD := hD0.self (sz := s.heap.size)
  generalize hAe : va_A (wRoot g ad st sv isS hst spare undo seen dbef drec ptx plen ppos pcnt cmds stE stF lch llen) s.heap.size = A at hD hB ⊢
  have hA : ∀ q : Nat, s.heap.size ≤ q → A q := fun q h => by rw [← hAe]; exact Or.inr h
  have hS : va_S A s.heap s.heap [] := va_S.rf
  have hl := lv_entry ([.ref (ad 0)]) (n := 1) (Nat.le_of_ble_eq_true rfl)
  rw [lg_entry_eq]
  generalize (lg_sl ([.ref (ad 0)]) ++ List.replicate (1 - (lg_sl ([.ref (ad 0)])).length) Slot.unset).toArray = ls at hl ⊢
  have hl : lv_has ls 1 [(0, .ref (ad 0))] := hl
  unfold F_X10_failedCommand at hF
  refine lv_aload_n hx hb dX10_failedCommand_0 rfl (lv_at hl 0 rfl) ?_
  refine va_get (D := gD g) (ci := 6) (v := .int stF) (C := RX10) (T := TX10) (N := 9) hx hb hts inX10 hown hK hP 0 rfl rfl 7 (by decide) (hts _ mU_284) (fun _ h9 => h9) rfl dX10_failedCommand_1 ?_
  refine lv_iconst (v := (-1)) hx hb dX10_failedCommand_4 (by decide) ?_
  refine lv_icmp_ne (tgt := 19) hx hb dX10_failedCommand_5 (by decide) (fun zc1 => ?_) (fun zc1 => ?_)
  · have hF := z_neg hF zc1
    refine lv_aload_n hx hb dX10_failedCommand_19 rfl (lv_at hl 0 rfl) ?_
    refine va_get (D := gD g) (ci := 6) (v := .int stF) (C := RX10) (T := TX10) (N := 9) hx hb hts inX10 hown hK hP 0 rfl rfl 7 (by decide) (hts _ mU_284) (fun _ h9 => h9) rfl dX10_failedCommand_20 ?_
    have ho := (Option.some.inj hF).symm
    refine vx_ret ?_
    refine W.widen (k := 1) (n := 6) (Nat.le_of_ble_eq_true rfl) (Nat.le_of_ble_eq_true rfl) ?_
    exact W.iret (v := stF) hx hb hr (fun t ht hW => ⟨⟨stF, (), rfl, ⟨_, ho, rfl⟩, z_end ht hP⟩, hS.F ht⟩) hS.2.2 dX10_failedCommand_23
  · have hF := z_pos hF zc1
    have ho := (Option.some.inj hF).symm
    obtain ⟨sa, hsa⟩ := hB.2.1.2.2.1 (381, "no failed command was stored") (by decide +kernel)
    exact zx_throw hx hb hl0 (text := "no failed command was stored") hown (hts _ mU_703) (hts _ mU_90) hsa (zat_380 hts hB) zgo_380 hB.1.1 hB.1.2 hS (hl.1.trans hml.symm) dX10_failedCommand_8 dX10_failedCommand_11 dX10_failedCommand_12 dX10_failedCommand_15 dX10_failedCommand_18 (fun x hx => (hnx x hx).elim) (Nat.le_of_ble_eq_true rfl) (Nat.le_of_ble_eq_true rfl) (Nat.le_of_ble_eq_true rfl) (Nat.le_of_ble_eq_true rfl) hlocks (fun t ha hz hk => ⟨(3, ()), ho, ⟨rfl, (z_thr hP hS hz hk).1⟩, (z_thr hP hS hz hk).2⟩) hS.2.2 (Nat.le_of_ble_eq_true rfl) (Nat.le_of_ble_eq_true rfl)
abbrev w_X10_outputAt : List Cond := .code yX10_outputAt cX10_outputAt 2 (some .char) :: wU
abbrev r_X10_outputAt : Room := { frames := 6, cells := 1, slots := 6, locals := 82 }
abbrev q_X10_outputAt (g : GG) (ad : Nat → Nat) (st : SS) (sv : SS) (isS : Int32) (hst : Nat → SS) (spare : Int32) (undo : Int32) (seen : Nat → Int32) (dbef : Int32) (drec : Int32) (ptx : Nat → Int32) (plen : Int32) (ppos : Int32) (pcnt : Int32) (cmds : Nat → CC) (stE : Int32) (stF : Int32) (lch : Nat → Int32) (llen : Int32) (o : Except (Nat × (Unit)) (Int32)) (A : Nat → Prop) := va_Qi (fun (r : Int32) (u : Unit) => ∃ a : Int32, o = .ok a ∧ a = r) (fun u t => va_P (gD g) zCl (wRoot g ad st sv isS hst spare undo seen dbef drec ptx plen ppos pcnt cmds stE stF lch llen) t.heap) A
abbrev x_X10_outputAt (g : GG) (ad : Nat → Nat) (st : SS) (sv : SS) (isS : Int32) (hst : Nat → SS) (spare : Int32) (undo : Int32) (seen : Nat → Int32) (dbef : Int32) (drec : Int32) (ptx : Nat → Int32) (plen : Int32) (ppos : Int32) (pcnt : Int32) (cmds : Nat → CC) (stE : Int32) (stF : Int32) (lch : Nat → Int32) (llen : Int32) (o : Except (Nat × (Unit)) (Int32)) (A : Nat → Prop) := vx_X (fun (x : Nat × (Unit)) => o = .error x) (fun E x t => E = xN x.1 ∧ va_P (gD g) zCl (wRoot g ad st sv isS hst spare undo seen dbef drec ptx plen ppos pcnt cmds stE stF lch llen) t.heap) A
set_option maxHeartbeats 4000000 in
set_option maxRecDepth 100000 in
theorem c_X10_outputAt (l : Launch) (hl0 : l.stackTraces = false) (g : GG) (ad : Nat → Nat) (st : SS) (sv : SS) (isS : Int32) (hst : Nat → SS) (spare : Int32) (undo : Int32) (seen : Nat → Int32) (dbef : Int32) (drec : Int32) (ptx : Nat → Int32) (plen : Int32) (ppos : Int32) (pcnt : Int32) (cmds : Nat → CC) (stE : Int32) (stF : Int32) (lch : Nat → Int32) (llen : Int32) (sz : Nat) (p1 : Int32) (o : Except (Nat × (Unit)) (Int32)) (hF : F_X10_outputAt lch llen p1 = some o) : vx_Met l yX10_outputAt w_X10_outputAt r_X10_outputAt (va_Pc [.ref (ad 0), .int p1] (zP g (wRoot g ad st sv isS hst spare undo seen dbef drec ptx plen ppos pcnt cmds stE stF lch llen) sz)) (q_X10_outputAt g ad st sv isS hst spare undo seen dbef drec ptx plen ppos pcnt cmds stE stF lch llen o (va_A (wRoot g ad st sv isS hst spare undo seen dbef drec ptx plen ppos pcnt cmds stE stF lch llen) sz)) (x_X10_outputAt g ad st sv isS hst spare undo seen dbef drec ptx plen ppos pcnt cmds stE stF lch llen o (va_A (wRoot g ad st sv isS hst spare undo seen dbef drec ptx plen ppos pcnt cmds stE stF lch llen) sz)) 1 6 (va_A (wRoot g ad st sv isS hst spare undo seen dbef drec ptx plen ppos pcnt cmds stE stF lch llen) sz) := by
  refine vx_ofW (cc := cX10_outputAt) (maxL := 2) (ret := (some .char)) (by decide) rfl ?_
  intro p e s m args below meth c s₁ B hml hnx hv
  obtain ⟨rfl, rfl, hP, hK, hD0, hB⟩ := hv
  have hx := B.exec
  have hb := B.bytes
  have hr := B.returns
  have hts : ∀ w ∈ wU, w.before _ s = true := fun w h => atoms_spec (ws := w_X10_outputAt) B.pre w (List.mem_cons_of_mem _ h)
  have hown : s.vm.findClass RX10 = some m.cls := findClass_of_methodNamed B.named
  have hlocks := B.notSynchronized
  have hD := hD0.self (sz := s.heap.size)
  generalize hAe : va_A (wRoot g ad st sv isS hst spare undo seen dbef drec ptx plen ppos pcnt cmds stE stF lch llen) s.heap.size = A at hD hB ⊢
  have hA : ∀ q : Nat, s.heap.size ≤ q → A q := fun q h => by rw [← hAe]; exact Or.inr h
  have hS : va_S A s.heap s.heap [] := va_S.rf
  have hl := lv_entry ([.ref (ad 0), .int p1]) (n := 2) (Nat.le_of_ble_eq_true rfl)
  rw [lg_entry_eq]
  generalize (lg_sl ([.ref (ad 0), .int p1]) ++ List.replicate (2 - (lg_sl ([.ref (ad 0), .int p1])).length) Slot.unset).toArray = ls at hl ⊢
  have hl : lv_has ls 2 [(0, .ref (ad 0)), (1, .int p1)] := hl
  unfold F_X10_outputAt at hF
  refine lv_iload_n hx hb dX10_outputAt_0 rfl (lv_at hl 1 rfl) ?_
  refine lv_if_lt (tgt := 15) hx hb dX10_outputAt_1 (by decide) (fun zc1 => ?_) (fun zc1 => ?_)
  · have hF := z_pos hF zc1
    have ho := (Option.some.inj hF).symm
    obtain ⟨sa, hsa⟩ := hB.2.1.2.2.1 (398, "no character at this index") (by decide +kernel)
    exact vx_throwSW hx hb hl0 (own := RX10) (cls := "java/lang/IndexOutOfBoundsException") (text := "no character at this index") (names := ["java/lang/RuntimeException", "java/lang/Exception"]) hown (by decide +kernel) (by decide +kernel) (hts _ mU_824) (hts _ mU_93) hsa (zat_203 hts hB) zgo_203 hB.1.1 hB.1.2 hS (hl.1.trans hml.symm) dX10_outputAt_15 dX10_outputAt_18 dX10_outputAt_19 dX10_outputAt_22 dX10_outputAt_25 (fun x hx => (hnx x hx).elim) (Nat.le_of_ble_eq_true rfl) (Nat.le_of_ble_eq_true rfl) (Nat.le_of_ble_eq_true rfl) (Nat.le_of_ble_eq_true rfl) hlocks (fun t ha hz hk => ⟨(4, ()), ho, ⟨rfl, (z_thr hP hS hz hk).1⟩, (z_thr hP hS hz hk).2⟩) hS.2.2 (Nat.le_of_ble_eq_true rfl) (Nat.le_of_ble_eq_true rfl)
  · have hF := z_neg hF zc1
    refine lv_iload_n hx hb dX10_outputAt_4 rfl (lv_at hl 1 rfl) ?_
    refine lv_aload_n hx hb dX10_outputAt_5 rfl (lv_at hl 0 rfl) ?_
    refine va_get (D := gD g) (ci := 6) (v := .ref (ad 72)) (C := RX10) (T := TX10) (N := 9) hx hb hts inX10 hown hK hP 0 rfl rfl 8 (by decide) (hts _ mU_285) (fun _ h9 => h9) rfl dX10_outputAt_6 ?_
    refine va_getN (D := gD g) (ci := 2) (v := .int llen) (C := RX4) (T := TX4) (N := 2) hx hb hts inX4 hown hK hP 72 rfl rfl 1 (by decide) (va_Nw.use rfl (hB.2.1.1 _ zn_271)) (fun _ h9 => h9) rfl dX10_outputAt_9 ?_
    refine lv_icmp_lt (tgt := 26) hx hb dX10_outputAt_12 (by decide) (fun zc2 => ?_) (fun zc2 => ?_)
    · have hF := z_pos hF zc2
      refine lv_aload_n hx hb dX10_outputAt_26 rfl (lv_at hl 0 rfl) ?_
      refine va_get (D := gD g) (ci := 6) (v := .ref (ad 72)) (C := RX10) (T := TX10) (N := 9) hx hb hts inX10 hown hK hP 0 rfl rfl 8 (by decide) (hts _ mU_285) (fun _ h9 => h9) rfl dX10_outputAt_27 ?_
      refine va_getN (D := gD g) (ci := 2) (v := .ref (ad 73)) (C := RX4) (T := TX4) (N := 2) hx hb hts inX4 hown hK hP 72 rfl rfl 0 (by decide) (va_Nw.use rfl (hB.2.1.1 _ zn_269)) (fun _ h9 => h9) rfl dX10_outputAt_30 ?_
      refine lv_iload_n hx hb dX10_outputAt_33 rfl (lv_at hl 1 rfl) ?_
      obtain ⟨zg3, hF⟩ := z_grd hF
      refine va_cald hx hb hK hP 73 0 rfl rfl zg3 dX10_outputAt_34 ?_
      obtain ⟨zg4, hF⟩ := z_grd hF
      have ho := (Option.some.inj hF).symm
      refine vx_ret ?_
      refine W.widen (k := 1) (n := 6) (Nat.le_of_ble_eq_true rfl) (Nat.le_of_ble_eq_true rfl) ?_
      exact W.zret (v := (lch (Int32.toNatClampNeg p1))) hx hb hr (z_narc (Classical.not_not.mp zg4)).1 (fun t ht hW => ⟨⟨(lch (Int32.toNatClampNeg p1)), (), rfl, ⟨_, ho, rfl⟩, z_end ht hP⟩, hS.F ht⟩) hS.2.2 dX10_outputAt_35
    · have hF := z_neg hF zc2
      have ho := (Option.some.inj hF).symm
      obtain ⟨sa, hsa⟩ := hB.2.1.2.2.1 (398, "no character at this index") (by decide +kernel)
      exact vx_throwSW hx hb hl0 (own := RX10) (cls := "java/lang/IndexOutOfBoundsException") (text := "no character at this index") (names := ["java/lang/RuntimeException", "java/lang/Exception"]) hown (by decide +kernel) (by decide +kernel) (hts _ mU_824) (hts _ mU_93) hsa (zat_203 hts hB) zgo_203 hB.1.1 hB.1.2 hS (hl.1.trans hml.symm) dX10_outputAt_15 dX10_outputAt_18 dX10_outputAt_19 dX10_outputAt_22 dX10_outputAt_25 (fun x hx => (hnx x hx).elim) (Nat.le_of_ble_eq_true rfl) (Nat.le_of_ble_eq_true rfl) (Nat.le_of_ble_eq_true rfl) (Nat.le_of_ble_eq_true rfl) hlocks (fun t ha hz hk => ⟨(4, ()), ho, ⟨rfl, (z_thr hP hS hz hk).1⟩, (z_thr hP hS hz hk).2⟩) hS.2.2 (Nat.le_of_ble_eq_true rfl) (Nat.le_of_ble_eq_true rfl)
abbrev w_X10_save : List Cond := .code yX10_save cX10_save 1 none :: wU
abbrev r_X10_save : Room := { frames := 2, cells := 0, slots := 0, locals := 81 }
abbrev q_X10_save (g : GG) (ad : Nat → Nat) (st : SS) (sv : SS) (isS : Int32) (hst : Nat → SS) (spare : Int32) (undo : Int32) (seen : Nat → Int32) (dbef : Int32) (drec : Int32) (ptx : Nat → Int32) (plen : Int32) (ppos : Int32) (pcnt : Int32) (cmds : Nat → CC) (stE : Int32) (stF : Int32) (lch : Nat → Int32) (llen : Int32) (o : SS × Int32) (A : Nat → Prop) := va_Qv (fun (u : SS × Int32) => o = u) (fun u t => va_P (gD g) zCl (wRoot g ad st u.1 u.2 hst spare undo seen dbef drec ptx plen ppos pcnt cmds stE stF lch llen) t.heap) A
set_option maxHeartbeats 4000000 in
set_option maxRecDepth 100000 in
theorem c_X10_save (l : Launch) (g : GG) (ad : Nat → Nat) (st : SS) (sv : SS) (isS : Int32) (hst : Nat → SS) (spare : Int32) (undo : Int32) (seen : Nat → Int32) (dbef : Int32) (drec : Int32) (ptx : Nat → Int32) (plen : Int32) (ppos : Int32) (pcnt : Int32) (cmds : Nat → CC) (stE : Int32) (stF : Int32) (lch : Nat → Int32) (llen : Int32) (sz : Nat) (o : SS × Int32) (hF : F_X10_save st sv isS = some o) : Met l yX10_save w_X10_save r_X10_save (va_Pc [.ref (ad 0)] (zP g (wRoot g ad st sv isS hst spare undo seen dbef drec ptx plen ppos pcnt cmds stE stF lch llen) sz)) (q_X10_save g ad st sv isS hst spare undo seen dbef drec ptx plen ppos pcnt cmds stE stF lch llen o (va_A (wRoot g ad st sv isS hst spare undo seen dbef drec ptx plen ppos pcnt cmds stE stF lch llen) sz)) 0 0 (va_A (wRoot g ad st sv isS hst spare undo seen dbef drec ptx plen ppos pcnt cmds stE stF lch llen) sz) := by
  refine Met.ofW (cc := cX10_save) (maxL := 1) (ret := none) (by decide) rfl ?_
  intro p e s m args below meth c s₁ B hml hv
  obtain ⟨rfl, rfl, hP, hK, hD0, hB⟩ := hv
  have hx := B.exec
  have hb := B.bytes
  have hr := B.returns
  have hts : ∀ w ∈ wU, w.before _ s = true := fun w h => atoms_spec (ws := w_X10_save) B.pre w (List.mem_cons_of_mem _ h)
  have hown : s.vm.findClass RX10 = some m.cls := findClass_of_methodNamed B.named
  have hlocks := B.notSynchronized
  have hD := hD0.self (sz := s.heap.size)
  generalize hAe : va_A (wRoot g ad st sv isS hst spare undo seen dbef drec ptx plen ppos pcnt cmds stE stF lch llen) s.heap.size = A at hD hB ⊢
  have hA : ∀ q : Nat, s.heap.size ≤ q → A q := fun q h => by rw [← hAe]; exact Or.inr h
  have hS : va_S A s.heap s.heap [] := va_S.rf
  have hl := lv_entry ([.ref (ad 0)]) (n := 1) (Nat.le_of_ble_eq_true rfl)
  rw [lg_entry_eq]
  generalize (lg_sl ([.ref (ad 0)]) ++ List.replicate (1 - (lg_sl ([.ref (ad 0)])).length) Slot.unset).toArray = ls at hl ⊢
  have hl : lv_has ls 1 [(0, .ref (ad 0))] := hl
  unfold F_X10_save at hF
  refine lv_aload_n hx hb dX10_save_0 rfl (lv_at hl 0 rfl) ?_
  refine va_get (D := gD g) (ci := 6) (v := .ref (ad 6)) (C := RX10) (T := TX10) (N := 9) hx hb hts inX10 hown hK hP 0 rfl rfl 1 (by decide) (hts _ mU_278) (fun _ h9 => h9) rfl dX10_save_1 ?_
  refine lv_aload_n hx hb dX10_save_4 rfl (lv_at hl 0 rfl) ?_
  refine va_get (D := gD g) (ci := 6) (v := .ref (ad 1)) (C := RX10) (T := TX10) (N := 9) hx hb hts inX10 hown hK hP 0 rfl rfl 0 (by decide) (hts _ mU_277) (fun _ h9 => h9) rfl dX10_save_5 ?_
  obtain ⟨zo1, hzo1, hF⟩ := z_bind hF
  refine z_callv (fun (u : SS) => (wState2 g (ad 6) (ad 7) (ad 8) (ad 9) (ad 10) (ad 1) (ad 2) (ad 3) (ad 4) (ad 5) u st)) [6, 7, 8, 9, 10, 1, 2, 3, 4, 5] (va_runV (As := [.ref (ad 1)]) (rest := []) ⟨hx, hb, hml, hown, hts⟩ (c_X8_copyFrom l g (ad 6) (ad 7) (ad 8) (ad 9) (ad 10) (ad 1) (ad 2) (ad 3) (ad 4) (ad 5) sv st _ _ hzo1) (cwV 1 hts (gdV mU_426 mU_427 mU_428 mU_67 mU_429) rfl rfl rfl (by decide +kernel) ⟨Nat.le_of_ble_eq_true rfl, Nat.le_of_ble_eq_true rfl⟩) ⟨z_blind _ _ _ _, va_recv hK hP (ci := 5) (q0 := 6) rfl rfl, fun U hU hW => z_pre [6, 7, 8, 9, 10, 1, 2, 3, 4, 5] hP hD hK hB hS hA rfl rfl hU hW⟩ rfl rfl hl.1 rfl (lv_room (Nat.le_of_ble_eq_true rfl)) dX10_save_8 ⟨Nat.le_of_ble_eq_true rfl, Nat.le_of_ble_eq_true rfl⟩) hP hD hS hA rfl (fun _ => rfl) (fun u H locs hw hP hD hS => ?_)
  subst hw
  have hP : va_P (gD g) zCl (wRoot g ad st zo1 isS hst spare undo seen dbef drec ptx plen ppos pcnt cmds stE stF lch llen) H := hP
  have hD : va_D A (wRoot g ad st zo1 isS hst spare undo seen dbef drec ptx plen ppos pcnt cmds stE stF lch llen) := hD
  refine lv_aload_n hx hb dX10_save_11 rfl (lv_at hl 0 rfl) ?_
  refine lv_iconst (v := 1) hx hb dX10_save_12 (by decide) ?_
  refine va_put (D := gD g) (ci := 6) (v := .int 1) (ty := .boolean) (C := RX10) (T := TX10) (N := 9) hx hb hts inX10 tyX10 tyX10_ok nmX10 hown hK hP hD hS 0 rfl rfl 2 (by decide) (hts _ mU_279) (fun _ h9 => h9) rfl (by decide +kernel) rfl rfl (Nat.le_of_ble_eq_true rfl) dX10_save_13 (fun H locs hP hD hS => ?_)
  have hP : va_P (gD g) zCl (wRoot g ad st zo1 1 hst spare undo seen dbef drec ptx plen ppos pcnt cmds stE stF lch llen) H := hP
  have hD : va_D A (wRoot g ad st zo1 1 hst spare undo seen dbef drec ptx plen ppos pcnt cmds stE stF lch llen) := hD
  have ho := (Option.some.inj hF).symm
  exact W.vret hx hb hr (fun t ht hW => ⟨⟨(zo1, 1), rfl, ho, z_end ht hP⟩, hS.F ht⟩) hS.2.2 dX10_save_16
abbrev w_X10_writeNumber : List Cond := .code yX10_writeNumber cX10_writeNumber 6 (some .int) :: wU
abbrev r_X10_writeNumber : Room := { frames := 7, cells := 1, slots := 6, locals := 104 }
abbrev q_X10_writeNumber (g : GG) (ad : Nat → Nat) (st : SS) (sv : SS) (isS : Int32) (hst : Nat → SS) (spare : Int32) (undo : Int32) (seen : Nat → Int32) (dbef : Int32) (drec : Int32) (ptx : Nat → Int32) (plen : Int32) (ppos : Int32) (pcnt : Int32) (cmds : Nat → CC) (stE : Int32) (stF : Int32) (lch : Nat → Int32) (llen : Int32) (o : Except (Nat × ((Nat → Int32) × Int32)) (Int32 × (Nat → Int32) × Int32)) (A : Nat → Prop) := va_Qi (fun (r : Int32) (u : (Nat → Int32) × Int32) => ∃ a : Int32 × (Nat → Int32) × Int32, o = .ok a ∧ a.1 = r ∧ a.2 = u) (fun u t => va_P (gD g) zCl (wRoot g ad st sv isS hst spare undo seen dbef drec ptx plen ppos pcnt cmds stE stF u.1 u.2) t.heap) A
abbrev x_X10_writeNumber (g : GG) (ad : Nat → Nat) (st : SS) (sv : SS) (isS : Int32) (hst : Nat → SS) (spare : Int32) (undo : Int32) (seen : Nat → Int32) (dbef : Int32) (drec : Int32) (ptx : Nat → Int32) (plen : Int32) (ppos : Int32) (pcnt : Int32) (cmds : Nat → CC) (stE : Int32) (stF : Int32) (lch : Nat → Int32) (llen : Int32) (o : Except (Nat × ((Nat → Int32) × Int32)) (Int32 × (Nat → Int32) × Int32)) (A : Nat → Prop) := vx_X (fun (x : Nat × ((Nat → Int32) × Int32)) => o = .error x) (fun E x t => E = xN x.1 ∧ va_P (gD g) zCl (wRoot g ad st sv isS hst spare undo seen dbef drec ptx plen ppos pcnt cmds stE stF x.2.1 x.2.2) t.heap) A
set_option maxHeartbeats 4000000 in
set_option maxRecDepth 100000 in
theorem c_X10_writeNumber (l : Launch) (hl0 : l.stackTraces = false) (g : GG) (ad : Nat → Nat) (st : SS) (sv : SS) (isS : Int32) (hst : Nat → SS) (spare : Int32) (undo : Int32) (seen : Nat → Int32) (dbef : Int32) (drec : Int32) (ptx : Nat → Int32) (plen : Int32) (ppos : Int32) (pcnt : Int32) (cmds : Nat → CC) (stE : Int32) (stF : Int32) (lch : Nat → Int32) (llen : Int32) (sz : Nat) (p1 : Int32) (fu : Nat) (o : Except (Nat × ((Nat → Int32) × Int32)) (Int32 × (Nat → Int32) × Int32)) (hF : F_X10_writeNumber fu st lch llen p1 = some o) : vx_Met l yX10_writeNumber w_X10_writeNumber r_X10_writeNumber (va_Pc [.ref (ad 0), .int p1] (zP g (wRoot g ad st sv isS hst spare undo seen dbef drec ptx plen ppos pcnt cmds stE stF lch llen) sz)) (q_X10_writeNumber g ad st sv isS hst spare undo seen dbef drec ptx plen ppos pcnt cmds stE stF lch llen o (va_A (wRoot g ad st sv isS hst spare undo seen dbef drec ptx plen ppos pcnt cmds stE stF lch llen) sz)) (x_X10_writeNumber g ad st sv isS hst spare undo seen dbef drec ptx plen ppos pcnt cmds stE stF lch llen o (va_A (wRoot g ad st sv isS hst spare undo seen dbef drec ptx plen ppos pcnt cmds stE stF lch llen) sz)) 1 6 (va_A (wRoot g ad st sv isS hst spare undo seen dbef drec ptx plen ppos pcnt cmds stE stF lch llen) sz) := by
  refine vx_ofW (cc := cX10_writeNumber) (maxL := 6) (ret := (some .int)) (by decide) rfl ?_
  intro p e s m args below meth c s₁ B hml hnx hv
  obtain ⟨rfl, rfl, hP, hK, hD0, hB⟩ := hv
  have hx := B.exec
  have hb := B.bytes
  have hr := B.returns
  have hts : ∀ w ∈ wU, w.before _ s = true := fun w h => atoms_spec (ws := w_X10_writeNumber) B.pre w (List.mem_cons_of_mem _ h)
  have hown : s.vm.findClass RX10 = some m.cls := findClass_of_methodNamed B.named
  have hlocks := B.notSynchronized
  have hD := hD0.self (sz := s.heap.size)
  generalize hAe : va_A (wRoot g ad st sv isS hst spare undo seen dbef drec ptx plen ppos pcnt cmds stE stF lch llen) s.heap.size = A at hD hB ⊢
  have hA : ∀ q : Nat, s.heap.size ≤ q → A q := fun q h => by rw [← hAe]; exact Or.inr h
  have hS : va_S A s.heap s.heap [] := va_S.rf
  have hl := lv_entry ([.ref (ad 0), .int p1]) (n := 6) (Nat.le_of_ble_eq_true rfl)
  rw [lg_entry_eq]
  generalize (lg_sl ([.ref (ad 0), .int p1]) ++ List.replicate (6 - (lg_sl ([.ref (ad 0), .int p1])).length) Slot.unset).toArray = ls at hl ⊢
  have hl : lv_has ls 6 [(0, .ref (ad 0)), (1, .int p1)] := hl
  unfold F_X10_writeNumber at hF
  have K78 : ∀ (n78 : Nat) (lch : Nat → Int32) (llen : Int32) (x2 : Int32) (x3 : Int64) (x5 : Int32), F_X10_writeNumber_78 fu n78 st lch llen x2 x3 x5 = some o → ∀ (H : Heap) (locs : List Loc) (ls : Array Slot), lv_has ls 6 [(0, .ref (ad 0)), (2, .int x2), (3, .long x3), (5, .int x5)] → va_P (gD g) zCl (wRoot g ad st sv isS hst spare undo seen dbef drec ptx plen ppos pcnt cmds stE stF lch llen) H → va_D A (wRoot g ad st sv isS hst spare undo seen dbef drec ptx plen ppos pcnt cmds stE stF lch llen) → va_S A s.heap H locs → W p l e (headSpec w_X10_writeNumber r_X10_writeNumber).room s m ([.ref (ad 0), .int p1] : List Value).toArray below meth c H locs 1 6 (vx_MQ below (q_X10_writeNumber g ad st sv isS hst spare undo seen dbef drec ptx plen ppos pcnt cmds stE stF lch llen o A) (x_X10_writeNumber g ad st sv isS hst spare undo seen dbef drec ptx plen ppos pcnt cmds stE stF lch llen o A) ([.ref (ad 0), .int p1] : List Value).toArray s 1 6 A) (F0 m 78 ls []) := by
    intro n78
    induction n78 with
    | zero =>
      intro lch llen x2 x3 x5 hF
      exact absurd hF (by simp [F_X10_writeNumber_78])
    | succ n78 ih78 =>
      intro lch llen x2 x3 x5 hF H locs ls hl hP hD hS
      unfold F_X10_writeNumber_78 at hF
      refine lv_iload hx hb dX10_writeNumber_78 (lv_at hl 3 rfl) ?_
      refine lv_aload_n hx hb dX10_writeNumber_80 rfl (lv_at hl 0 rfl) ?_
      refine va_get (D := gD g) (ci := 6) (v := .ref (ad 1)) (C := RX10) (T := TX10) (N := 9) hx hb hts inX10 hown hK hP 0 rfl rfl 0 (by decide) (hts _ mU_277) (fun _ h9 => h9) rfl dX10_writeNumber_81 ?_
      refine va_getN (D := gD g) (ci := 5) (v := .ref (ad 4)) (C := RX8) (T := TX8) (N := 11) hx hb hts inX8 hown hK hP 1 rfl rfl 2 (by decide) (va_Nw.use rfl (hB.2.1.1 _ zn_118)) (fun _ h9 => h9) rfl dX10_writeNumber_84 ?_
      refine lv_iload_n hx hb dX10_writeNumber_87 rfl (lv_at hl 1 rfl) ?_
      obtain ⟨zg1, hF⟩ := z_grd hF
      refine va_iald hx hb hK hP 4 1 rfl rfl zg1 dX10_writeNumber_88 ?_
      refine lv_icmp_gt (tgt := 113) hx hb dX10_writeNumber_89 (by decide) (fun zc2 => ?_) (fun zc2 => ?_)
      · have hF := z_pos hF zc2
        refine lv_aload_n hx hb dX10_writeNumber_113 rfl (lv_at hl 0 rfl) ?_
        refine va_get (D := gD g) (ci := 6) (v := .ref (ad 72)) (C := RX10) (T := TX10) (N := 9) hx hb hts inX10 hown hK hP 0 rfl rfl 8 (by decide) (hts _ mU_285) (fun _ h9 => h9) rfl dX10_writeNumber_114 ?_
        refine lv_aload_n hx hb dX10_writeNumber_117 rfl (lv_at hl 0 rfl) ?_
        refine va_get (D := gD g) (ci := 6) (v := .ref (ad 1)) (C := RX10) (T := TX10) (N := 9) hx hb hts inX10 hown hK hP 0 rfl rfl 0 (by decide) (hts _ mU_277) (fun _ h9 => h9) rfl dX10_writeNumber_118 ?_
        refine va_getN (D := gD g) (ci := 5) (v := .ref (ad 5)) (C := RX8) (T := TX8) (N := 11) hx hb hts inX8 hown hK hP 1 rfl rfl 3 (by decide) (va_Nw.use rfl (hB.2.1.1 _ zn_120)) (fun _ h9 => h9) rfl dX10_writeNumber_121 ?_
        refine lv_iload_n hx hb dX10_writeNumber_124 rfl (lv_at hl 1 rfl) ?_
        obtain ⟨zg3, hF⟩ := z_grd hF
        refine va_cald hx hb hK hP 5 0 rfl rfl zg3 dX10_writeNumber_125 ?_
        obtain ⟨zo4, hzo4, hF⟩ := z_bind hF
        refine z_callv (fun (u : (Nat → Int32) × Int32) => (wLine g (ad 72) (ad 73) u.1 u.2)) [72, 73] (va_runV (As := [.int ((s_mds st) (Int32.toNatClampNeg x2))]) (rest := []) ⟨hx, hb, hml, hown, hts⟩ (c_X4_put l g (ad 72) (ad 73) lch llen _ ((s_mds st) (Int32.toNatClampNeg x2)) _ hzo4) (cwV 1 hts (gdV mU_1196 mU_1193 mU_1194 mU_74 mU_1195) rfl rfl rfl (by decide +kernel) ⟨Nat.le_of_ble_eq_true rfl, Nat.le_of_ble_eq_true rfl⟩) ⟨z_blind _ _ _ _, va_recv hK hP (ci := 2) (q0 := 72) rfl rfl, fun U hU hW => z_pre [72, 73] hP hD hK hB hS hA rfl rfl hU hW⟩ rfl rfl hl.1 rfl (lv_room (Nat.le_of_ble_eq_true rfl)) dX10_writeNumber_126 ⟨Nat.le_of_ble_eq_true rfl, Nat.le_of_ble_eq_true rfl⟩) hP hD hS hA rfl (fun _ => rfl) (fun u H locs hw hP hD hS => ?_)
        subst hw
        have hP : va_P (gD g) zCl (wRoot g ad st sv isS hst spare undo seen dbef drec ptx plen ppos pcnt cmds stE stF zo4.1 zo4.2) H := hP
        have hD : va_D A (wRoot g ad st sv isS hst spare undo seen dbef drec ptx plen ppos pcnt cmds stE stF zo4.1 zo4.2) := hD
        refine lv_aload_n hx hb dX10_writeNumber_129 rfl (lv_at hl 0 rfl) ?_
        refine va_get (D := gD g) (ci := 6) (v := .ref (ad 72)) (C := RX10) (T := TX10) (N := 9) hx hb hts inX10 hown hK hP 0 rfl rfl 8 (by decide) (hts _ mU_285) (fun _ h9 => h9) rfl dX10_writeNumber_130 ?_
        refine va_getN (D := gD g) (ci := 2) (v := .int zo4.2) (C := RX4) (T := TX4) (N := 2) hx hb hts inX4 hown hK hP 72 rfl rfl 1 (by decide) (va_Nw.use rfl (hB.2.1.1 _ zn_271)) (fun _ h9 => h9) rfl dX10_writeNumber_133 ?_
        have ho := (Option.some.inj hF).symm
        refine vx_ret ?_
        exact W.iret (v := zo4.2) hx hb hr (fun t ht hW => ⟨⟨zo4.2, (zo4.1, zo4.2), rfl, ⟨_, ho, rfl, rfl⟩, z_end ht hP⟩, hS.F ht⟩) hS.2.2 dX10_writeNumber_136
      · have hF := z_neg hF zc2
        refine lv_aload_n hx hb dX10_writeNumber_92 rfl (lv_at hl 0 rfl) ?_
        refine va_get (D := gD g) (ci := 6) (v := .ref (ad 72)) (C := RX10) (T := TX10) (N := 9) hx hb hts inX10 hown hK hP 0 rfl rfl 8 (by decide) (hts _ mU_285) (fun _ h9 => h9) rfl dX10_writeNumber_93 ?_
        refine lv_lload_n hx hb dX10_writeNumber_96 rfl (lv_at hl 2 rfl) ?_
        refine lv_iconst (v := 4) hx hb dX10_writeNumber_97 (by decide) ?_
        refine lv_iload hx hb dX10_writeNumber_98 (lv_at hl 3 rfl) ?_
        refine lv_isub hx hb dX10_writeNumber_100 ?_
        obtain ⟨zo5, hzo5, hF⟩ := z_bind hF
        refine z_calli (fun (_ : Unit) => []) [] (va_runS (As := [.long x3, .int (4 - x5)]) (rest := [.ref (ad 72)]) ⟨hx, hb, hml, hown, hts⟩ (c_X10_digitAt l g _ x3 (4 - x5) fu _ hzo5) (va_cwS 2 hts (gdS mU_406 mU_407 mU_66 mU_408) rfl rfl rfl (by decide +kernel) ⟨Nat.le_of_ble_eq_true rfl, Nat.le_of_ble_eq_true rfl⟩) ⟨z_blind _ _ _ _, fun U hU hW => z_pre [] hP hD hK hB hS hA rfl rfl hU hW⟩ rfl rfl hl.1 rfl (lv_room (Nat.le_of_ble_eq_true rfl)) dX10_writeNumber_101 ⟨Nat.le_of_ble_eq_true rfl, Nat.le_of_ble_eq_true rfl⟩) hP hD hS hA rfl (fun _ => rfl) (fun r u H locs hw hP hD hS => ?_)
        subst hw
        have hP : va_P (gD g) zCl (wRoot g ad st sv isS hst spare undo seen dbef drec ptx plen ppos pcnt cmds stE stF lch llen) H := hP
        have hD : va_D A (wRoot g ad st sv isS hst spare undo seen dbef drec ptx plen ppos pcnt cmds stE stF lch llen) := hD
        obtain ⟨zo6, hzo6, hF⟩ := z_bind hF
        refine z_callv (fun (u : (Nat → Int32) × Int32) => (wLine g (ad 72) (ad 73) u.1 u.2)) [72, 73] (va_runV (As := [.int zo5]) (rest := []) ⟨hx, hb, hml, hown, hts⟩ (c_X4_putDigit l g (ad 72) (ad 73) lch llen _ zo5 _ hzo6) (cwV 1 hts (gdV mU_1197 mU_1189 mU_1190 mU_74 mU_1191) rfl rfl rfl (by decide +kernel) ⟨Nat.le_of_ble_eq_true rfl, Nat.le_of_ble_eq_true rfl⟩) ⟨z_blind _ _ _ _, va_recv hK hP (ci := 2) (q0 := 72) rfl rfl, fun U hU hW => z_pre [72, 73] hP hD hK hB hS hA rfl rfl hU hW⟩ rfl rfl hl.1 rfl (lv_room (Nat.le_of_ble_eq_true rfl)) dX10_writeNumber_104 ⟨Nat.le_of_ble_eq_true rfl, Nat.le_of_ble_eq_true rfl⟩) hP hD hS hA rfl (fun _ => rfl) (fun u H locs hw hP hD hS => ?_)
        subst hw
        have hP : va_P (gD g) zCl (wRoot g ad st sv isS hst spare undo seen dbef drec ptx plen ppos pcnt cmds stE stF zo6.1 zo6.2) H := hP
        have hD : va_D A (wRoot g ad st sv isS hst spare undo seen dbef drec ptx plen ppos pcnt cmds stE stF zo6.1 zo6.2) := hD
        obtain ⟨zv7, ezv7, hF⟩ := z_let hF
        refine lv_iinc (v := zv7) (lv' := [(5, .int zv7), (0, .ref (ad 0)), (2, .int x2), (3, .long x3)]) hx hb dX10_writeNumber_107 hl (k := 3) rfl (by rw [ezv7]; rfl) (by decide) rfl (fun ls hl => ?_)
        refine lv_goto (tgt := 78) hx hb dX10_writeNumber_110 (by decide) ?_
        exact ih78 zo6.1 zo6.2 x2 x3 zv7 hF _ _ _ (lv_sub hl [1, 2, 3, 0] rfl) hP hD hS
  refine lv_aload_n hx hb dX10_writeNumber_0 rfl (lv_at hl 0 rfl) ?_
  refine lv_iload_n hx hb dX10_writeNumber_1 rfl (lv_at hl 1 rfl) ?_
  obtain ⟨zo8, hzo8, hF⟩ := z_bind hF
  refine z_calliXE (fun (_ : Unit) => (wRoot g ad st sv isS hst spare undo seen dbef drec ptx plen ppos pcnt cmds stE stF lch llen)) (fun (x : Nat × (Unit)) => (wRoot g ad st sv isS hst spare undo seen dbef drec ptx plen ppos pcnt cmds stE stF lch llen)) (fun (x : Nat × (Unit)) => xN x.1) (vx_runV (As := [.int p1]) (rest := []) ⟨hx, hb, hml, hown, hts⟩ (c_X10_requirePosition l hl0 g ad st sv isS hst spare undo seen dbef drec ptx plen ppos pcnt cmds stE stF lch llen _ p1 fu _ hzo8) (cwV 1 hts (gdV mU_699 mU_701 mU_7 mU_66 mU_702) rfl rfl rfl (by decide +kernel) ⟨Nat.le_of_ble_eq_true rfl, Nat.le_of_ble_eq_true rfl⟩) ⟨z_blind _ _ _ _, va_recv hK hP (ci := 6) (q0 := 0) rfl rfl, fun U hU hW => z_preE hP hD hK hB hS hA hU hW⟩ rfl rfl hl.1 rfl (lv_room (Nat.le_of_ble_eq_true rfl)) dX10_writeNumber_2 ⟨Nat.le_of_ble_eq_true rfl, Nat.le_of_ble_eq_true rfl⟩) hD hS hA (fun _ => rfl) (fun _ => rfl) (fun zw8 ce q9 H locs hw hP hD hS hq1 hq2 hq3 => ?_) (fun r u H locs hw hP hD hS => ?_)
  · subst hw
    have hF : _ = some o := hF
    have hP : va_P (gD g) zCl (wRoot g ad st sv isS hst spare undo seen dbef drec ptx plen ppos pcnt cmds stE stF lch llen) H := hP
    have hD : va_D A (wRoot g ad st sv isS hst spare undo seen dbef drec ptx plen ppos pcnt cmds stE stF lch llen) := hD
    have hF := z_err hF
    have ho := (Option.some.inj hF).symm
    exact vx_out (fun x hx => (hnx x hx).elim) hlocks hq1 hq2 hq3 (fun t ht hvm => ⟨(zw8.1, (lch, llen)), ho, ⟨rfl, z_end ht hP⟩, hS.F ht⟩) hS.2.2 (Nat.le_of_ble_eq_true rfl) (Nat.le_of_ble_eq_true rfl)
  · obtain ⟨za8, rfl, rfl⟩ := hw
    have hF := z_okk hF
    have hP : va_P (gD g) zCl (wRoot g ad st sv isS hst spare undo seen dbef drec ptx plen ppos pcnt cmds stE stF lch llen) H := hP
    have hD : va_D A (wRoot g ad st sv isS hst spare undo seen dbef drec ptx plen ppos pcnt cmds stE stF lch llen) := hD
    refine lv_istore_n (lv' := [(2, .int za8), (0, .ref (ad 0)), (1, .int p1)]) hx hb dX10_writeNumber_5 rfl hl (by decide) rfl (fun ls hl => ?_)
    refine lv_aload_n hx hb dX10_writeNumber_6 rfl (lv_at hl 1 rfl) ?_
    refine va_get (D := gD g) (ci := 6) (v := .ref (ad 1)) (C := RX10) (T := TX10) (N := 9) hx hb hts inX10 hown hK hP 0 rfl rfl 0 (by decide) (hts _ mU_277) (fun _ h9 => h9) rfl dX10_writeNumber_7 ?_
    refine va_getN (D := gD g) (ci := 5) (v := .ref (ad 3)) (C := RX8) (T := TX8) (N := 11) hx hb hts inX8 hown hK hP 1 rfl rfl 1 (by decide) (va_Nw.use rfl (hB.2.1.1 _ zn_116)) (fun _ h9 => h9) rfl dX10_writeNumber_10 ?_
    refine lv_iload_n hx hb dX10_writeNumber_13 rfl (lv_at hl 0 rfl) ?_
    obtain ⟨zg9, hF⟩ := z_grd hF
    refine va_lald hx hb hK hP 3 2 rfl rfl zg9 dX10_writeNumber_14 ?_
    obtain ⟨zv10, ezv10, hF⟩ := z_let hF
    refine z_topl ezv10 ?_
    refine lv_lstore_n (lv' := [(3, .long zv10), (2, .int za8), (0, .ref (ad 0)), (1, .int p1)]) hx hb dX10_writeNumber_15 rfl hl (by decide) rfl (fun ls hl => ?_)
    refine lv_aload_n hx hb dX10_writeNumber_16 rfl (lv_at hl 2 rfl) ?_
    refine va_get (D := gD g) (ci := 6) (v := .ref (ad 72)) (C := RX10) (T := TX10) (N := 9) hx hb hts inX10 hown hK hP 0 rfl rfl 8 (by decide) (hts _ mU_285) (fun _ h9 => h9) rfl dX10_writeNumber_17 ?_
    refine lv_iconst (v := 0) hx hb dX10_writeNumber_20 (by decide) ?_
    refine va_putN (D := gD g) (ci := 2) (v := .int 0) (ty := .int) (C := RX4) (T := TX4) (N := 2) hx hb hts inX4 tyX4 tyX4_ok nmX4 hown hK hP hD hS 72 rfl rfl 1 (by decide) (va_Nw.use rfl (hB.2.1.1 _ zn_271)) (fun _ h9 => h9) rfl (by decide +kernel) rfl rfl (Nat.le_of_ble_eq_true rfl) dX10_writeNumber_21 (fun H locs hP hD hS => ?_)
    have hP : va_P (gD g) zCl (wRoot g ad st sv isS hst spare undo seen dbef drec ptx plen ppos pcnt cmds stE stF lch 0) H := hP
    have hD : va_D A (wRoot g ad st sv isS hst spare undo seen dbef drec ptx plen ppos pcnt cmds stE stF lch 0) := hD
    refine lv_aload_n hx hb dX10_writeNumber_24 rfl (lv_at hl 2 rfl) ?_
    refine va_get (D := gD g) (ci := 6) (v := .ref (ad 72)) (C := RX10) (T := TX10) (N := 9) hx hb hts inX10 hown hK hP 0 rfl rfl 8 (by decide) (hts _ mU_285) (fun _ h9 => h9) rfl dX10_writeNumber_25 ?_
    refine lv_iload_n hx hb dX10_writeNumber_28 rfl (lv_at hl 3 rfl) ?_
    refine lv_i2l (v := (Int32.toInt64 p1)) hx hb dX10_writeNumber_29 rfl ?_
    obtain ⟨zo11, hzo11, hF⟩ := z_bind hF
    refine z_callv (fun (u : (Nat → Int32) × Int32) => (wLine g (ad 72) (ad 73) u.1 u.2)) [72, 73] (va_runV (As := [.long (Int32.toInt64 p1)]) (rest := []) ⟨hx, hb, hml, hown, hts⟩ (c_X4_putWhole l g (ad 72) (ad 73) lch 0 _ (Int32.toInt64 p1) fu _ hzo11) (cwV 1 hts (gdV mU_1183 mU_1184 mU_1185 mU_74 mU_1186) rfl rfl rfl (by decide +kernel) ⟨Nat.le_of_ble_eq_true rfl, Nat.le_of_ble_eq_true rfl⟩) ⟨z_blind _ _ _ _, va_recv hK hP (ci := 2) (q0 := 72) rfl rfl, fun U hU hW => z_pre [72, 73] hP hD hK hB hS hA rfl rfl hU hW⟩ rfl rfl hl.1 rfl (lv_room (Nat.le_of_ble_eq_true rfl)) dX10_writeNumber_30 ⟨Nat.le_of_ble_eq_true rfl, Nat.le_of_ble_eq_true rfl⟩) hP hD hS hA rfl (fun _ => rfl) (fun u H locs hw hP hD hS => ?_)
    subst hw
    have hP : va_P (gD g) zCl (wRoot g ad st sv isS hst spare undo seen dbef drec ptx plen ppos pcnt cmds stE stF zo11.1 zo11.2) H := hP
    have hD : va_D A (wRoot g ad st sv isS hst spare undo seen dbef drec ptx plen ppos pcnt cmds stE stF zo11.1 zo11.2) := hD
    refine lv_aload_n hx hb dX10_writeNumber_33 rfl (lv_at hl 2 rfl) ?_
    refine va_get (D := gD g) (ci := 6) (v := .ref (ad 72)) (C := RX10) (T := TX10) (N := 9) hx hb hts inX10 hown hK hP 0 rfl rfl 8 (by decide) (hts _ mU_285) (fun _ h9 => h9) rfl dX10_writeNumber_34 ?_
    refine lv_bipush (v := 58) hx hb dX10_writeNumber_37 (by decide) ?_
    obtain ⟨zo12, hzo12, hF⟩ := z_bind hF
    refine z_callv (fun (u : (Nat → Int32) × Int32) => (wLine g (ad 72) (ad 73) u.1 u.2)) [72, 73] (va_runV (As := [.int 58]) (rest := []) ⟨hx, hb, hml, hown, hts⟩ (c_X4_put l g (ad 72) (ad 73) zo11.1 zo11.2 _ 58 _ hzo12) (cwV 1 hts (gdV mU_1196 mU_1193 mU_1194 mU_74 mU_1195) rfl rfl rfl (by decide +kernel) ⟨Nat.le_of_ble_eq_true rfl, Nat.le_of_ble_eq_true rfl⟩) ⟨z_blind _ _ _ _, va_recv hK hP (ci := 2) (q0 := 72) rfl rfl, fun U hU hW => z_pre [72, 73] hP hD hK hB hS hA rfl rfl hU hW⟩ rfl rfl hl.1 rfl (lv_room (Nat.le_of_ble_eq_true rfl)) dX10_writeNumber_39 ⟨Nat.le_of_ble_eq_true rfl, Nat.le_of_ble_eq_true rfl⟩) hP hD hS hA rfl (fun _ => rfl) (fun u H locs hw hP hD hS => ?_)
    subst hw
    have hP : va_P (gD g) zCl (wRoot g ad st sv isS hst spare undo seen dbef drec ptx plen ppos pcnt cmds stE stF zo12.1 zo12.2) H := hP
    have hD : va_D A (wRoot g ad st sv isS hst spare undo seen dbef drec ptx plen ppos pcnt cmds stE stF zo12.1 zo12.2) := hD
    refine lv_aload_n hx hb dX10_writeNumber_42 rfl (lv_at hl 2 rfl) ?_
    refine va_get (D := gD g) (ci := 6) (v := .ref (ad 72)) (C := RX10) (T := TX10) (N := 9) hx hb hts inX10 hown hK hP 0 rfl rfl 8 (by decide) (hts _ mU_285) (fun _ h9 => h9) rfl dX10_writeNumber_43 ?_
    refine lv_lload_n hx hb dX10_writeNumber_46 rfl (lv_at hl 0 rfl) ?_
    refine lv_ldc2 (v := 10000) hx hb hown (hts _ mU_402) dX10_writeNumber_47 ?_
    refine lv_ldiv hx hb dX10_writeNumber_50 (by decide) ?_
    obtain ⟨zo13, hzo13, hF⟩ := z_bind hF
    refine z_callv (fun (u : (Nat → Int32) × Int32) => (wLine g (ad 72) (ad 73) u.1 u.2)) [72, 73] (va_runV (As := [.long (zv10 / 10000)]) (rest := []) ⟨hx, hb, hml, hown, hts⟩ (c_X4_putWhole l g (ad 72) (ad 73) zo12.1 zo12.2 _ (zv10 / 10000) fu _ hzo13) (cwV 1 hts (gdV mU_1183 mU_1184 mU_1185 mU_74 mU_1186) rfl rfl rfl (by decide +kernel) ⟨Nat.le_of_ble_eq_true rfl, Nat.le_of_ble_eq_true rfl⟩) ⟨z_blind _ _ _ _, va_recv hK hP (ci := 2) (q0 := 72) rfl rfl, fun U hU hW => z_pre [72, 73] hP hD hK hB hS hA rfl rfl hU hW⟩ rfl rfl hl.1 rfl (lv_room (Nat.le_of_ble_eq_true rfl)) dX10_writeNumber_51 ⟨Nat.le_of_ble_eq_true rfl, Nat.le_of_ble_eq_true rfl⟩) hP hD hS hA rfl (fun _ => rfl) (fun u H locs hw hP hD hS => ?_)
    subst hw
    have hP : va_P (gD g) zCl (wRoot g ad st sv isS hst spare undo seen dbef drec ptx plen ppos pcnt cmds stE stF zo13.1 zo13.2) H := hP
    have hD : va_D A (wRoot g ad st sv isS hst spare undo seen dbef drec ptx plen ppos pcnt cmds stE stF zo13.1 zo13.2) := hD
    refine lv_aload_n hx hb dX10_writeNumber_54 rfl (lv_at hl 2 rfl) ?_
    refine va_get (D := gD g) (ci := 6) (v := .ref (ad 1)) (C := RX10) (T := TX10) (N := 9) hx hb hts inX10 hown hK hP 0 rfl rfl 0 (by decide) (hts _ mU_277) (fun _ h9 => h9) rfl dX10_writeNumber_55 ?_
    refine va_getN (D := gD g) (ci := 5) (v := .ref (ad 4)) (C := RX8) (T := TX8) (N := 11) hx hb hts inX8 hown hK hP 1 rfl rfl 2 (by decide) (va_Nw.use rfl (hB.2.1.1 _ zn_118)) (fun _ h9 => h9) rfl dX10_writeNumber_58 ?_
    refine lv_iload_n hx hb dX10_writeNumber_61 rfl (lv_at hl 1 rfl) ?_
    obtain ⟨zg14, hF⟩ := z_grd hF
    refine va_iald hx hb hK hP 4 1 rfl rfl zg14 dX10_writeNumber_62 ?_
    refine lv_if_le (tgt := 75) hx hb dX10_writeNumber_63 (by decide) (fun zc15 => ?_) (fun zc15 => ?_)
    · have hF := z_pos hF zc15
      refine lv_iconst (v := 1) hx hb dX10_writeNumber_75 (by decide) ?_
      refine lv_istore (lv' := [(5, .int 1), (3, .long zv10), (2, .int za8), (0, .ref (ad 0)), (1, .int p1)]) hx hb dX10_writeNumber_76 hl (by decide) rfl (fun ls hl => ?_)
      exact K78 fu zo13.1 zo13.2 za8 zv10 1 hF _ _ _ (lv_sub hl [3, 2, 1, 0] rfl) hP hD hS
    · have hF := z_neg hF zc15
      refine lv_aload_n hx hb dX10_writeNumber_66 rfl (lv_at hl 2 rfl) ?_
      refine va_get (D := gD g) (ci := 6) (v := .ref (ad 72)) (C := RX10) (T := TX10) (N := 9) hx hb hts inX10 hown hK hP 0 rfl rfl 8 (by decide) (hts _ mU_285) (fun _ h9 => h9) rfl dX10_writeNumber_67 ?_
      refine lv_bipush (v := 46) hx hb dX10_writeNumber_70 (by decide) ?_
      obtain ⟨zo16, hzo16, hF⟩ := z_bind hF
      refine z_callv (fun (u : (Nat → Int32) × Int32) => (wLine g (ad 72) (ad 73) u.1 u.2)) [72, 73] (va_runV (As := [.int 46]) (rest := []) ⟨hx, hb, hml, hown, hts⟩ (c_X4_put l g (ad 72) (ad 73) zo13.1 zo13.2 _ 46 _ hzo16) (cwV 1 hts (gdV mU_1196 mU_1193 mU_1194 mU_74 mU_1195) rfl rfl rfl (by decide +kernel) ⟨Nat.le_of_ble_eq_true rfl, Nat.le_of_ble_eq_true rfl⟩) ⟨z_blind _ _ _ _, va_recv hK hP (ci := 2) (q0 := 72) rfl rfl, fun U hU hW => z_pre [72, 73] hP hD hK hB hS hA rfl rfl hU hW⟩ rfl rfl hl.1 rfl (lv_room (Nat.le_of_ble_eq_true rfl)) dX10_writeNumber_72 ⟨Nat.le_of_ble_eq_true rfl, Nat.le_of_ble_eq_true rfl⟩) hP hD hS hA rfl (fun _ => rfl) (fun u H locs hw hP hD hS => ?_)
      subst hw
      have hP : va_P (gD g) zCl (wRoot g ad st sv isS hst spare undo seen dbef drec ptx plen ppos pcnt cmds stE stF zo16.1 zo16.2) H := hP
      have hD : va_D A (wRoot g ad st sv isS hst spare undo seen dbef drec ptx plen ppos pcnt cmds stE stF zo16.1 zo16.2) := hD
      refine lv_iconst (v := 1) hx hb dX10_writeNumber_75 (by decide) ?_
      refine lv_istore (lv' := [(5, .int 1), (3, .long zv10), (2, .int za8), (0, .ref (ad 0)), (1, .int p1)]) hx hb dX10_writeNumber_76 hl (by decide) rfl (fun ls hl => ?_)
      exact K78 fu zo16.1 zo16.2 za8 zv10 1 hF _ _ _ (lv_sub hl [3, 2, 1, 0] rfl) hP hD hS
abbrev w_X10_writeQuotient : List Cond := .code yX10_writeQuotient cX10_writeQuotient 4 (some .int) :: wU
abbrev r_X10_writeQuotient : Room := { frames := 7, cells := 1, slots := 6, locals := 103 }
abbrev q_X10_writeQuotient (g : GG) (ad : Nat → Nat) (st : SS) (sv : SS) (isS : Int32) (hst : Nat → SS) (spare : Int32) (undo : Int32) (seen : Nat → Int32) (dbef : Int32) (drec : Int32) (ptx : Nat → Int32) (plen : Int32) (ppos : Int32) (pcnt : Int32) (cmds : Nat → CC) (stE : Int32) (stF : Int32) (lch : Nat → Int32) (llen : Int32) (o : Except (Nat × ((Nat → Int32) × Int32 × Int32 × (Nat → Int32) × Int32)) (Int32 × (Nat → Int32) × Int32 × Int32 × (Nat → Int32) × Int32)) (A : Nat → Prop) := va_Qi (fun (r : Int32) (u : (Nat → Int32) × Int32 × Int32 × (Nat → Int32) × Int32) => ∃ a : Int32 × (Nat → Int32) × Int32 × Int32 × (Nat → Int32) × Int32, o = .ok a ∧ a.1 = r ∧ a.2 = u) (fun u t => va_P (gD g) zCl (wRoot g ad st sv isS hst spare undo u.1 u.2.1 u.2.2.1 ptx plen ppos pcnt cmds stE stF u.2.2.2.1 u.2.2.2.2) t.heap) A
abbrev x_X10_writeQuotient (g : GG) (ad : Nat → Nat) (st : SS) (sv : SS) (isS : Int32) (hst : Nat → SS) (spare : Int32) (undo : Int32) (seen : Nat → Int32) (dbef : Int32) (drec : Int32) (ptx : Nat → Int32) (plen : Int32) (ppos : Int32) (pcnt : Int32) (cmds : Nat → CC) (stE : Int32) (stF : Int32) (lch : Nat → Int32) (llen : Int32) (o : Except (Nat × ((Nat → Int32) × Int32 × Int32 × (Nat → Int32) × Int32)) (Int32 × (Nat → Int32) × Int32 × Int32 × (Nat → Int32) × Int32)) (A : Nat → Prop) := vx_X (fun (x : Nat × ((Nat → Int32) × Int32 × Int32 × (Nat → Int32) × Int32)) => o = .error x) (fun E x t => E = xN x.1 ∧ va_P (gD g) zCl (wRoot g ad st sv isS hst spare undo x.2.1 x.2.2.1 x.2.2.2.1 ptx plen ppos pcnt cmds stE stF x.2.2.2.2.1 x.2.2.2.2.2) t.heap) A
set_option maxHeartbeats 4000000 in
set_option maxRecDepth 100000 in
theorem c_X10_writeQuotient (l : Launch) (hl0 : l.stackTraces = false) (g : GG) (ad : Nat → Nat) (st : SS) (sv : SS) (isS : Int32) (hst : Nat → SS) (spare : Int32) (undo : Int32) (seen : Nat → Int32) (dbef : Int32) (drec : Int32) (ptx : Nat → Int32) (plen : Int32) (ppos : Int32) (pcnt : Int32) (cmds : Nat → CC) (stE : Int32) (stF : Int32) (lch : Nat → Int32) (llen : Int32) (sz : Nat) (p1 : Int32) (p2 : Int32) (fu : Nat) (o : Except (Nat × ((Nat → Int32) × Int32 × Int32 × (Nat → Int32) × Int32)) (Int32 × (Nat → Int32) × Int32 × Int32 × (Nat → Int32) × Int32)) (hF : F_X10_writeQuotient fu seen dbef drec lch llen p1 p2 = some o) : vx_Met l yX10_writeQuotient w_X10_writeQuotient r_X10_writeQuotient (va_Pc [.ref (ad 0), .int p1, .int p2] (zP g (wRoot g ad st sv isS hst spare undo seen dbef drec ptx plen ppos pcnt cmds stE stF lch llen) sz)) (q_X10_writeQuotient g ad st sv isS hst spare undo seen dbef drec ptx plen ppos pcnt cmds stE stF lch llen o (va_A (wRoot g ad st sv isS hst spare undo seen dbef drec ptx plen ppos pcnt cmds stE stF lch llen) sz)) (x_X10_writeQuotient g ad st sv isS hst spare undo seen dbef drec ptx plen ppos pcnt cmds stE stF lch llen o (va_A (wRoot g ad st sv isS hst spare undo seen dbef drec ptx plen ppos pcnt cmds stE stF lch llen) sz)) 1 6 (va_A (wRoot g ad st sv isS hst spare undo seen dbef drec ptx plen ppos pcnt cmds stE stF lch llen) sz) := by
  refine vx_ofW (cc := cX10_writeQuotient) (maxL := 4) (ret := (some .int)) (by decide) rfl ?_
  intro p e s m args below meth c s₁ B hml hnx hv
  obtain ⟨rfl, rfl, hP, hK, hD0, hB⟩ := hv
  have hx := B.exec
  have hb := B.bytes
  have hr := B.returns
  have hts : ∀ w ∈ wU, w.before _ s = true := fun w h => atoms_spec (ws := w_X10_writeQuotient) B.pre w (List.mem_cons_of_mem _ h)
  have hown : s.vm.findClass RX10 = some m.cls := findClass_of_methodNamed B.named
  have hlocks := B.notSynchronized
  have hD := hD0.self (sz := s.heap.size)
  generalize hAe : va_A (wRoot g ad st sv isS hst spare undo seen dbef drec ptx plen ppos pcnt cmds stE stF lch llen) s.heap.size = A at hD hB ⊢
  have hA : ∀ q : Nat, s.heap.size ≤ q → A q := fun q h => by rw [← hAe]; exact Or.inr h
  have hS : va_S A s.heap s.heap [] := va_S.rf
  have hl := lv_entry ([.ref (ad 0), .int p1, .int p2]) (n := 4) (Nat.le_of_ble_eq_true rfl)
  rw [lg_entry_eq]
  generalize (lg_sl ([.ref (ad 0), .int p1, .int p2]) ++ List.replicate (4 - (lg_sl ([.ref (ad 0), .int p1, .int p2])).length) Slot.unset).toArray = ls at hl ⊢
  have hl : lv_has ls 4 [(0, .ref (ad 0)), (1, .int p1), (2, .int p2)] := hl
  unfold F_X10_writeQuotient at hF
  refine lv_iload_n hx hb dX10_writeQuotient_0 rfl (lv_at hl 1 rfl) ?_
  refine lv_iload_n hx hb dX10_writeQuotient_1 rfl (lv_at hl 2 rfl) ?_
  obtain ⟨zo1, hzo1, hF⟩ := z_bind hF
  refine z_callvX (fun (_ : Unit) => []) (fun (x : Nat × (Unit)) => []) (fun (x : Nat × (Unit)) => xN x.1) [] (vx_runS (As := [.int p1, .int p2]) (rest := []) ⟨hx, hb, hml, hown, hts⟩ (c_X10_requireQuotient l hl0 g _ p1 p2 _ hzo1) (va_cwS 2 hts (gdS mU_680 mU_681 mU_66 mU_682) rfl rfl rfl (by decide +kernel) ⟨Nat.le_of_ble_eq_true rfl, Nat.le_of_ble_eq_true rfl⟩) ⟨z_blind _ _ _ _, fun U hU hW => z_pre [] hP hD hK hB hS hA rfl rfl hU hW⟩ rfl rfl hl.1 rfl (lv_room (Nat.le_of_ble_eq_true rfl)) dX10_writeQuotient_2 ⟨Nat.le_of_ble_eq_true rfl, Nat.le_of_ble_eq_true rfl⟩) hP hD hS hA rfl (fun _ => rfl) (fun _ => rfl) (fun zw1 ce q9 H locs hw hP hD hS hq1 hq2 hq3 => ?_) (fun u H locs hw hP hD hS => ?_)
  · subst hw
    have hF : _ = some o := hF
    have hP : va_P (gD g) zCl (wRoot g ad st sv isS hst spare undo seen dbef drec ptx plen ppos pcnt cmds stE stF lch llen) H := hP
    have hD : va_D A (wRoot g ad st sv isS hst spare undo seen dbef drec ptx plen ppos pcnt cmds stE stF lch llen) := hD
    have hF := z_err hF
    have ho := (Option.some.inj hF).symm
    exact vx_out (fun x hx => (hnx x hx).elim) hlocks hq1 hq2 hq3 (fun t ht hvm => ⟨(zw1.1, (seen, dbef, drec, lch, llen)), ho, ⟨rfl, z_end ht hP⟩, hS.F ht⟩) hS.2.2 (Nat.le_of_ble_eq_true rfl) (Nat.le_of_ble_eq_true rfl)
  · obtain ⟨za1, rfl, rfl⟩ := hw
    have hF := z_okk hF
    have hP : va_P (gD g) zCl (wRoot g ad st sv isS hst spare undo seen dbef drec ptx plen ppos pcnt cmds stE stF lch llen) H := hP
    have hD : va_D A (wRoot g ad st sv isS hst spare undo seen dbef drec ptx plen ppos pcnt cmds stE stF lch llen) := hD
    refine lv_aload_n hx hb dX10_writeQuotient_5 rfl (lv_at hl 0 rfl) ?_
    refine va_get (D := gD g) (ci := 6) (v := .ref (ad 58)) (C := RX10) (T := TX10) (N := 9) hx hb hts inX10 hown hK hP 0 rfl rfl 4 (by decide) (hts _ mU_281) (fun _ h9 => h9) rfl dX10_writeQuotient_6 ?_
    refine lv_iload_n hx hb dX10_writeQuotient_9 rfl (lv_at hl 1 rfl) ?_
    refine lv_iload_n hx hb dX10_writeQuotient_10 rfl (lv_at hl 2 rfl) ?_
    obtain ⟨zo2, hzo2, hF⟩ := z_bind hF
    refine z_callv (fun (u : (Nat → Int32) × Int32 × Int32) => (wLD g (ad 58) (ad 59) u.1 u.2.1 u.2.2)) [58, 59] (va_runV (As := [.int p1, .int p2]) (rest := []) ⟨hx, hb, hml, hown, hts⟩ (c_X5_divide l g (ad 58) (ad 59) seen dbef drec _ p1 p2 fu _ hzo2) (cwV 2 hts (gdV mU_965 mU_966 mU_967 mU_69 mU_968) rfl rfl rfl (by decide +kernel) ⟨Nat.le_of_ble_eq_true rfl, Nat.le_of_ble_eq_true rfl⟩) ⟨z_blind _ _ _ _, va_recv hK hP (ci := 3) (q0 := 58) rfl rfl, fun U hU hW => z_pre [58, 59] hP hD hK hB hS hA rfl rfl hU hW⟩ rfl rfl hl.1 rfl (lv_room (Nat.le_of_ble_eq_true rfl)) dX10_writeQuotient_11 ⟨Nat.le_of_ble_eq_true rfl, Nat.le_of_ble_eq_true rfl⟩) hP hD hS hA rfl (fun _ => rfl) (fun u H locs hw hP hD hS => ?_)
    subst hw
    have hP : va_P (gD g) zCl (wRoot g ad st sv isS hst spare undo zo2.1 zo2.2.1 zo2.2.2 ptx plen ppos pcnt cmds stE stF lch llen) H := hP
    have hD : va_D A (wRoot g ad st sv isS hst spare undo zo2.1 zo2.2.1 zo2.2.2 ptx plen ppos pcnt cmds stE stF lch llen) := hD
    refine lv_aload_n hx hb dX10_writeQuotient_14 rfl (lv_at hl 0 rfl) ?_
    refine va_get (D := gD g) (ci := 6) (v := .ref (ad 72)) (C := RX10) (T := TX10) (N := 9) hx hb hts inX10 hown hK hP 0 rfl rfl 8 (by decide) (hts _ mU_285) (fun _ h9 => h9) rfl dX10_writeQuotient_15 ?_
    refine lv_iconst (v := 0) hx hb dX10_writeQuotient_18 (by decide) ?_
    refine va_putN (D := gD g) (ci := 2) (v := .int 0) (ty := .int) (C := RX4) (T := TX4) (N := 2) hx hb hts inX4 tyX4 tyX4_ok nmX4 hown hK hP hD hS 72 rfl rfl 1 (by decide) (va_Nw.use rfl (hB.2.1.1 _ zn_271)) (fun _ h9 => h9) rfl (by decide +kernel) rfl rfl (Nat.le_of_ble_eq_true rfl) dX10_writeQuotient_19 (fun H locs hP hD hS => ?_)
    have hP : va_P (gD g) zCl (wRoot g ad st sv isS hst spare undo zo2.1 zo2.2.1 zo2.2.2 ptx plen ppos pcnt cmds stE stF lch 0) H := hP
    have hD : va_D A (wRoot g ad st sv isS hst spare undo zo2.1 zo2.2.1 zo2.2.2 ptx plen ppos pcnt cmds stE stF lch 0) := hD
    refine lv_aload_n hx hb dX10_writeQuotient_22 rfl (lv_at hl 0 rfl) ?_
    refine va_get (D := gD g) (ci := 6) (v := .ref (ad 72)) (C := RX10) (T := TX10) (N := 9) hx hb hts inX10 hown hK hP 0 rfl rfl 8 (by decide) (hts _ mU_285) (fun _ h9 => h9) rfl dX10_writeQuotient_23 ?_
    refine lv_iload_n hx hb dX10_writeQuotient_26 rfl (lv_at hl 1 rfl) ?_
    refine lv_iload_n hx hb dX10_writeQuotient_27 rfl (lv_at hl 2 rfl) ?_
    obtain ⟨zg3, hF⟩ := z_grd hF
    refine lv_idiv hx hb dX10_writeQuotient_28 zg3 ?_
    refine lv_i2l (v := (Int32.toInt64 (p1 / p2))) hx hb dX10_writeQuotient_29 rfl ?_
    obtain ⟨zo4, hzo4, hF⟩ := z_bind hF
    refine z_callv (fun (u : (Nat → Int32) × Int32) => (wLine g (ad 72) (ad 73) u.1 u.2)) [72, 73] (va_runV (As := [.long (Int32.toInt64 (p1 / p2))]) (rest := []) ⟨hx, hb, hml, hown, hts⟩ (c_X4_putWhole l g (ad 72) (ad 73) lch 0 _ (Int32.toInt64 (p1 / p2)) fu _ hzo4) (cwV 1 hts (gdV mU_1183 mU_1184 mU_1185 mU_74 mU_1186) rfl rfl rfl (by decide +kernel) ⟨Nat.le_of_ble_eq_true rfl, Nat.le_of_ble_eq_true rfl⟩) ⟨z_blind _ _ _ _, va_recv hK hP (ci := 2) (q0 := 72) rfl rfl, fun U hU hW => z_pre [72, 73] hP hD hK hB hS hA rfl rfl hU hW⟩ rfl rfl hl.1 rfl (lv_room (Nat.le_of_ble_eq_true rfl)) dX10_writeQuotient_30 ⟨Nat.le_of_ble_eq_true rfl, Nat.le_of_ble_eq_true rfl⟩) hP hD hS hA rfl (fun _ => rfl) (fun u H locs hw hP hD hS => ?_)
    subst hw
    have hP : va_P (gD g) zCl (wRoot g ad st sv isS hst spare undo zo2.1 zo2.2.1 zo2.2.2 ptx plen ppos pcnt cmds stE stF zo4.1 zo4.2) H := hP
    have hD : va_D A (wRoot g ad st sv isS hst spare undo zo2.1 zo2.2.1 zo2.2.2 ptx plen ppos pcnt cmds stE stF zo4.1 zo4.2) := hD
    refine lv_aload_n hx hb dX10_writeQuotient_33 rfl (lv_at hl 0 rfl) ?_
    refine va_get (D := gD g) (ci := 6) (v := .ref (ad 72)) (C := RX10) (T := TX10) (N := 9) hx hb hts inX10 hown hK hP 0 rfl rfl 8 (by decide) (hts _ mU_285) (fun _ h9 => h9) rfl dX10_writeQuotient_34 ?_
    refine lv_bipush (v := 46) hx hb dX10_writeQuotient_37 (by decide) ?_
    obtain ⟨zo5, hzo5, hF⟩ := z_bind hF
    refine z_callv (fun (u : (Nat → Int32) × Int32) => (wLine g (ad 72) (ad 73) u.1 u.2)) [72, 73] (va_runV (As := [.int 46]) (rest := []) ⟨hx, hb, hml, hown, hts⟩ (c_X4_put l g (ad 72) (ad 73) zo4.1 zo4.2 _ 46 _ hzo5) (cwV 1 hts (gdV mU_1196 mU_1193 mU_1194 mU_74 mU_1195) rfl rfl rfl (by decide +kernel) ⟨Nat.le_of_ble_eq_true rfl, Nat.le_of_ble_eq_true rfl⟩) ⟨z_blind _ _ _ _, va_recv hK hP (ci := 2) (q0 := 72) rfl rfl, fun U hU hW => z_pre [72, 73] hP hD hK hB hS hA rfl rfl hU hW⟩ rfl rfl hl.1 rfl (lv_room (Nat.le_of_ble_eq_true rfl)) dX10_writeQuotient_39 ⟨Nat.le_of_ble_eq_true rfl, Nat.le_of_ble_eq_true rfl⟩) hP hD hS hA rfl (fun _ => rfl) (fun u H locs hw hP hD hS => ?_)
    subst hw
    have hP : va_P (gD g) zCl (wRoot g ad st sv isS hst spare undo zo2.1 zo2.2.1 zo2.2.2 ptx plen ppos pcnt cmds stE stF zo5.1 zo5.2) H := hP
    have hD : va_D A (wRoot g ad st sv isS hst spare undo zo2.1 zo2.2.1 zo2.2.2 ptx plen ppos pcnt cmds stE stF zo5.1 zo5.2) := hD
    refine lv_aload_n hx hb dX10_writeQuotient_42 rfl (lv_at hl 0 rfl) ?_
    refine va_get (D := gD g) (ci := 6) (v := .ref (ad 72)) (C := RX10) (T := TX10) (N := 9) hx hb hts inX10 hown hK hP 0 rfl rfl 8 (by decide) (hts _ mU_285) (fun _ h9 => h9) rfl dX10_writeQuotient_43 ?_
    refine lv_iload_n hx hb dX10_writeQuotient_46 rfl (lv_at hl 1 rfl) ?_
    refine lv_iload_n hx hb dX10_writeQuotient_47 rfl (lv_at hl 2 rfl) ?_
    obtain ⟨zg6, hF⟩ := z_grd hF
    refine lv_irem hx hb dX10_writeQuotient_48 zg6 ?_
    refine lv_iload_n hx hb dX10_writeQuotient_49 rfl (lv_at hl 2 rfl) ?_
    refine lv_aload_n hx hb dX10_writeQuotient_50 rfl (lv_at hl 0 rfl) ?_
    refine va_get (D := gD g) (ci := 6) (v := .ref (ad 58)) (C := RX10) (T := TX10) (N := 9) hx hb hts inX10 hown hK hP 0 rfl rfl 4 (by decide) (hts _ mU_281) (fun _ h9 => h9) rfl dX10_writeQuotient_51 ?_
    refine va_getN (D := gD g) (ci := 3) (v := .int zo2.2.1) (C := RX5) (T := TX5) (N := 3) hx hb hts inX5 hown hK hP 58 rfl rfl 1 (by decide) (va_Nw.use rfl (hB.2.1.1 _ zn_187)) (fun _ h9 => h9) rfl dX10_writeQuotient_54 ?_
    obtain ⟨zo7, hzo7, hF⟩ := z_bind hF
    refine z_calli (fun (u : (Nat → Int32) × Int32) => (wLine g (ad 72) (ad 73) u.1 u.2)) [72, 73] (va_runV (As := [.int (p1 - p1 / p2 * p2), .int p2, .int zo2.2.1]) (rest := []) ⟨hx, hb, hml, hown, hts⟩ (c_X4_putQuotientDigits l g (ad 72) (ad 73) zo5.1 zo5.2 _ (p1 - p1 / p2 * p2) p2 zo2.2.1 fu _ hzo7) (cwV 3 hts (gdV mU_1205 mU_1206 mU_1207 mU_74 mU_1208) rfl rfl rfl (by decide +kernel) ⟨Nat.le_of_ble_eq_true rfl, Nat.le_of_ble_eq_true rfl⟩) ⟨z_blind _ _ _ _, va_recv hK hP (ci := 2) (q0 := 72) rfl rfl, fun U hU hW => z_pre [72, 73] hP hD hK hB hS hA rfl rfl hU hW⟩ rfl rfl hl.1 rfl (lv_room (Nat.le_of_ble_eq_true rfl)) dX10_writeQuotient_57 ⟨Nat.le_of_ble_eq_true rfl, Nat.le_of_ble_eq_true rfl⟩) hP hD hS hA rfl (fun _ => rfl) (fun r u H locs hw hP hD hS => ?_)
    obtain ⟨rfl, rfl⟩ := hw
    have hP : va_P (gD g) zCl (wRoot g ad st sv isS hst spare undo zo2.1 zo2.2.1 zo2.2.2 ptx plen ppos pcnt cmds stE stF zo7.2.1 zo7.2.2) H := hP
    have hD : va_D A (wRoot g ad st sv isS hst spare undo zo2.1 zo2.2.1 zo2.2.2 ptx plen ppos pcnt cmds stE stF zo7.2.1 zo7.2.2) := hD
    refine lv_istore_n (lv' := [(3, .int zo7.1), (0, .ref (ad 0)), (1, .int p1), (2, .int p2)]) hx hb dX10_writeQuotient_60 rfl hl (by decide) rfl (fun ls hl => ?_)
    refine lv_aload_n hx hb dX10_writeQuotient_61 rfl (lv_at hl 1 rfl) ?_
    refine va_get (D := gD g) (ci := 6) (v := .ref (ad 72)) (C := RX10) (T := TX10) (N := 9) hx hb hts inX10 hown hK hP 0 rfl rfl 8 (by decide) (hts _ mU_285) (fun _ h9 => h9) rfl dX10_writeQuotient_62 ?_
    refine lv_bipush (v := 40) hx hb dX10_writeQuotient_65 (by decide) ?_
    obtain ⟨zo8, hzo8, hF⟩ := z_bind hF
    refine z_callv (fun (u : (Nat → Int32) × Int32) => (wLine g (ad 72) (ad 73) u.1 u.2)) [72, 73] (va_runV (As := [.int 40]) (rest := []) ⟨hx, hb, hml, hown, hts⟩ (c_X4_put l g (ad 72) (ad 73) zo7.2.1 zo7.2.2 _ 40 _ hzo8) (cwV 1 hts (gdV mU_1196 mU_1193 mU_1194 mU_74 mU_1195) rfl rfl rfl (by decide +kernel) ⟨Nat.le_of_ble_eq_true rfl, Nat.le_of_ble_eq_true rfl⟩) ⟨z_blind _ _ _ _, va_recv hK hP (ci := 2) (q0 := 72) rfl rfl, fun U hU hW => z_pre [72, 73] hP hD hK hB hS hA rfl rfl hU hW⟩ rfl rfl hl.1 rfl (lv_room (Nat.le_of_ble_eq_true rfl)) dX10_writeQuotient_67 ⟨Nat.le_of_ble_eq_true rfl, Nat.le_of_ble_eq_true rfl⟩) hP hD hS hA rfl (fun _ => rfl) (fun u H locs hw hP hD hS => ?_)
    subst hw
    have hP : va_P (gD g) zCl (wRoot g ad st sv isS hst spare undo zo2.1 zo2.2.1 zo2.2.2 ptx plen ppos pcnt cmds stE stF zo8.1 zo8.2) H := hP
    have hD : va_D A (wRoot g ad st sv isS hst spare undo zo2.1 zo2.2.1 zo2.2.2 ptx plen ppos pcnt cmds stE stF zo8.1 zo8.2) := hD
    refine lv_aload_n hx hb dX10_writeQuotient_70 rfl (lv_at hl 1 rfl) ?_
    refine va_get (D := gD g) (ci := 6) (v := .ref (ad 72)) (C := RX10) (T := TX10) (N := 9) hx hb hts inX10 hown hK hP 0 rfl rfl 8 (by decide) (hts _ mU_285) (fun _ h9 => h9) rfl dX10_writeQuotient_71 ?_
    refine lv_iload_n hx hb dX10_writeQuotient_74 rfl (lv_at hl 0 rfl) ?_
    refine lv_iload_n hx hb dX10_writeQuotient_75 rfl (lv_at hl 3 rfl) ?_
    refine lv_aload_n hx hb dX10_writeQuotient_76 rfl (lv_at hl 1 rfl) ?_
    refine va_get (D := gD g) (ci := 6) (v := .ref (ad 58)) (C := RX10) (T := TX10) (N := 9) hx hb hts inX10 hown hK hP 0 rfl rfl 4 (by decide) (hts _ mU_281) (fun _ h9 => h9) rfl dX10_writeQuotient_77 ?_
    refine va_getN (D := gD g) (ci := 3) (v := .int zo2.2.2) (C := RX5) (T := TX5) (N := 3) hx hb hts inX5 hown hK hP 58 rfl rfl 2 (by decide) (va_Nw.use rfl (hB.2.1.1 _ zn_189)) (fun _ h9 => h9) rfl dX10_writeQuotient_80 ?_
    refine lv_bipush (v := 20) hx hb dX10_writeQuotient_83 (by decide) ?_
    refine va_mmin hx hb (hml.trans hl.1.symm) hown (hts _ mU_792) (hts _ mU_568) (hts _ mU_83) (hts _ mU_569) (Nat.le_of_ble_eq_true rfl) (Nat.le_of_ble_eq_true rfl) (Nat.le_of_ble_eq_true rfl) (Nat.le_of_ble_eq_true rfl) dX10_writeQuotient_85 ?_
    obtain ⟨zo9, hzo9, hF⟩ := z_bind hF
    refine z_calli (fun (u : (Nat → Int32) × Int32) => (wLine g (ad 72) (ad 73) u.1 u.2)) [72, 73] (va_runV (As := [.int zo7.1, .int p2, .int (if 20 < zo2.2.2 then 20 else zo2.2.2)]) (rest := []) ⟨hx, hb, hml, hown, hts⟩ (c_X4_putQuotientDigits l g (ad 72) (ad 73) zo8.1 zo8.2 _ zo7.1 p2 (if 20 < zo2.2.2 then 20 else zo2.2.2) fu _ hzo9) (cwV 3 hts (gdV mU_1205 mU_1206 mU_1207 mU_74 mU_1208) rfl rfl rfl (by decide +kernel) ⟨Nat.le_of_ble_eq_true rfl, Nat.le_of_ble_eq_true rfl⟩) ⟨z_blind _ _ _ _, va_recv hK hP (ci := 2) (q0 := 72) rfl rfl, fun U hU hW => z_pre [72, 73] hP hD hK hB hS hA rfl rfl hU hW⟩ rfl rfl hl.1 rfl (lv_room (Nat.le_of_ble_eq_true rfl)) dX10_writeQuotient_88 ⟨Nat.le_of_ble_eq_true rfl, Nat.le_of_ble_eq_true rfl⟩) hP hD hS hA rfl (fun _ => rfl) (fun r u H locs hw hP hD hS => ?_)
    obtain ⟨rfl, rfl⟩ := hw
    have hP : va_P (gD g) zCl (wRoot g ad st sv isS hst spare undo zo2.1 zo2.2.1 zo2.2.2 ptx plen ppos pcnt cmds stE stF zo9.2.1 zo9.2.2) H := hP
    have hD : va_D A (wRoot g ad st sv isS hst spare undo zo2.1 zo2.2.1 zo2.2.2 ptx plen ppos pcnt cmds stE stF zo9.2.1 zo9.2.2) := hD
    refine lv_pop hx hb dX10_writeQuotient_91 rfl ?_
    refine lv_aload_n hx hb dX10_writeQuotient_92 rfl (lv_at hl 1 rfl) ?_
    refine va_get (D := gD g) (ci := 6) (v := .ref (ad 72)) (C := RX10) (T := TX10) (N := 9) hx hb hts inX10 hown hK hP 0 rfl rfl 8 (by decide) (hts _ mU_285) (fun _ h9 => h9) rfl dX10_writeQuotient_93 ?_
    refine lv_bipush (v := 41) hx hb dX10_writeQuotient_96 (by decide) ?_
    obtain ⟨zo10, hzo10, hF⟩ := z_bind hF
    refine z_callv (fun (u : (Nat → Int32) × Int32) => (wLine g (ad 72) (ad 73) u.1 u.2)) [72, 73] (va_runV (As := [.int 41]) (rest := []) ⟨hx, hb, hml, hown, hts⟩ (c_X4_put l g (ad 72) (ad 73) zo9.2.1 zo9.2.2 _ 41 _ hzo10) (cwV 1 hts (gdV mU_1196 mU_1193 mU_1194 mU_74 mU_1195) rfl rfl rfl (by decide +kernel) ⟨Nat.le_of_ble_eq_true rfl, Nat.le_of_ble_eq_true rfl⟩) ⟨z_blind _ _ _ _, va_recv hK hP (ci := 2) (q0 := 72) rfl rfl, fun U hU hW => z_pre [72, 73] hP hD hK hB hS hA rfl rfl hU hW⟩ rfl rfl hl.1 rfl (lv_room (Nat.le_of_ble_eq_true rfl)) dX10_writeQuotient_98 ⟨Nat.le_of_ble_eq_true rfl, Nat.le_of_ble_eq_true rfl⟩) hP hD hS hA rfl (fun _ => rfl) (fun u H locs hw hP hD hS => ?_)
    subst hw
    have hP : va_P (gD g) zCl (wRoot g ad st sv isS hst spare undo zo2.1 zo2.2.1 zo2.2.2 ptx plen ppos pcnt cmds stE stF zo10.1 zo10.2) H := hP
    have hD : va_D A (wRoot g ad st sv isS hst spare undo zo2.1 zo2.2.1 zo2.2.2 ptx plen ppos pcnt cmds stE stF zo10.1 zo10.2) := hD
    refine lv_aload_n hx hb dX10_writeQuotient_101 rfl (lv_at hl 1 rfl) ?_
    refine va_get (D := gD g) (ci := 6) (v := .ref (ad 72)) (C := RX10) (T := TX10) (N := 9) hx hb hts inX10 hown hK hP 0 rfl rfl 8 (by decide) (hts _ mU_285) (fun _ h9 => h9) rfl dX10_writeQuotient_102 ?_
    refine va_getN (D := gD g) (ci := 2) (v := .int zo10.2) (C := RX4) (T := TX4) (N := 2) hx hb hts inX4 hown hK hP 72 rfl rfl 1 (by decide) (va_Nw.use rfl (hB.2.1.1 _ zn_271)) (fun _ h9 => h9) rfl dX10_writeQuotient_105 ?_
    have ho := (Option.some.inj hF).symm
    refine vx_ret ?_
    exact W.iret (v := zo10.2) hx hb hr (fun t ht hW => ⟨⟨zo10.2, (zo2.1, zo2.2.1, zo2.2.2, zo10.1, zo10.2), rfl, ⟨_, ho, rfl, rfl⟩, z_end ht hP⟩, hS.F ht⟩) hS.2.2 dX10_writeQuotient_108
