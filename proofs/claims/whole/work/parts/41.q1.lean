abbrev w_X10_requirePosition : List Cond := .code yX10_requirePosition cX10_requirePosition 3 (some .int) :: wU
abbrev r_X10_requirePosition : Room := { frames := 6, cells := 1, slots := 6, locals := 82 }
abbrev q_X10_requirePosition (g : GG) (ad : Nat → Nat) (st : SS) (sv : SS) (isS : Int32) (hst : Nat → SS) (spare : Int32) (undo : Int32) (seen : Nat → Int32) (dbef : Int32) (drec : Int32) (ptx : Nat → Int32) (plen : Int32) (ppos : Int32) (pcnt : Int32) (cmds : Nat → CC) (stE : Int32) (stF : Int32) (lch : Nat → Int32) (llen : Int32) (o : Except (Nat × (Unit)) (Int32)) (A : Nat → Prop) := va_Qi (fun (r : Int32) (u : Unit) => ∃ a : Int32, o = .ok a ∧ a = r) (fun u t => va_P (gD g) zCl (wRoot g ad st sv isS hst spare undo seen dbef drec ptx plen ppos pcnt cmds stE stF lch llen) t.heap) A
abbrev x_X10_requirePosition (g : GG) (ad : Nat → Nat) (st : SS) (sv : SS) (isS : Int32) (hst : Nat → SS) (spare : Int32) (undo : Int32) (seen : Nat → Int32) (dbef : Int32) (drec : Int32) (ptx : Nat → Int32) (plen : Int32) (ppos : Int32) (pcnt : Int32) (cmds : Nat → CC) (stE : Int32) (stF : Int32) (lch : Nat → Int32) (llen : Int32) (o : Except (Nat × (Unit)) (Int32)) (A : Nat → Prop) := vx_X (fun (x : Nat × (Unit)) => o = .error x) (fun E x t => E = xN x.1 ∧ va_P (gD g) zCl (wRoot g ad st sv isS hst spare undo seen dbef drec ptx plen ppos pcnt cmds stE stF lch llen) t.heap) A
set_option maxHeartbeats 4000000 in
set_option maxRecDepth 100000 in
theorem c_X10_requirePosition (l : Launch) (hl0 : l.stackTraces = false) (g : GG) (ad : Nat → Nat) (st : SS) (sv : SS) (isS : Int32) (hst : Nat → SS) (spare : Int32) (undo : Int32) (seen : Nat → Int32) (dbef : Int32) (drec : Int32) (ptx : Nat → Int32) (plen : Int32) (ppos : Int32) (pcnt : Int32) (cmds : Nat → CC) (stE : Int32) (stF : Int32) (lch : Nat → Int32) (llen : Int32) (sz : Nat) (p1 : Int32) (fu : Nat) (o : Except (Nat × (Unit)) (Int32)) (hF : F_X10_requirePosition fu st p1 = some o) : vx_Met l yX10_requirePosition w_X10_requirePosition r_X10_requirePosition (va_Pc [.ref (ad 0), .int p1] (zP g (wRoot g ad st sv isS hst spare undo seen dbef drec ptx plen ppos pcnt cmds stE stF lch llen) sz)) (q_X10_requirePosition g ad st sv isS hst spare undo seen dbef drec ptx plen ppos pcnt cmds stE stF lch llen o (va_A (wRoot g ad st sv isS hst spare undo seen dbef drec ptx plen ppos pcnt cmds stE stF lch llen) sz)) (x_X10_requirePosition g ad st sv isS hst spare undo seen dbef drec ptx plen ppos pcnt cmds stE stF lch llen o (va_A (wRoot g ad st sv isS hst spare undo seen dbef drec ptx plen ppos pcnt cmds stE stF lch llen) sz)) 1 6 (va_A (wRoot g ad st sv isS hst spare undo seen dbef drec ptx plen ppos pcnt cmds stE stF lch llen) sz) := by
  refine vx_ofW (cc := cX10_requirePosition) (maxL := 3) (ret := (some .int)) (by decide) rfl ?_
  intro p e s m args below meth c s₁ B hml hnx hv
  obtain ⟨rfl, rfl, hP, hK, hD0, hB⟩ := hv
  have hx := B.exec
  have hb := B.bytes
  have hr := B.returns
  have hts : ∀ w ∈ wU, w.before _ s = true := fun w h => atoms_spec (ws := w_X10_requirePosition) B.pre w (List.mem_cons_of_mem _ h)
  have hown : s.vm.findClass RX10 = some m.cls := findClass_of_methodNamed B.named
  have hlocks := B.notSynchronized
  have hD := hD0.self (sz := s.heap.size)
  generalize hAe : va_A (wRoot g ad st sv isS hst spare undo seen dbef drec ptx plen ppos pcnt cmds stE stF lch llen) s.heap.size = A at hD hB ⊢
  have hA : ∀ q : Nat, s.heap.size ≤ q → A q := fun q h => by rw [← hAe]; exact Or.inr h
  have hS : va_S A s.heap s.heap [] := va_S.rf
  have hl := lv_entry ([.ref (ad 0), .int p1]) (n := 3) (Nat.le_of_ble_eq_true rfl)
  rw [lg_entry_eq]
  generalize (lg_sl ([.ref (ad 0), .int p1]) ++ List.replicate (3 - (lg_sl ([.ref (ad 0), .int p1])).length) Slot.unset).toArray = ls at hl ⊢
  have hl : lv_has ls 3 [(0, .ref (ad 0)), (1, .int p1)] := hl
  unfold F_X10_requirePosition at hF
  have K2 : ∀ (n2 : Nat) (x2 : Int32), F_X10_requirePosition_2 fu n2 st p1 x2 = some o → ∀ (H : Heap) (locs : List Loc) (ls : Array Slot), lv_has ls 3 [(0, .ref (ad 0)), (1, .int p1), (2, .int x2)] → va_P (gD g) zCl (wRoot g ad st sv isS hst spare undo seen dbef drec ptx plen ppos pcnt cmds stE stF lch llen) H → va_D A (wRoot g ad st sv isS hst spare undo seen dbef drec ptx plen ppos pcnt cmds stE stF lch llen) → va_S A s.heap H locs → W p l e (headSpec w_X10_requirePosition r_X10_requirePosition).room s m ([.ref (ad 0), .int p1] : List Value).toArray below meth c H locs 0 0 (vx_MQ below (q_X10_requirePosition g ad st sv isS hst spare undo seen dbef drec ptx plen ppos pcnt cmds stE stF lch llen o A) (x_X10_requirePosition g ad st sv isS hst spare undo seen dbef drec ptx plen ppos pcnt cmds stE stF lch llen o A) ([.ref (ad 0), .int p1] : List Value).toArray s 1 6 A) (F0 m 2 ls []) := by
    intro n2
    induction n2 with
    | zero =>
      intro x2 hF
      exact absurd hF (by simp [F_X10_requirePosition_2])
    | succ n2 ih2 =>
      intro x2 hF H locs ls hl hP hD hS
      unfold F_X10_requirePosition_2 at hF
      refine lv_iload_n hx hb dX10_requirePosition_2 rfl (lv_at hl 2 rfl) ?_
      refine lv_aload_n hx hb dX10_requirePosition_3 rfl (lv_at hl 0 rfl) ?_
      refine va_get (D := gD g) (ci := 6) (v := .ref (ad 1)) (C := RX10) (T := TX10) (N := 9) hx hb hts inX10 hown hK hP 0 rfl rfl 0 (by decide) (hts _ mU_277) (fun _ h9 => h9) rfl dX10_requirePosition_4 ?_
      refine va_getN (D := gD g) (ci := 5) (v := .int (s_cnt st)) (C := RX8) (T := TX8) (N := 11) hx hb hts inX8 hown hK hP 1 rfl rfl 4 (by decide) (va_Nw.use rfl (hB.2.1.1 _ zn_123)) (fun _ h9 => h9) rfl dX10_requirePosition_7 ?_
      refine lv_icmp_ge (tgt := 34) hx hb dX10_requirePosition_10 (by decide) (fun zc1 => ?_) (fun zc1 => ?_)
      · have hF := z_pos hF zc1
        have ho := (Option.some.inj hF).symm
        obtain ⟨sa, hsa⟩ := hB.2.1.2.2.1 (420, "no number with this id") (by decide +kernel)
        exact zx_throw hx hb hl0 (text := "no number with this id") hown (hts _ mU_703) (hts _ mU_90) hsa (zat_380 hts hB) zgo_380 hB.1.1 hB.1.2 hS (hl.1.trans hml.symm) dX10_requirePosition_34 dX10_requirePosition_37 dX10_requirePosition_38 dX10_requirePosition_41 dX10_requirePosition_44 (fun x hx => (hnx x hx).elim) (Nat.le_of_ble_eq_true rfl) (Nat.le_of_ble_eq_true rfl) (Nat.le_of_ble_eq_true rfl) (Nat.le_of_ble_eq_true rfl) hlocks (fun t ha hz hk => ⟨(3, ()), ho, ⟨rfl, (z_thr hP hS hz hk).1⟩, (z_thr hP hS hz hk).2⟩) hS.2.2 (Nat.le_of_ble_eq_true rfl) (Nat.le_of_ble_eq_true rfl)
      · have hF := z_neg hF zc1
        refine lv_aload_n hx hb dX10_requirePosition_13 rfl (lv_at hl 0 rfl) ?_
        refine va_get (D := gD g) (ci := 6) (v := .ref (ad 1)) (C := RX10) (T := TX10) (N := 9) hx hb hts inX10 hown hK hP 0 rfl rfl 0 (by decide) (hts _ mU_277) (fun _ h9 => h9) rfl dX10_requirePosition_14 ?_
        refine va_getN (D := gD g) (ci := 5) (v := .ref (ad 2)) (C := RX8) (T := TX8) (N := 11) hx hb hts inX8 hown hK hP 1 rfl rfl 0 (by decide) (va_Nw.use rfl (hB.2.1.1 _ zn_113)) (fun _ h9 => h9) rfl dX10_requirePosition_17 ?_
        refine lv_iload_n hx hb dX10_requirePosition_20 rfl (lv_at hl 2 rfl) ?_
        obtain ⟨zg2, hF⟩ := z_grd hF
        refine va_iald hx hb hK hP 2 1 rfl rfl zg2 dX10_requirePosition_21 ?_
        refine lv_iload_n hx hb dX10_requirePosition_22 rfl (lv_at hl 1 rfl) ?_
        refine lv_icmp_ne (tgt := 28) hx hb dX10_requirePosition_23 (by decide) (fun zc3 => ?_) (fun zc3 => ?_)
        · have hF := z_neg hF zc3
          obtain ⟨zv4, ezv4, hF⟩ := z_let hF
          refine lv_iinc (v := zv4) (lv' := [(2, .int zv4), (0, .ref (ad 0)), (1, .int p1)]) hx hb dX10_requirePosition_28 hl (k := 2) rfl (by rw [ezv4]; rfl) (by decide) rfl (fun ls hl => ?_)
          refine lv_goto (tgt := 2) hx hb dX10_requirePosition_31 (by decide) ?_
          exact ih2 zv4 hF _ _ _ (lv_sub hl [1, 2, 0] rfl) hP hD hS
        · have hF := z_pos hF zc3
          refine lv_iload_n hx hb dX10_requirePosition_26 rfl (lv_at hl 2 rfl) ?_
          have ho := (Option.some.inj hF).symm
          refine vx_ret ?_
          refine W.widen (k := 1) (n := 6) (Nat.le_of_ble_eq_true rfl) (Nat.le_of_ble_eq_true rfl) ?_
          exact W.iret (v := x2) hx hb hr (fun t ht hW => ⟨⟨x2, (), rfl, ⟨_, ho, rfl⟩, z_end ht hP⟩, hS.F ht⟩) hS.2.2 dX10_requirePosition_27
  refine lv_iconst (v := 0) hx hb dX10_requirePosition_0 (by decide) ?_
  refine lv_istore_n (lv' := [(2, .int 0), (0, .ref (ad 0)), (1, .int p1)]) hx hb dX10_requirePosition_1 rfl hl (by decide) rfl (fun ls hl => ?_)
  exact K2 fu 0 hF _ _ _ (lv_sub hl [1, 2, 0] rfl) hP hD hS
abbrev w_X10_requireRoom : List Cond := .code yX10_requireRoom cX10_requireRoom 1 none :: wU
abbrev r_X10_requireRoom : Room := { frames := 6, cells := 1, slots := 6, locals := 82 }
abbrev q_X10_requireRoom (g : GG) (ad : Nat → Nat) (st : SS) (sv : SS) (isS : Int32) (hst : Nat → SS) (spare : Int32) (undo : Int32) (seen : Nat → Int32) (dbef : Int32) (drec : Int32) (ptx : Nat → Int32) (plen : Int32) (ppos : Int32) (pcnt : Int32) (cmds : Nat → CC) (stE : Int32) (stF : Int32) (lch : Nat → Int32) (llen : Int32) (o : Except (Nat × (Unit)) (Unit)) (A : Nat → Prop) := va_Qv (fun (u : Unit) => ∃ a : Unit, o = .ok a ∧ () = u) (fun u t => va_P (gD g) zCl (wRoot g ad st sv isS hst spare undo seen dbef drec ptx plen ppos pcnt cmds stE stF lch llen) t.heap) A
abbrev x_X10_requireRoom (g : GG) (ad : Nat → Nat) (st : SS) (sv : SS) (isS : Int32) (hst : Nat → SS) (spare : Int32) (undo : Int32) (seen : Nat → Int32) (dbef : Int32) (drec : Int32) (ptx : Nat → Int32) (plen : Int32) (ppos : Int32) (pcnt : Int32) (cmds : Nat → CC) (stE : Int32) (stF : Int32) (lch : Nat → Int32) (llen : Int32) (o : Except (Nat × (Unit)) (Unit)) (A : Nat → Prop) := vx_X (fun (x : Nat × (Unit)) => o = .error x) (fun E x t => E = xN x.1 ∧ va_P (gD g) zCl (wRoot g ad st sv isS hst spare undo seen dbef drec ptx plen ppos pcnt cmds stE stF lch llen) t.heap) A
set_option maxHeartbeats 4000000 in
set_option maxRecDepth 100000 in
theorem c_X10_requireRoom (l : Launch) (hl0 : l.stackTraces = false) (g : GG) (ad : Nat → Nat) (st : SS) (sv : SS) (isS : Int32) (hst : Nat → SS) (spare : Int32) (undo : Int32) (seen : Nat → Int32) (dbef : Int32) (drec : Int32) (ptx : Nat → Int32) (plen : Int32) (ppos : Int32) (pcnt : Int32) (cmds : Nat → CC) (stE : Int32) (stF : Int32) (lch : Nat → Int32) (llen : Int32) (sz : Nat) (o : Except (Nat × (Unit)) (Unit)) (hF : F_X10_requireRoom st = some o) : vx_Met l yX10_requireRoom w_X10_requireRoom r_X10_requireRoom (va_Pc [.ref (ad 0)] (zP g (wRoot g ad st sv isS hst spare undo seen dbef drec ptx plen ppos pcnt cmds stE stF lch llen) sz)) (q_X10_requireRoom g ad st sv isS hst spare undo seen dbef drec ptx plen ppos pcnt cmds stE stF lch llen o (va_A (wRoot g ad st sv isS hst spare undo seen dbef drec ptx plen ppos pcnt cmds stE stF lch llen) sz)) (x_X10_requireRoom g ad st sv isS hst spare undo seen dbef drec ptx plen ppos pcnt cmds stE stF lch llen o (va_A (wRoot g ad st sv isS hst spare undo seen dbef drec ptx plen ppos pcnt cmds stE stF lch llen) sz)) 1 6 (va_A (wRoot g ad st sv isS hst spare undo seen dbef drec ptx plen ppos pcnt cmds stE stF lch llen) sz) := by
  refine vx_ofW (cc := cX10_requireRoom) (maxL := 1) (ret := none) (by decide) rfl ?_
  intro p e s m args below meth c s₁ B hml hnx hv
  obtain ⟨rfl, rfl, hP, hK, hD0, hB⟩ := hv
  have hx := B.exec
  have hb := B.bytes
  have hr := B.returns
  have hts : ∀ w ∈ wU, w.before _ s = true := fun w h => atoms_spec (ws := w_X10_requireRoom) B.pre w (List.mem_cons_of_mem _ h)
  have hown : s.vm.findClass RX10 = some m.cls := findClass_of_methodNamed B.named
  have hlocks := B.notSynchronized
  have hD := hD0.self (sz := s.heap.size)
  generalize hAe : va_A (wRoot g ad st sv isS hst spare undo seen dbef drec ptx plen ppos pcnt cmds stE stF lch llen) s.heap.size = A at hD hB ⊢
  have hA : ∀ q : Nat, s.heap.size ≤ q → A q := fun q h => by rw [← hAe]; exact Or.inr h
  have hS : va_S A s.heap s.heap [] := va_S.rf
  have hl := lv_entry ([.ref (ad 0)]) (n := 1) (Nat.le_of_ble_eq_true rfl)
  rw [lg_entry_eq]
  generalize (lg_sl ([.ref (ad 0)]) ++ List.replicate (1 - (lg_sl ([.ref (ad 0)])).length) Slot.unset).toArray = ls at hl ⊢
  have hl : lv_has ls 1 [(0, .ref (ad 0))] := hl
  unfold F_X10_requireRoom at hF
  refine lv_aload_n hx hb dX10_requireRoom_0 rfl (lv_at hl 0 rfl) ?_
  refine va_get (D := gD g) (ci := 6) (v := .ref (ad 1)) (C := RX10) (T := TX10) (N := 9) hx hb hts inX10 hown hK hP 0 rfl rfl 0 (by decide) (hts _ mU_277) (fun _ h9 => h9) rfl dX10_requireRoom_1 ?_
  refine va_getN (D := gD g) (ci := 5) (v := .int (s_cnt st)) (C := RX8) (T := TX8) (N := 11) hx hb hts inX8 hown hK hP 1 rfl rfl 4 (by decide) (va_Nw.use rfl (hB.2.1.1 _ zn_123)) (fun _ h9 => h9) rfl dX10_requireRoom_4 ?_
  refine lv_bipush (v := 6) hx hb dX10_requireRoom_7 (by decide) ?_
  refine lv_icmp_lt (tgt := 23) hx hb dX10_requireRoom_9 (by decide) (fun zc1 => ?_) (fun zc1 => ?_)
  · have hF := z_pos hF zc1
    have ho := (Option.some.inj hF).symm
    refine vx_ret ?_
    refine W.widen (k := 1) (n := 6) (Nat.le_of_ble_eq_true rfl) (Nat.le_of_ble_eq_true rfl) ?_
    exact W.vret hx hb hr (fun t ht hW => ⟨⟨(), rfl, ⟨_, ho, rfl⟩, z_end ht hP⟩, hS.F ht⟩) hS.2.2 dX10_requireRoom_23
  · have hF := z_neg hF zc1
    have ho := (Option.some.inj hF).symm
    obtain ⟨sa, hsa⟩ := hB.2.1.2.2.1 (422, "there are 6 numbers") (by decide +kernel)
    exact vx_throwSW hx hb hl0 (own := RX10) (cls := "java/lang/IllegalStateException") (text := "there are 6 numbers") (names := ["java/lang/RuntimeException", "java/lang/Exception"]) hown (by decide +kernel) (by decide +kernel) (hts _ mU_627) (hts _ mU_87) hsa (zat_161 hts hB) zgo_161 hB.1.1 hB.1.2 hS (hl.1.trans hml.symm) dX10_requireRoom_12 dX10_requireRoom_15 dX10_requireRoom_16 dX10_requireRoom_19 dX10_requireRoom_22 (fun x hx => (hnx x hx).elim) (Nat.le_of_ble_eq_true rfl) (Nat.le_of_ble_eq_true rfl) (Nat.le_of_ble_eq_true rfl) (Nat.le_of_ble_eq_true rfl) hlocks (fun t ha hz hk => ⟨(1, ()), ho, ⟨rfl, (z_thr hP hS hz hk).1⟩, (z_thr hP hS hz hk).2⟩) hS.2.2 (Nat.le_of_ble_eq_true rfl) (Nat.le_of_ble_eq_true rfl)
abbrev w_X10_count : List Cond := .code yX10_count cX10_count 1 (some .int) :: wU
abbrev r_X10_count : Room := { frames := 0, cells := 0, slots := 0, locals := 0 }
abbrev q_X10_count (g : GG) (ad : Nat → Nat) (st : SS) (sv : SS) (isS : Int32) (hst : Nat → SS) (spare : Int32) (undo : Int32) (seen : Nat → Int32) (dbef : Int32) (drec : Int32) (ptx : Nat → Int32) (plen : Int32) (ppos : Int32) (pcnt : Int32) (cmds : Nat → CC) (stE : Int32) (stF : Int32) (lch : Nat → Int32) (llen : Int32) (o : Int32) (A : Nat → Prop) := va_Qi (fun (r : Int32) (u : Unit) => o = r) (fun u t => va_P (gD g) zCl (wRoot g ad st sv isS hst spare undo seen dbef drec ptx plen ppos pcnt cmds stE stF lch llen) t.heap) A
set_option maxHeartbeats 4000000 in
set_option maxRecDepth 100000 in
theorem c_X10_count (l : Launch) (g : GG) (ad : Nat → Nat) (st : SS) (sv : SS) (isS : Int32) (hst : Nat → SS) (spare : Int32) (undo : Int32) (seen : Nat → Int32) (dbef : Int32) (drec : Int32) (ptx : Nat → Int32) (plen : Int32) (ppos : Int32) (pcnt : Int32) (cmds : Nat → CC) (stE : Int32) (stF : Int32) (lch : Nat → Int32) (llen : Int32) (sz : Nat) (o : Int32) (hF : F_X10_count st = some o) : Met l yX10_count w_X10_count r_X10_count (va_Pc [.ref (ad 0)] (zP g (wRoot g ad st sv isS hst spare undo seen dbef drec ptx plen ppos pcnt cmds stE stF lch llen) sz)) (q_X10_count g ad st sv isS hst spare undo seen dbef drec ptx plen ppos pcnt cmds stE stF lch llen o (va_A (wRoot g ad st sv isS hst spare undo seen dbef drec ptx plen ppos pcnt cmds stE stF lch llen) sz)) 0 0 (va_A (wRoot g ad st sv isS hst spare undo seen dbef drec ptx plen ppos pcnt cmds stE stF lch llen) sz) := by
  refine Met.ofW (cc := cX10_count) (maxL := 1) (ret := (some .int)) (by decide) rfl ?_
  intro p e s m args below meth c s₁ B hml hv
  obtain ⟨rfl, rfl, hP, hK, hD0, hB⟩ := hv
  have hx := B.exec
  have hb := B.bytes
  have hr := B.returns
  have hts : ∀ w ∈ wU, w.before _ s = true := fun w h => atoms_spec (ws := w_X10_count) B.pre w (List.mem_cons_of_mem _ h)
  have hown : s.vm.findClass RX10 = some m.cls := findClass_of_methodNamed B.named
  have hlocks := B.notSynchronized
  have hD := hD0.self (sz := s.heap.size)
  generalize hAe : va_A (wRoot g ad st sv isS hst spare undo seen dbef drec ptx plen ppos pcnt cmds stE stF lch llen) s.heap.size = A at hD hB ⊢
  have hA : ∀ q : Nat, s.heap.size ≤ q → A q := fun q h => by rw [← hAe]; exact Or.inr h
  have hS : va_S A s.heap s.heap [] := va_S.rf
  have hl := lv_entry ([.ref (ad 0)]) (n := 1) (Nat.le_of_ble_eq_true rfl)
  rw [lg_entry_eq]
  generalize (lg_sl ([.ref (ad 0)]) ++ List.replicate (1 - (lg_sl ([.ref (ad 0)])).length) Slot.unset).toArray = ls at hl ⊢
  have hl : lv_has ls 1 [(0, .ref (ad 0))] := hl
  unfold F_X10_count at hF
  refine lv_aload_n hx hb dX10_count_0 rfl (lv_at hl 0 rfl) ?_
  refine va_get (D := gD g) (ci := 6) (v := .ref (ad 1)) (C := RX10) (T := TX10) (N := 9) hx hb hts inX10 hown hK hP 0 rfl rfl 0 (by decide) (hts _ mU_277) (fun _ h9 => h9) rfl dX10_count_1 ?_
  refine va_getN (D := gD g) (ci := 5) (v := .int (s_cnt st)) (C := RX8) (T := TX8) (N := 11) hx hb hts inX8 hown hK hP 1 rfl rfl 4 (by decide) (va_Nw.use rfl (hB.2.1.1 _ zn_123)) (fun _ h9 => h9) rfl dX10_count_4 ?_
  have ho := (Option.some.inj hF).symm
  exact W.iret (v := (s_cnt st)) hx hb hr (fun t ht hW => ⟨⟨(s_cnt st), (), rfl, ho, z_end ht hP⟩, hS.F ht⟩) hS.2.2 dX10_count_7
abbrev w_X10_numberAt : List Cond := .code yX10_numberAt cX10_numberAt 2 (some .int) :: wU
abbrev r_X10_numberAt : Room := { frames := 6, cells := 1, slots := 6, locals := 82 }
abbrev q_X10_numberAt (g : GG) (ad : Nat → Nat) (st : SS) (sv : SS) (isS : Int32) (hst : Nat → SS) (spare : Int32) (undo : Int32) (seen : Nat → Int32) (dbef : Int32) (drec : Int32) (ptx : Nat → Int32) (plen : Int32) (ppos : Int32) (pcnt : Int32) (cmds : Nat → CC) (stE : Int32) (stF : Int32) (lch : Nat → Int32) (llen : Int32) (o : Except (Nat × (Unit)) (Int32)) (A : Nat → Prop) := va_Qi (fun (r : Int32) (u : Unit) => ∃ a : Int32, o = .ok a ∧ a = r) (fun u t => va_P (gD g) zCl (wRoot g ad st sv isS hst spare undo seen dbef drec ptx plen ppos pcnt cmds stE stF lch llen) t.heap) A
abbrev x_X10_numberAt (g : GG) (ad : Nat → Nat) (st : SS) (sv : SS) (isS : Int32) (hst : Nat → SS) (spare : Int32) (undo : Int32) (seen : Nat → Int32) (dbef : Int32) (drec : Int32) (ptx : Nat → Int32) (plen : Int32) (ppos : Int32) (pcnt : Int32) (cmds : Nat → CC) (stE : Int32) (stF : Int32) (lch : Nat → Int32) (llen : Int32) (o : Except (Nat × (Unit)) (Int32)) (A : Nat → Prop) := vx_X (fun (x : Nat × (Unit)) => o = .error x) (fun E x t => E = xN x.1 ∧ va_P (gD g) zCl (wRoot g ad st sv isS hst spare undo seen dbef drec ptx plen ppos pcnt cmds stE stF lch llen) t.heap) A
set_option maxHeartbeats 4000000 in
set_option maxRecDepth 100000 in
theorem c_X10_numberAt (l : Launch) (hl0 : l.stackTraces = false) (g : GG) (ad : Nat → Nat) (st : SS) (sv : SS) (isS : Int32) (hst : Nat → SS) (spare : Int32) (undo : Int32) (seen : Nat → Int32) (dbef : Int32) (drec : Int32) (ptx : Nat → Int32) (plen : Int32) (ppos : Int32) (pcnt : Int32) (cmds : Nat → CC) (stE : Int32) (stF : Int32) (lch : Nat → Int32) (llen : Int32) (sz : Nat) (p1 : Int32) (o : Except (Nat × (Unit)) (Int32)) (hF : F_X10_numberAt st p1 = some o) : vx_Met l yX10_numberAt w_X10_numberAt r_X10_numberAt (va_Pc [.ref (ad 0), .int p1] (zP g (wRoot g ad st sv isS hst spare undo seen dbef drec ptx plen ppos pcnt cmds stE stF lch llen) sz)) (q_X10_numberAt g ad st sv isS hst spare undo seen dbef drec ptx plen ppos pcnt cmds stE stF lch llen o (va_A (wRoot g ad st sv isS hst spare undo seen dbef drec ptx plen ppos pcnt cmds stE stF lch llen) sz)) (x_X10_numberAt g ad st sv isS hst spare undo seen dbef drec ptx plen ppos pcnt cmds stE stF lch llen o (va_A (wRoot g ad st sv isS hst spare undo seen dbef drec ptx plen ppos pcnt cmds stE stF lch llen) sz)) 1 6 (va_A (wRoot g ad st sv isS hst spare undo seen dbef drec ptx plen ppos pcnt cmds stE stF lch llen) sz) := by
  refine vx_ofW (cc := cX10_numberAt) (maxL := 2) (ret := (some .int)) (by decide) rfl ?_
  intro p e s m args below meth c s₁ B hml hnx hv
  obtain ⟨rfl, rfl, hP, hK, hD0, hB⟩ := hv
  have hx := B.exec
  have hb := B.bytes
  have hr := B.returns
  have hts : ∀ w ∈ wU, w.before _ s = true := fun w h => atoms_spec (ws := w_X10_numberAt) B.pre w (List.mem_cons_of_mem _ h)
  have hown : s.vm.findClass RX10 = some m.cls := findClass_of_methodNamed B.named
  have hlocks := B.notSynchronized
  have hD := hD0.self (sz := s.heap.size)
  generalize hAe : va_A (wRoot g ad st sv isS hst spare undo seen dbef drec ptx plen ppos pcnt cmds stE stF lch llen) s.heap.size = A at hD hB ⊢
  have hA : ∀ q : Nat, s.heap.size ≤ q → A q := fun q h => by rw [← hAe]; exact Or.inr h
  have hS : va_S A s.heap s.heap [] := va_S.rf
  have hl := lv_entry ([.ref (ad 0), .int p1]) (n := 2) (Nat.le_of_ble_eq_true rfl)
  rw [lg_entry_eq]
  generalize (lg_sl ([.ref (ad 0), .int p1]) ++ List.replicate (2 - (lg_sl ([.ref (ad 0), .int p1])).length) Slot.unset).toArray = ls at hl ⊢
  have hl : lv_has ls 2 [(0, .ref (ad 0)), (1, .int p1)] := hl
  unfold F_X10_numberAt at hF
  refine lv_iload_n hx hb dX10_numberAt_0 rfl (lv_at hl 1 rfl) ?_
  refine lv_if_lt (tgt := 15) hx hb dX10_numberAt_1 (by decide) (fun zc1 => ?_) (fun zc1 => ?_)
  · have hF := z_pos hF zc1
    have ho := (Option.some.inj hF).symm
    obtain ⟨sa, hsa⟩ := hB.2.1.2.2.1 (201, "no number at this position") (by decide +kernel)
    exact vx_throwS hx hb hl0 (own := RX10) (cls := "java/lang/IndexOutOfBoundsException") (text := "no number at this position") (names := ["java/lang/RuntimeException", "java/lang/Exception"]) hown (by decide +kernel) (by decide +kernel) (hts _ mU_824) (hts _ mU_93) hsa (zat_203 hts hB) zgo_203 hB.1.1 hB.1.2 hS (hl.1.trans hml.symm) dX10_numberAt_15 dX10_numberAt_18 dX10_numberAt_19 dX10_numberAt_21 dX10_numberAt_24 (fun x hx => (hnx x hx).elim) (Nat.le_of_ble_eq_true rfl) (Nat.le_of_ble_eq_true rfl) (Nat.le_of_ble_eq_true rfl) (Nat.le_of_ble_eq_true rfl) hlocks (fun t ha hz hk => ⟨(4, ()), ho, ⟨rfl, (z_thr hP hS hz hk).1⟩, (z_thr hP hS hz hk).2⟩) hS.2.2 (Nat.le_of_ble_eq_true rfl) (Nat.le_of_ble_eq_true rfl)
  · have hF := z_neg hF zc1
    refine lv_iload_n hx hb dX10_numberAt_4 rfl (lv_at hl 1 rfl) ?_
    refine lv_aload_n hx hb dX10_numberAt_5 rfl (lv_at hl 0 rfl) ?_
    refine va_get (D := gD g) (ci := 6) (v := .ref (ad 1)) (C := RX10) (T := TX10) (N := 9) hx hb hts inX10 hown hK hP 0 rfl rfl 0 (by decide) (hts _ mU_277) (fun _ h9 => h9) rfl dX10_numberAt_6 ?_
    refine va_getN (D := gD g) (ci := 5) (v := .int (s_cnt st)) (C := RX8) (T := TX8) (N := 11) hx hb hts inX8 hown hK hP 1 rfl rfl 4 (by decide) (va_Nw.use rfl (hB.2.1.1 _ zn_123)) (fun _ h9 => h9) rfl dX10_numberAt_9 ?_
    refine lv_icmp_lt (tgt := 25) hx hb dX10_numberAt_12 (by decide) (fun zc2 => ?_) (fun zc2 => ?_)
    · have hF := z_pos hF zc2
      refine lv_aload_n hx hb dX10_numberAt_25 rfl (lv_at hl 0 rfl) ?_
      refine va_get (D := gD g) (ci := 6) (v := .ref (ad 1)) (C := RX10) (T := TX10) (N := 9) hx hb hts inX10 hown hK hP 0 rfl rfl 0 (by decide) (hts _ mU_277) (fun _ h9 => h9) rfl dX10_numberAt_26 ?_
      refine va_getN (D := gD g) (ci := 5) (v := .ref (ad 2)) (C := RX8) (T := TX8) (N := 11) hx hb hts inX8 hown hK hP 1 rfl rfl 0 (by decide) (va_Nw.use rfl (hB.2.1.1 _ zn_113)) (fun _ h9 => h9) rfl dX10_numberAt_29 ?_
      refine lv_iload_n hx hb dX10_numberAt_32 rfl (lv_at hl 1 rfl) ?_
      obtain ⟨zg3, hF⟩ := z_grd hF
      refine va_iald hx hb hK hP 2 1 rfl rfl zg3 dX10_numberAt_33 ?_
      have ho := (Option.some.inj hF).symm
      refine vx_ret ?_
      refine W.widen (k := 1) (n := 6) (Nat.le_of_ble_eq_true rfl) (Nat.le_of_ble_eq_true rfl) ?_
      exact W.iret (v := ((s_ids st) (Int32.toNatClampNeg p1))) hx hb hr (fun t ht hW => ⟨⟨((s_ids st) (Int32.toNatClampNeg p1)), (), rfl, ⟨_, ho, rfl⟩, z_end ht hP⟩, hS.F ht⟩) hS.2.2 dX10_numberAt_34
    · have hF := z_neg hF zc2
      have ho := (Option.some.inj hF).symm
      obtain ⟨sa, hsa⟩ := hB.2.1.2.2.1 (201, "no number at this position") (by decide +kernel)
      exact vx_throwS hx hb hl0 (own := RX10) (cls := "java/lang/IndexOutOfBoundsException") (text := "no number at this position") (names := ["java/lang/RuntimeException", "java/lang/Exception"]) hown (by decide +kernel) (by decide +kernel) (hts _ mU_824) (hts _ mU_93) hsa (zat_203 hts hB) zgo_203 hB.1.1 hB.1.2 hS (hl.1.trans hml.symm) dX10_numberAt_15 dX10_numberAt_18 dX10_numberAt_19 dX10_numberAt_21 dX10_numberAt_24 (fun x hx => (hnx x hx).elim) (Nat.le_of_ble_eq_true rfl) (Nat.le_of_ble_eq_true rfl) (Nat.le_of_ble_eq_true rfl) (Nat.le_of_ble_eq_true rfl) hlocks (fun t ha hz hk => ⟨(4, ()), ho, ⟨rfl, (z_thr hP hS hz hk).1⟩, (z_thr hP hS hz hk).2⟩) hS.2.2 (Nat.le_of_ble_eq_true rfl) (Nat.le_of_ble_eq_true rfl)
abbrev w_X10_value : List Cond := .code yX10_value cX10_value 2 (some .long) :: wU
abbrev r_X10_value : Room := { frames := 7, cells := 1, slots := 6, locals := 104 }
abbrev q_X10_value (g : GG) (ad : Nat → Nat) (st : SS) (sv : SS) (isS : Int32) (hst : Nat → SS) (spare : Int32) (undo : Int32) (seen : Nat → Int32) (dbef : Int32) (drec : Int32) (ptx : Nat → Int32) (plen : Int32) (ppos : Int32) (pcnt : Int32) (cmds : Nat → CC) (stE : Int32) (stF : Int32) (lch : Nat → Int32) (llen : Int32) (o : Except (Nat × (Unit)) (Int64)) (A : Nat → Prop) := va_Ql (fun (r : Int64) (u : Unit) => ∃ a : Int64, o = .ok a ∧ a = r) (fun u t => va_P (gD g) zCl (wRoot g ad st sv isS hst spare undo seen dbef drec ptx plen ppos pcnt cmds stE stF lch llen) t.heap) A
abbrev x_X10_value (g : GG) (ad : Nat → Nat) (st : SS) (sv : SS) (isS : Int32) (hst : Nat → SS) (spare : Int32) (undo : Int32) (seen : Nat → Int32) (dbef : Int32) (drec : Int32) (ptx : Nat → Int32) (plen : Int32) (ppos : Int32) (pcnt : Int32) (cmds : Nat → CC) (stE : Int32) (stF : Int32) (lch : Nat → Int32) (llen : Int32) (o : Except (Nat × (Unit)) (Int64)) (A : Nat → Prop) := vx_X (fun (x : Nat × (Unit)) => o = .error x) (fun E x t => E = xN x.1 ∧ va_P (gD g) zCl (wRoot g ad st sv isS hst spare undo seen dbef drec ptx plen ppos pcnt cmds stE stF lch llen) t.heap) A
set_option maxHeartbeats 4000000 in
set_option maxRecDepth 100000 in
theorem c_X10_value (l : Launch) (hl0 : l.stackTraces = false) (g : GG) (ad : Nat → Nat) (st : SS) (sv : SS) (isS : Int32) (hst : Nat → SS) (spare : Int32) (undo : Int32) (seen : Nat → Int32) (dbef : Int32) (drec : Int32) (ptx : Nat → Int32) (plen : Int32) (ppos : Int32) (pcnt : Int32) (cmds : Nat → CC) (stE : Int32) (stF : Int32) (lch : Nat → Int32) (llen : Int32) (sz : Nat) (p1 : Int32) (fu : Nat) (o : Except (Nat × (Unit)) (Int64)) (hF : F_X10_value fu st p1 = some o) : vx_Met l yX10_value w_X10_value r_X10_value (va_Pc [.ref (ad 0), .int p1] (zP g (wRoot g ad st sv isS hst spare undo seen dbef drec ptx plen ppos pcnt cmds stE stF lch llen) sz)) (q_X10_value g ad st sv isS hst spare undo seen dbef drec ptx plen ppos pcnt cmds stE stF lch llen o (va_A (wRoot g ad st sv isS hst spare undo seen dbef drec ptx plen ppos pcnt cmds stE stF lch llen) sz)) (x_X10_value g ad st sv isS hst spare undo seen dbef drec ptx plen ppos pcnt cmds stE stF lch llen o (va_A (wRoot g ad st sv isS hst spare undo seen dbef drec ptx plen ppos pcnt cmds stE stF lch llen) sz)) 1 6 (va_A (wRoot g ad st sv isS hst spare undo seen dbef drec ptx plen ppos pcnt cmds stE stF lch llen) sz) := by
  refine vx_ofW (cc := cX10_value) (maxL := 2) (ret := (some .long)) (by decide) rfl ?_
  intro p e s m args below meth c s₁ B hml hnx hv
  obtain ⟨rfl, rfl, hP, hK, hD0, hB⟩ := hv
  have hx := B.exec
  have hb := B.bytes
  have hr := B.returns
  have hts : ∀ w ∈ wU, w.before _ s = true := fun w h => atoms_spec (ws := w_X10_value) B.pre w (List.mem_cons_of_mem _ h)
  have hown : s.vm.findClass RX10 = some m.cls := findClass_of_methodNamed B.named
  have hlocks := B.notSynchronized
  have hD := hD0.self (sz := s.heap.size)
  generalize hAe : va_A (wRoot g ad st sv isS hst spare undo seen dbef drec ptx plen ppos pcnt cmds stE stF lch llen) s.heap.size = A at hD hB ⊢
  have hA : ∀ q : Nat, s.heap.size ≤ q → A q := fun q h => by rw [← hAe]; exact Or.inr h
  have hS : va_S A s.heap s.heap [] := va_S.rf
  have hl := lv_entry ([.ref (ad 0), .int p1]) (n := 2) (Nat.le_of_ble_eq_true rfl)
  rw [lg_entry_eq]
  generalize (lg_sl ([.ref (ad 0), .int p1]) ++ List.replicate (2 - (lg_sl ([.ref (ad 0), .int p1])).length) Slot.unset).toArray = ls at hl ⊢
  have hl : lv_has ls 2 [(0, .ref (ad 0)), (1, .int p1)] := hl
  unfold F_X10_value at hF
  refine lv_aload_n hx hb dX10_value_0 rfl (lv_at hl 0 rfl) ?_
  refine va_get (D := gD g) (ci := 6) (v := .ref (ad 1)) (C := RX10) (T := TX10) (N := 9) hx hb hts inX10 hown hK hP 0 rfl rfl 0 (by decide) (hts _ mU_277) (fun _ h9 => h9) rfl dX10_value_1 ?_
  refine va_getN (D := gD g) (ci := 5) (v := .ref (ad 3)) (C := RX8) (T := TX8) (N := 11) hx hb hts inX8 hown hK hP 1 rfl rfl 1 (by decide) (va_Nw.use rfl (hB.2.1.1 _ zn_116)) (fun _ h9 => h9) rfl dX10_value_4 ?_
  refine lv_aload_n hx hb dX10_value_7 rfl (lv_at hl 0 rfl) ?_
  refine lv_iload_n hx hb dX10_value_8 rfl (lv_at hl 1 rfl) ?_
  obtain ⟨zo1, hzo1, hF⟩ := z_bind hF
  refine z_calliXE (fun (_ : Unit) => (wRoot g ad st sv isS hst spare undo seen dbef drec ptx plen ppos pcnt cmds stE stF lch llen)) (fun (x : Nat × (Unit)) => (wRoot g ad st sv isS hst spare undo seen dbef drec ptx plen ppos pcnt cmds stE stF lch llen)) (fun (x : Nat × (Unit)) => xN x.1) (vx_runV (As := [.int p1]) (rest := [.ref (ad 3)]) ⟨hx, hb, hml, hown, hts⟩ (c_X10_requirePosition l hl0 g ad st sv isS hst spare undo seen dbef drec ptx plen ppos pcnt cmds stE stF lch llen _ p1 fu _ hzo1) (cwV 1 hts (gdV mU_699 mU_701 mU_7 mU_66 mU_702) rfl rfl rfl (by decide +kernel) ⟨Nat.le_of_ble_eq_true rfl, Nat.le_of_ble_eq_true rfl⟩) ⟨z_blind _ _ _ _, va_recv hK hP (ci := 6) (q0 := 0) rfl rfl, fun U hU hW => z_preE hP hD hK hB hS hA hU hW⟩ rfl rfl hl.1 rfl (lv_room (Nat.le_of_ble_eq_true rfl)) dX10_value_9 ⟨Nat.le_of_ble_eq_true rfl, Nat.le_of_ble_eq_true rfl⟩) hD hS hA (fun _ => rfl) (fun _ => rfl) (fun zw1 ce q9 H locs hw hP hD hS hq1 hq2 hq3 => ?_) (fun r u H locs hw hP hD hS => ?_)
  · subst hw
    have hF : _ = some o := hF
    have hP : va_P (gD g) zCl (wRoot g ad st sv isS hst spare undo seen dbef drec ptx plen ppos pcnt cmds stE stF lch llen) H := hP
    have hD : va_D A (wRoot g ad st sv isS hst spare undo seen dbef drec ptx plen ppos pcnt cmds stE stF lch llen) := hD
    have hF := z_err hF
    have ho := (Option.some.inj hF).symm
    exact vx_out (fun x hx => (hnx x hx).elim) hlocks hq1 hq2 hq3 (fun t ht hvm => ⟨(zw1.1, ()), ho, ⟨rfl, z_end ht hP⟩, hS.F ht⟩) hS.2.2 (Nat.le_of_ble_eq_true rfl) (Nat.le_of_ble_eq_true rfl)
  · obtain ⟨za1, rfl, rfl⟩ := hw
    have hF := z_okk hF
    have hP : va_P (gD g) zCl (wRoot g ad st sv isS hst spare undo seen dbef drec ptx plen ppos pcnt cmds stE stF lch llen) H := hP
    have hD : va_D A (wRoot g ad st sv isS hst spare undo seen dbef drec ptx plen ppos pcnt cmds stE stF lch llen) := hD
    obtain ⟨zg2, hF⟩ := z_grd hF
    refine va_lald hx hb hK hP 3 2 rfl rfl zg2 dX10_value_12 ?_
    have ho := (Option.some.inj hF).symm
    refine vx_ret ?_
    exact W.lret (v := ((s_vals st) (Int32.toNatClampNeg za1))) hx hb hr (fun t ht hW => ⟨⟨((s_vals st) (Int32.toNatClampNeg za1)), (), rfl, ⟨_, ho, rfl⟩, z_end ht hP⟩, hS.F ht⟩) hS.2.2 dX10_value_13
abbrev w_X10_scale : List Cond := .code yX10_scale cX10_scale 2 (some .int) :: wU
abbrev r_X10_scale : Room := { frames := 7, cells := 1, slots := 6, locals := 104 }
abbrev q_X10_scale (g : GG) (ad : Nat → Nat) (st : SS) (sv : SS) (isS : Int32) (hst : Nat → SS) (spare : Int32) (undo : Int32) (seen : Nat → Int32) (dbef : Int32) (drec : Int32) (ptx : Nat → Int32) (plen : Int32) (ppos : Int32) (pcnt : Int32) (cmds : Nat → CC) (stE : Int32) (stF : Int32) (lch : Nat → Int32) (llen : Int32) (o : Except (Nat × (Unit)) (Int32)) (A : Nat → Prop) := va_Qi (fun (r : Int32) (u : Unit) => ∃ a : Int32, o = .ok a ∧ a = r) (fun u t => va_P (gD g) zCl (wRoot g ad st sv isS hst spare undo seen dbef drec ptx plen ppos pcnt cmds stE stF lch llen) t.heap) A
abbrev x_X10_scale (g : GG) (ad : Nat → Nat) (st : SS) (sv : SS) (isS : Int32) (hst : Nat → SS) (spare : Int32) (undo : Int32) (seen : Nat → Int32) (dbef : Int32) (drec : Int32) (ptx : Nat → Int32) (plen : Int32) (ppos : Int32) (pcnt : Int32) (cmds : Nat → CC) (stE : Int32) (stF : Int32) (lch : Nat → Int32) (llen : Int32) (o : Except (Nat × (Unit)) (Int32)) (A : Nat → Prop) := vx_X (fun (x : Nat × (Unit)) => o = .error x) (fun E x t => E = xN x.1 ∧ va_P (gD g) zCl (wRoot g ad st sv isS hst spare undo seen dbef drec ptx plen ppos pcnt cmds stE stF lch llen) t.heap) A
set_option maxHeartbeats 4000000 in
set_option maxRecDepth 100000 in
theorem c_X10_scale (l : Launch) (hl0 : l.stackTraces = false) (g : GG) (ad : Nat → Nat) (st : SS) (sv : SS) (isS : Int32) (hst : Nat → SS) (spare : Int32) (undo : Int32) (seen : Nat → Int32) (dbef : Int32) (drec : Int32) (ptx : Nat → Int32) (plen : Int32) (ppos : Int32) (pcnt : Int32) (cmds : Nat → CC) (stE : Int32) (stF : Int32) (lch : Nat → Int32) (llen : Int32) (sz : Nat) (p1 : Int32) (fu : Nat) (o : Except (Nat × (Unit)) (Int32)) (hF : F_X10_scale fu st p1 = some o) : vx_Met l yX10_scale w_X10_scale r_X10_scale (va_Pc [.ref (ad 0), .int p1] (zP g (wRoot g ad st sv isS hst spare undo seen dbef drec ptx plen ppos pcnt cmds stE stF lch llen) sz)) (q_X10_scale g ad st sv isS hst spare undo seen dbef drec ptx plen ppos pcnt cmds stE stF lch llen o (va_A (wRoot g ad st sv isS hst spare undo seen dbef drec ptx plen ppos pcnt cmds stE stF lch llen) sz)) (x_X10_scale g ad st sv isS hst spare undo seen dbef drec ptx plen ppos pcnt cmds stE stF lch llen o (va_A (wRoot g ad st sv isS hst spare undo seen dbef drec ptx plen ppos pcnt cmds stE stF lch llen) sz)) 1 6 (va_A (wRoot g ad st sv isS hst spare undo seen dbef drec ptx plen ppos pcnt cmds stE stF lch llen) sz) := by
  refine vx_ofW (cc := cX10_scale) (maxL := 2) (ret := (some .int)) (by decide) rfl ?_
  intro p e s m args below meth c s₁ B hml hnx hv
  obtain ⟨rfl, rfl, hP, hK, hD0, hB⟩ := hv
  have hx := B.exec
  have hb := B.bytes
  have hr := B.returns
  have hts : ∀ w ∈ wU, w.before _ s = true := fun w h => atoms_spec (ws := w_X10_scale) B.pre w (List.mem_cons_of_mem _ h)
  have hown : s.vm.findClass RX10 = some m.cls := findClass_of_methodNamed B.named
  have hlocks := B.notSynchronized
  have hD := hD0.self (sz := s.heap.size)
  generalize hAe : va_A (wRoot g ad st sv isS hst spare undo seen dbef drec ptx plen ppos pcnt cmds stE stF lch llen) s.heap.size = A at hD hB ⊢
  have hA : ∀ q : Nat, s.heap.size ≤ q → A q := fun q h => by rw [← hAe]; exact Or.inr h
  have hS : va_S A s.heap s.heap [] := va_S.rf
  have hl := lv_entry ([.ref (ad 0), .int p1]) (n := 2) (Nat.le_of_ble_eq_true rfl)
  rw [lg_entry_eq]
  generalize (lg_sl ([.ref (ad 0), .int p1]) ++ List.replicate (2 - (lg_sl ([.ref (ad 0), .int p1])).length) Slot.unset).toArray = ls at hl ⊢
  have hl : lv_has ls 2 [(0, .ref (ad 0)), (1, .int p1)] := hl
  unfold F_X10_scale at hF
  refine lv_aload_n hx hb dX10_scale_0 rfl (lv_at hl 0 rfl) ?_
  refine va_get (D := gD g) (ci := 6) (v := .ref (ad 1)) (C := RX10) (T := TX10) (N := 9) hx hb hts inX10 hown hK hP 0 rfl rfl 0 (by decide) (hts _ mU_277) (fun _ h9 => h9) rfl dX10_scale_1 ?_
  refine va_getN (D := gD g) (ci := 5) (v := .ref (ad 4)) (C := RX8) (T := TX8) (N := 11) hx hb hts inX8 hown hK hP 1 rfl rfl 2 (by decide) (va_Nw.use rfl (hB.2.1.1 _ zn_118)) (fun _ h9 => h9) rfl dX10_scale_4 ?_
  refine lv_aload_n hx hb dX10_scale_7 rfl (lv_at hl 0 rfl) ?_
  refine lv_iload_n hx hb dX10_scale_8 rfl (lv_at hl 1 rfl) ?_
  obtain ⟨zo1, hzo1, hF⟩ := z_bind hF
  refine z_calliXE (fun (_ : Unit) => (wRoot g ad st sv isS hst spare undo seen dbef drec ptx plen ppos pcnt cmds stE stF lch llen)) (fun (x : Nat × (Unit)) => (wRoot g ad st sv isS hst spare undo seen dbef drec ptx plen ppos pcnt cmds stE stF lch llen)) (fun (x : Nat × (Unit)) => xN x.1) (vx_runV (As := [.int p1]) (rest := [.ref (ad 4)]) ⟨hx, hb, hml, hown, hts⟩ (c_X10_requirePosition l hl0 g ad st sv isS hst spare undo seen dbef drec ptx plen ppos pcnt cmds stE stF lch llen _ p1 fu _ hzo1) (cwV 1 hts (gdV mU_699 mU_701 mU_7 mU_66 mU_702) rfl rfl rfl (by decide +kernel) ⟨Nat.le_of_ble_eq_true rfl, Nat.le_of_ble_eq_true rfl⟩) ⟨z_blind _ _ _ _, va_recv hK hP (ci := 6) (q0 := 0) rfl rfl, fun U hU hW => z_preE hP hD hK hB hS hA hU hW⟩ rfl rfl hl.1 rfl (lv_room (Nat.le_of_ble_eq_true rfl)) dX10_scale_9 ⟨Nat.le_of_ble_eq_true rfl, Nat.le_of_ble_eq_true rfl⟩) hD hS hA (fun _ => rfl) (fun _ => rfl) (fun zw1 ce q9 H locs hw hP hD hS hq1 hq2 hq3 => ?_) (fun r u H locs hw hP hD hS => ?_)
  · subst hw
    have hF : _ = some o := hF
    have hP : va_P (gD g) zCl (wRoot g ad st sv isS hst spare undo seen dbef drec ptx plen ppos pcnt cmds stE stF lch llen) H := hP
    have hD : va_D A (wRoot g ad st sv isS hst spare undo seen dbef drec ptx plen ppos pcnt cmds stE stF lch llen) := hD
    have hF := z_err hF
    have ho := (Option.some.inj hF).symm
    exact vx_out (fun x hx => (hnx x hx).elim) hlocks hq1 hq2 hq3 (fun t ht hvm => ⟨(zw1.1, ()), ho, ⟨rfl, z_end ht hP⟩, hS.F ht⟩) hS.2.2 (Nat.le_of_ble_eq_true rfl) (Nat.le_of_ble_eq_true rfl)
  · obtain ⟨za1, rfl, rfl⟩ := hw
    have hF := z_okk hF
    have hP : va_P (gD g) zCl (wRoot g ad st sv isS hst spare undo seen dbef drec ptx plen ppos pcnt cmds stE stF lch llen) H := hP
    have hD : va_D A (wRoot g ad st sv isS hst spare undo seen dbef drec ptx plen ppos pcnt cmds stE stF lch llen) := hD
    obtain ⟨zg2, hF⟩ := z_grd hF
    refine va_iald hx hb hK hP 4 1 rfl rfl zg2 dX10_scale_12 ?_
    have ho := (Option.some.inj hF).symm
    refine vx_ret ?_
    exact W.iret (v := ((s_scs st) (Int32.toNatClampNeg za1))) hx hb hr (fun t ht hW => ⟨⟨((s_scs st) (Int32.toNatClampNeg za1)), (), rfl, ⟨_, ho, rfl⟩, z_end ht hP⟩, hS.F ht⟩) hS.2.2 dX10_scale_13
abbrev w_X10_mode : List Cond := .code yX10_mode cX10_mode 2 (some .char) :: wU
abbrev r_X10_mode : Room := { frames := 7, cells := 1, slots := 6, locals := 104 }
abbrev q_X10_mode (g : GG) (ad : Nat → Nat) (st : SS) (sv : SS) (isS : Int32) (hst : Nat → SS) (spare : Int32) (undo : Int32) (seen : Nat → Int32) (dbef : Int32) (drec : Int32) (ptx : Nat → Int32) (plen : Int32) (ppos : Int32) (pcnt : Int32) (cmds : Nat → CC) (stE : Int32) (stF : Int32) (lch : Nat → Int32) (llen : Int32) (o : Except (Nat × (Unit)) (Int32)) (A : Nat → Prop) := va_Qi (fun (r : Int32) (u : Unit) => ∃ a : Int32, o = .ok a ∧ a = r) (fun u t => va_P (gD g) zCl (wRoot g ad st sv isS hst spare undo seen dbef drec ptx plen ppos pcnt cmds stE stF lch llen) t.heap) A
abbrev x_X10_mode (g : GG) (ad : Nat → Nat) (st : SS) (sv : SS) (isS : Int32) (hst : Nat → SS) (spare : Int32) (undo : Int32) (seen : Nat → Int32) (dbef : Int32) (drec : Int32) (ptx : Nat → Int32) (plen : Int32) (ppos : Int32) (pcnt : Int32) (cmds : Nat → CC) (stE : Int32) (stF : Int32) (lch : Nat → Int32) (llen : Int32) (o : Except (Nat × (Unit)) (Int32)) (A : Nat → Prop) := vx_X (fun (x : Nat × (Unit)) => o = .error x) (fun E x t => E = xN x.1 ∧ va_P (gD g) zCl (wRoot g ad st sv isS hst spare undo seen dbef drec ptx plen ppos pcnt cmds stE stF lch llen) t.heap) A
set_option maxHeartbeats 4000000 in
set_option maxRecDepth 100000 in
theorem c_X10_mode (l : Launch) (hl0 : l.stackTraces = false) (g : GG) (ad : Nat → Nat) (st : SS) (sv : SS) (isS : Int32) (hst : Nat → SS) (spare : Int32) (undo : Int32) (seen : Nat → Int32) (dbef : Int32) (drec : Int32) (ptx : Nat → Int32) (plen : Int32) (ppos : Int32) (pcnt : Int32) (cmds : Nat → CC) (stE : Int32) (stF : Int32) (lch : Nat → Int32) (llen : Int32) (sz : Nat) (p1 : Int32) (fu : Nat) (o : Except (Nat × (Unit)) (Int32)) (hF : F_X10_mode fu st p1 = some o) : vx_Met l yX10_mode w_X10_mode r_X10_mode (va_Pc [.ref (ad 0), .int p1] (zP g (wRoot g ad st sv isS hst spare undo seen dbef drec ptx plen ppos pcnt cmds stE stF lch llen) sz)) (q_X10_mode g ad st sv isS hst spare undo seen dbef drec ptx plen ppos pcnt cmds stE stF lch llen o (va_A (wRoot g ad st sv isS hst spare undo seen dbef drec ptx plen ppos pcnt cmds stE stF lch llen) sz)) (x_X10_mode g ad st sv isS hst spare undo seen dbef drec ptx plen ppos pcnt cmds stE stF lch llen o (va_A (wRoot g ad st sv isS hst spare undo seen dbef drec ptx plen ppos pcnt cmds stE stF lch llen) sz)) 1 6 (va_A (wRoot g ad st sv isS hst spare undo seen dbef drec ptx plen ppos pcnt cmds stE stF lch llen) sz) := by
  refine vx_ofW (cc := cX10_mode) (maxL := 2) (ret := (some .char)) (by decide) rfl ?_
  intro p e s m args below meth c s₁ B hml hnx hv
  obtain ⟨rfl, rfl, hP, hK, hD0, hB⟩ := hv
  have hx := B.exec
  have hb := B.bytes
  have hr := B.returns
  have hts : ∀ w ∈ wU, w.before _ s = true := fun w h => atoms_spec (ws := w_X10_mode) B.pre w (List.mem_cons_of_mem _ h)
  have hown : s.vm.findClass RX10 = some m.cls := findClass_of_methodNamed B.named
  have hlocks := B.notSynchronized
  have hD := hD0.self (sz := s.heap.size)
  generalize hAe : va_A (wRoot g ad st sv isS hst spare undo seen dbef drec ptx plen ppos pcnt cmds stE stF lch llen) s.heap.size = A at hD hB ⊢
  have hA : ∀ q : Nat, s.heap.size ≤ q → A q := fun q h => by rw [← hAe]; exact Or.inr h
  have hS : va_S A s.heap s.heap [] := va_S.rf
  have hl := lv_entry ([.ref (ad 0), .int p1]) (n := 2) (Nat.le_of_ble_eq_true rfl)
  rw [lg_entry_eq]
  generalize (lg_sl ([.ref (ad 0), .int p1]) ++ List.replicate (2 - (lg_sl ([.ref (ad 0), .int p1])).length) Slot.unset).toArray = ls at hl ⊢
  have hl : lv_has ls 2 [(0, .ref (ad 0)), (1, .int p1)] := hl
  unfold F_X10_mode at hF
  refine lv_aload_n hx hb dX10_mode_0 rfl (lv_at hl 0 rfl) ?_
  refine va_get (D := gD g) (ci := 6) (v := .ref (ad 1)) (C := RX10) (T := TX10) (N := 9) hx hb hts inX10 hown hK hP 0 rfl rfl 0 (by decide) (hts _ mU_277) (fun _ h9 => h9) rfl dX10_mode_1 ?_
  refine va_getN (D := gD g) (ci := 5) (v := .ref (ad 5)) (C := RX8) (T := TX8) (N := 11) hx hb hts inX8 hown hK hP 1 rfl rfl 3 (by decide) (va_Nw.use rfl (hB.2.1.1 _ zn_120)) (fun _ h9 => h9) rfl dX10_mode_4 ?_
  refine lv_aload_n hx hb dX10_mode_7 rfl (lv_at hl 0 rfl) ?_
  refine lv_iload_n hx hb dX10_mode_8 rfl (lv_at hl 1 rfl) ?_
  obtain ⟨zo1, hzo1, hF⟩ := z_bind hF
  refine z_calliXE (fun (_ : Unit) => (wRoot g ad st sv isS hst spare undo seen dbef drec ptx plen ppos pcnt cmds stE stF lch llen)) (fun (x : Nat × (Unit)) => (wRoot g ad st sv isS hst spare undo seen dbef drec ptx plen ppos pcnt cmds stE stF lch llen)) (fun (x : Nat × (Unit)) => xN x.1) (vx_runV (As := [.int p1]) (rest := [.ref (ad 5)]) ⟨hx, hb, hml, hown, hts⟩ (c_X10_requirePosition l hl0 g ad st sv isS hst spare undo seen dbef drec ptx plen ppos pcnt cmds stE stF lch llen _ p1 fu _ hzo1) (cwV 1 hts (gdV mU_699 mU_701 mU_7 mU_66 mU_702) rfl rfl rfl (by decide +kernel) ⟨Nat.le_of_ble_eq_true rfl, Nat.le_of_ble_eq_true rfl⟩) ⟨z_blind _ _ _ _, va_recv hK hP (ci := 6) (q0 := 0) rfl rfl, fun U hU hW => z_preE hP hD hK hB hS hA hU hW⟩ rfl rfl hl.1 rfl (lv_room (Nat.le_of_ble_eq_true rfl)) dX10_mode_9 ⟨Nat.le_of_ble_eq_true rfl, Nat.le_of_ble_eq_true rfl⟩) hD hS hA (fun _ => rfl) (fun _ => rfl) (fun zw1 ce q9 H locs hw hP hD hS hq1 hq2 hq3 => ?_) (fun r u H locs hw hP hD hS => ?_)
  · subst hw
    have hF : _ = some o := hF
    have hP : va_P (gD g) zCl (wRoot g ad st sv isS hst spare undo seen dbef drec ptx plen ppos pcnt cmds stE stF lch llen) H := hP
    have hD : va_D A (wRoot g ad st sv isS hst spare undo seen dbef drec ptx plen ppos pcnt cmds stE stF lch llen) := hD
    have hF := z_err hF
    have ho := (Option.some.inj hF).symm
    exact vx_out (fun x hx => (hnx x hx).elim) hlocks hq1 hq2 hq3 (fun t ht hvm => ⟨(zw1.1, ()), ho, ⟨rfl, z_end ht hP⟩, hS.F ht⟩) hS.2.2 (Nat.le_of_ble_eq_true rfl) (Nat.le_of_ble_eq_true rfl)
  · obtain ⟨za1, rfl, rfl⟩ := hw
    have hF := z_okk hF
    have hP : va_P (gD g) zCl (wRoot g ad st sv isS hst spare undo seen dbef drec ptx plen ppos pcnt cmds stE stF lch llen) H := hP
    have hD : va_D A (wRoot g ad st sv isS hst spare undo seen dbef drec ptx plen ppos pcnt cmds stE stF lch llen) := hD
    obtain ⟨zg2, hF⟩ := z_grd hF
    refine va_cald hx hb hK hP 5 0 rfl rfl zg2 dX10_mode_12 ?_
    obtain ⟨zg3, hF⟩ := z_grd hF
    have ho := (Option.some.inj hF).symm
    refine vx_ret ?_
    exact W.zret (v := ((s_mds st) (Int32.toNatClampNeg za1))) hx hb hr (z_narc (Classical.not_not.mp zg3)).1 (fun t ht hW => ⟨⟨((s_mds st) (Int32.toNatClampNeg za1)), (), rfl, ⟨_, ho, rfl⟩, z_end ht hP⟩, hS.F ht⟩) hS.2.2 dX10_mode_13
abbrev w_X10_digit : List Cond := .code yX10_digit cX10_digit 4 (some .int) :: wU
abbrev r_X10_digit : Room := { frames := 7, cells := 2, slots := 12, locals := 104 }
abbrev q_X10_digit (g : GG) (ad : Nat → Nat) (st : SS) (sv : SS) (isS : Int32) (hst : Nat → SS) (spare : Int32) (undo : Int32) (seen : Nat → Int32) (dbef : Int32) (drec : Int32) (ptx : Nat → Int32) (plen : Int32) (ppos : Int32) (pcnt : Int32) (cmds : Nat → CC) (stE : Int32) (stF : Int32) (lch : Nat → Int32) (llen : Int32) (o : Except (Nat × (Unit)) (Int32)) (A : Nat → Prop) := va_Qi (fun (r : Int32) (u : Unit) => ∃ a : Int32, o = .ok a ∧ a = r) (fun u t => va_P (gD g) zCl (wRoot g ad st sv isS hst spare undo seen dbef drec ptx plen ppos pcnt cmds stE stF lch llen) t.heap) A
abbrev x_X10_digit (g : GG) (ad : Nat → Nat) (st : SS) (sv : SS) (isS : Int32) (hst : Nat → SS) (spare : Int32) (undo : Int32) (seen : Nat → Int32) (dbef : Int32) (drec : Int32) (ptx : Nat → Int32) (plen : Int32) (ppos : Int32) (pcnt : Int32) (cmds : Nat → CC) (stE : Int32) (stF : Int32) (lch : Nat → Int32) (llen : Int32) (o : Except (Nat × (Unit)) (Int32)) (A : Nat → Prop) := vx_X (fun (x : Nat × (Unit)) => o = .error x) (fun E x t => E = xN x.1 ∧ va_P (gD g) zCl (wRoot g ad st sv isS hst spare undo seen dbef drec ptx plen ppos pcnt cmds stE stF lch llen) t.heap) A
set_option maxHeartbeats 4000000 in
set_option maxRecDepth 100000 in
theorem c_X10_digit (l : Launch) (hl0 : l.stackTraces = false) (g : GG) (ad : Nat → Nat) (st : SS) (sv : SS) (isS : Int32) (hst : Nat → SS) (spare : Int32) (undo : Int32) (seen : Nat → Int32) (dbef : Int32) (drec : Int32) (ptx : Nat → Int32) (plen : Int32) (ppos : Int32) (pcnt : Int32) (cmds : Nat → CC) (stE : Int32) (stF : Int32) (lch : Nat → Int32) (llen : Int32) (sz : Nat) (p1 : Int32) (p2 : Int32) (fu : Nat) (o : Except (Nat × (Unit)) (Int32)) (hF : F_X10_digit fu st p1 p2 = some o) : vx_Met l yX10_digit w_X10_digit r_X10_digit (va_Pc [.ref (ad 0), .int p1, .int p2] (zP g (wRoot g ad st sv isS hst spare undo seen dbef drec ptx plen ppos pcnt cmds stE stF lch llen) sz)) (q_X10_digit g ad st sv isS hst spare undo seen dbef drec ptx plen ppos pcnt cmds stE stF lch llen o (va_A (wRoot g ad st sv isS hst spare undo seen dbef drec ptx plen ppos pcnt cmds stE stF lch llen) sz)) (x_X10_digit g ad st sv isS hst spare undo seen dbef drec ptx plen ppos pcnt cmds stE stF lch llen o (va_A (wRoot g ad st sv isS hst spare undo seen dbef drec ptx plen ppos pcnt cmds stE stF lch llen) sz)) 2 12 (va_A (wRoot g ad st sv isS hst spare undo seen dbef drec ptx plen ppos pcnt cmds stE stF lch llen) sz) := by
  refine vx_ofW (cc := cX10_digit) (maxL := 4) (ret := (some .int)) (by decide) rfl ?_
  intro p e s m args below meth c s₁ B hml hnx hv
  obtain ⟨rfl, rfl, hP, hK, hD0, hB⟩ := hv
  have hx := B.exec
  have hb := B.bytes
  have hr := B.returns
  have hts : ∀ w ∈ wU, w.before _ s = true := fun w h => atoms_spec (ws := w_X10_digit) B.pre w (List.mem_cons_of_mem _ h)
  have hown : s.vm.findClass RX10 = some m.cls := findClass_of_methodNamed B.named
  have hlocks := B.notSynchronized
  have hD := hD0.self (sz := s.heap.size)
  generalize hAe : va_A (wRoot g ad st sv isS hst spare undo seen dbef drec ptx plen ppos pcnt cmds stE stF lch llen) s.heap.size = A at hD hB ⊢
  have hA : ∀ q : Nat, s.heap.size ≤ q → A q := fun q h => by rw [← hAe]; exact Or.inr h
  have hS : va_S A s.heap s.heap [] := va_S.rf
  have hl := lv_entry ([.ref (ad 0), .int p1, .int p2]) (n := 4) (Nat.le_of_ble_eq_true rfl)
  rw [lg_entry_eq]
  generalize (lg_sl ([.ref (ad 0), .int p1, .int p2]) ++ List.replicate (4 - (lg_sl ([.ref (ad 0), .int p1, .int p2])).length) Slot.unset).toArray = ls at hl ⊢
  have hl : lv_has ls 4 [(0, .ref (ad 0)), (1, .int p1), (2, .int p2)] := hl
  unfold F_X10_digit at hF
  refine lv_aload_n hx hb dX10_digit_0 rfl (lv_at hl 0 rfl) ?_
  refine lv_iload_n hx hb dX10_digit_1 rfl (lv_at hl 1 rfl) ?_
  obtain ⟨zo1, hzo1, hF⟩ := z_bind hF
  refine z_calliXE (fun (_ : Unit) => (wRoot g ad st sv isS hst spare undo seen dbef drec ptx plen ppos pcnt cmds stE stF lch llen)) (fun (x : Nat × (Unit)) => (wRoot g ad st sv isS hst spare undo seen dbef drec ptx plen ppos pcnt cmds stE stF lch llen)) (fun (x : Nat × (Unit)) => xN x.1) (vx_runV (As := [.int p1]) (rest := []) ⟨hx, hb, hml, hown, hts⟩ (c_X10_requirePosition l hl0 g ad st sv isS hst spare undo seen dbef drec ptx plen ppos pcnt cmds stE stF lch llen _ p1 fu _ hzo1) (cwV 1 hts (gdV mU_699 mU_701 mU_7 mU_66 mU_702) rfl rfl rfl (by decide +kernel) ⟨Nat.le_of_ble_eq_true rfl, Nat.le_of_ble_eq_true rfl⟩) ⟨z_blind _ _ _ _, va_recv hK hP (ci := 6) (q0 := 0) rfl rfl, fun U hU hW => z_preE hP hD hK hB hS hA hU hW⟩ rfl rfl hl.1 rfl (lv_room (Nat.le_of_ble_eq_true rfl)) dX10_digit_2 ⟨Nat.le_of_ble_eq_true rfl, Nat.le_of_ble_eq_true rfl⟩) hD hS hA (fun _ => rfl) (fun _ => rfl) (fun zw1 ce q9 H locs hw hP hD hS hq1 hq2 hq3 => ?_) (fun r u H locs hw hP hD hS => ?_)
  · subst hw
    have hF : _ = some o := hF
    have hP : va_P (gD g) zCl (wRoot g ad st sv isS hst spare undo seen dbef drec ptx plen ppos pcnt cmds stE stF lch llen) H := hP
    have hD : va_D A (wRoot g ad st sv isS hst spare undo seen dbef drec ptx plen ppos pcnt cmds stE stF lch llen) := hD
    have hF := z_err hF
    have ho := (Option.some.inj hF).symm
    exact vx_out (fun x hx => (hnx x hx).elim) hlocks hq1 hq2 hq3 (fun t ht hvm => ⟨(zw1.1, ()), ho, ⟨rfl, z_end ht hP⟩, hS.F ht⟩) hS.2.2 (Nat.le_of_ble_eq_true rfl) (Nat.le_of_ble_eq_true rfl)
  · obtain ⟨za1, rfl, rfl⟩ := hw
    have hF := z_okk hF
    have hP : va_P (gD g) zCl (wRoot g ad st sv isS hst spare undo seen dbef drec ptx plen ppos pcnt cmds stE stF lch llen) H := hP
    have hD : va_D A (wRoot g ad st sv isS hst spare undo seen dbef drec ptx plen ppos pcnt cmds stE stF lch llen) := hD
    refine lv_istore_n (lv' := [(3, .int za1), (0, .ref (ad 0)), (1, .int p1), (2, .int p2)]) hx hb dX10_digit_5 rfl hl (by decide) rfl (fun ls hl => ?_)
    refine lv_iload_n hx hb dX10_digit_6 rfl (lv_at hl 3 rfl) ?_
    refine lv_bipush (v := (-4)) hx hb dX10_digit_7 (by decide) ?_
    refine lv_icmp_lt (tgt := 18) hx hb dX10_digit_9 (by decide) (fun zc2 => ?_) (fun zc2 => ?_)
    · have hF := z_pos hF zc2
      have ho := (Option.some.inj hF).symm
      obtain ⟨sa, hsa⟩ := hB.2.1.2.2.1 (207, "no such place") (by decide +kernel)
      exact vx_throwS hx hb hl0 (own := RX10) (cls := "java/lang/IndexOutOfBoundsException") (text := "no such place") (names := ["java/lang/RuntimeException", "java/lang/Exception"]) hown (by decide +kernel) (by decide +kernel) (hts _ mU_824) (hts _ mU_93) hsa (zat_203 hts hB) zgo_203 hB.1.1 hB.1.2 hS (hl.1.trans hml.symm) dX10_digit_18 dX10_digit_21 dX10_digit_22 dX10_digit_24 dX10_digit_27 (fun x hx => (hnx x hx).elim) (Nat.le_of_ble_eq_true rfl) (Nat.le_of_ble_eq_true rfl) (Nat.le_of_ble_eq_true rfl) (Nat.le_of_ble_eq_true rfl) hlocks (fun t ha hz hk => ⟨(4, ()), ho, ⟨rfl, (z_thr hP hS hz hk).1⟩, (z_thr hP hS hz hk).2⟩) hS.2.2 (Nat.le_of_ble_eq_true rfl) (Nat.le_of_ble_eq_true rfl)
    · have hF := z_neg hF zc2
      refine lv_iload_n hx hb dX10_digit_12 rfl (lv_at hl 3 rfl) ?_
      refine lv_bipush (v := 6) hx hb dX10_digit_13 (by decide) ?_
      refine lv_icmp_lt (tgt := 28) hx hb dX10_digit_15 (by decide) (fun zc3 => ?_) (fun zc3 => ?_)
      · have hF := z_pos hF zc3
        refine lv_aload_n hx hb dX10_digit_28 rfl (lv_at hl 1 rfl) ?_
        refine va_get (D := gD g) (ci := 6) (v := .ref (ad 1)) (C := RX10) (T := TX10) (N := 9) hx hb hts inX10 hown hK hP 0 rfl rfl 0 (by decide) (hts _ mU_277) (fun _ h9 => h9) rfl dX10_digit_29 ?_
        refine va_getN (D := gD g) (ci := 5) (v := .ref (ad 3)) (C := RX8) (T := TX8) (N := 11) hx hb hts inX8 hown hK hP 1 rfl rfl 1 (by decide) (va_Nw.use rfl (hB.2.1.1 _ zn_116)) (fun _ h9 => h9) rfl dX10_digit_32 ?_
        refine lv_iload_n hx hb dX10_digit_35 rfl (lv_at hl 0 rfl) ?_
        obtain ⟨zg4, hF⟩ := z_grd hF
        refine va_lald hx hb hK hP 3 2 rfl rfl zg4 dX10_digit_36 ?_
        refine lv_iload_n hx hb dX10_digit_37 rfl (lv_at hl 3 rfl) ?_
        refine lv_iconst (v := 4) hx hb dX10_digit_38 (by decide) ?_
        refine lv_iadd hx hb dX10_digit_39 ?_
        obtain ⟨zo5, hzo5, hF⟩ := z_bind hF
        refine z_calli (fun (_ : Unit) => []) [] (va_runS (As := [.long ((s_vals st) (Int32.toNatClampNeg za1)), .int (p2 + 4)]) (rest := []) ⟨hx, hb, hml, hown, hts⟩ (c_X10_digitAt l g _ ((s_vals st) (Int32.toNatClampNeg za1)) (p2 + 4) fu _ hzo5) (va_cwS 2 hts (gdS mU_406 mU_407 mU_66 mU_408) rfl rfl rfl (by decide +kernel) ⟨Nat.le_of_ble_eq_true rfl, Nat.le_of_ble_eq_true rfl⟩) ⟨z_blind _ _ _ _, fun U hU hW => z_pre [] hP hD hK hB hS hA rfl rfl hU hW⟩ rfl rfl hl.1 rfl (lv_room (Nat.le_of_ble_eq_true rfl)) dX10_digit_40 ⟨Nat.le_of_ble_eq_true rfl, Nat.le_of_ble_eq_true rfl⟩) hP hD hS hA rfl (fun _ => rfl) (fun r u H locs hw hP hD hS => ?_)
        subst hw
        have hP : va_P (gD g) zCl (wRoot g ad st sv isS hst spare undo seen dbef drec ptx plen ppos pcnt cmds stE stF lch llen) H := hP
        have hD : va_D A (wRoot g ad st sv isS hst spare undo seen dbef drec ptx plen ppos pcnt cmds stE stF lch llen) := hD
        have ho := (Option.some.inj hF).symm
        refine vx_ret ?_
        refine W.widen (k := 2) (n := 12) (Nat.le_of_ble_eq_true rfl) (Nat.le_of_ble_eq_true rfl) ?_
        exact W.iret (v := zo5) hx hb hr (fun t ht hW => ⟨⟨zo5, (), rfl, ⟨_, ho, rfl⟩, z_end ht hP⟩, hS.F ht⟩) hS.2.2 dX10_digit_43
      · have hF := z_neg hF zc3
        have ho := (Option.some.inj hF).symm
        obtain ⟨sa, hsa⟩ := hB.2.1.2.2.1 (207, "no such place") (by decide +kernel)
        exact vx_throwS hx hb hl0 (own := RX10) (cls := "java/lang/IndexOutOfBoundsException") (text := "no such place") (names := ["java/lang/RuntimeException", "java/lang/Exception"]) hown (by decide +kernel) (by decide +kernel) (hts _ mU_824) (hts _ mU_93) hsa (zat_203 hts hB) zgo_203 hB.1.1 hB.1.2 hS (hl.1.trans hml.symm) dX10_digit_18 dX10_digit_21 dX10_digit_22 dX10_digit_24 dX10_digit_27 (fun x hx => (hnx x hx).elim) (Nat.le_of_ble_eq_true rfl) (Nat.le_of_ble_eq_true rfl) (Nat.le_of_ble_eq_true rfl) (Nat.le_of_ble_eq_true rfl) hlocks (fun t ha hz hk => ⟨(4, ()), ho, ⟨rfl, (z_thr hP hS hz hk).1⟩, (z_thr hP hS hz hk).2⟩) hS.2.2 (Nat.le_of_ble_eq_true rfl) (Nat.le_of_ble_eq_true rfl)
abbrev w_X10_digitSum : List Cond := .code yX10_digitSum cX10_digitSum 2 (some .int) :: wU
abbrev r_X10_digitSum : Room := { frames := 7, cells := 1, slots := 6, locals := 104 }
abbrev q_X10_digitSum (g : GG) (ad : Nat → Nat) (st : SS) (sv : SS) (isS : Int32) (hst : Nat → SS) (spare : Int32) (undo : Int32) (seen : Nat → Int32) (dbef : Int32) (drec : Int32) (ptx : Nat → Int32) (plen : Int32) (ppos : Int32) (pcnt : Int32) (cmds : Nat → CC) (stE : Int32) (stF : Int32) (lch : Nat → Int32) (llen : Int32) (o : Except (Nat × (Unit)) (Int32)) (A : Nat → Prop) := va_Qi (fun (r : Int32) (u : Unit) => ∃ a : Int32, o = .ok a ∧ a = r) (fun u t => va_P (gD g) zCl (wRoot g ad st sv isS hst spare undo seen dbef drec ptx plen ppos pcnt cmds stE stF lch llen) t.heap) A
abbrev x_X10_digitSum (g : GG) (ad : Nat → Nat) (st : SS) (sv : SS) (isS : Int32) (hst : Nat → SS) (spare : Int32) (undo : Int32) (seen : Nat → Int32) (dbef : Int32) (drec : Int32) (ptx : Nat → Int32) (plen : Int32) (ppos : Int32) (pcnt : Int32) (cmds : Nat → CC) (stE : Int32) (stF : Int32) (lch : Nat → Int32) (llen : Int32) (o : Except (Nat × (Unit)) (Int32)) (A : Nat → Prop) := vx_X (fun (x : Nat × (Unit)) => o = .error x) (fun E x t => E = xN x.1 ∧ va_P (gD g) zCl (wRoot g ad st sv isS hst spare undo seen dbef drec ptx plen ppos pcnt cmds stE stF lch llen) t.heap) A
set_option maxHeartbeats 4000000 in
set_option maxRecDepth 100000 in
theorem c_X10_digitSum (l : Launch) (hl0 : l.stackTraces = false) (g : GG) (ad : Nat → Nat) (st : SS) (sv : SS) (isS : Int32) (hst : Nat → SS) (spare : Int32) (undo : Int32) (seen : Nat → Int32) (dbef : Int32) (drec : Int32) (ptx : Nat → Int32) (plen : Int32) (ppos : Int32) (pcnt : Int32) (cmds : Nat → CC) (stE : Int32) (stF : Int32) (lch : Nat → Int32) (llen : Int32) (sz : Nat) (p1 : Int32) (fu : Nat) (o : Except (Nat × (Unit)) (Int32)) (hF : F_X10_digitSum fu st p1 = some o) : vx_Met l yX10_digitSum w_X10_digitSum r_X10_digitSum (va_Pc [.ref (ad 0), .int p1] (zP g (wRoot g ad st sv isS hst spare undo seen dbef drec ptx plen ppos pcnt cmds stE stF lch llen) sz)) (q_X10_digitSum g ad st sv isS hst spare undo seen dbef drec ptx plen ppos pcnt cmds stE stF lch llen o (va_A (wRoot g ad st sv isS hst spare undo seen dbef drec ptx plen ppos pcnt cmds stE stF lch llen) sz)) (x_X10_digitSum g ad st sv isS hst spare undo seen dbef drec ptx plen ppos pcnt cmds stE stF lch llen o (va_A (wRoot g ad st sv isS hst spare undo seen dbef drec ptx plen ppos pcnt cmds stE stF lch llen) sz)) 1 6 (va_A (wRoot g ad st sv isS hst spare undo seen dbef drec ptx plen ppos pcnt cmds stE stF lch llen) sz) := by
  refine vx_ofW (cc := cX10_digitSum) (maxL := 2) (ret := (some .int)) (by decide) rfl ?_
  intro p e s m args below meth c s₁ B hml hnx hv
  obtain ⟨rfl, rfl, hP, hK, hD0, hB⟩ := hv
  have hx := B.exec
  have hb := B.bytes
  have hr := B.returns
  have hts : ∀ w ∈ wU, w.before _ s = true := fun w h => atoms_spec (ws := w_X10_digitSum) B.pre w (List.mem_cons_of_mem _ h)
  have hown : s.vm.findClass RX10 = some m.cls := findClass_of_methodNamed B.named
  have hlocks := B.notSynchronized
  have hD := hD0.self (sz := s.heap.size)
  generalize hAe : va_A (wRoot g ad st sv isS hst spare undo seen dbef drec ptx plen ppos pcnt cmds stE stF lch llen) s.heap.size = A at hD hB ⊢
  have hA : ∀ q : Nat, s.heap.size ≤ q → A q := fun q h => by rw [← hAe]; exact Or.inr h
  have hS : va_S A s.heap s.heap [] := va_S.rf
  have hl := lv_entry ([.ref (ad 0), .int p1]) (n := 2) (Nat.le_of_ble_eq_true rfl)
  rw [lg_entry_eq]
  generalize (lg_sl ([.ref (ad 0), .int p1]) ++ List.replicate (2 - (lg_sl ([.ref (ad 0), .int p1])).length) Slot.unset).toArray = ls at hl ⊢
  have hl : lv_has ls 2 [(0, .ref (ad 0)), (1, .int p1)] := hl
  unfold F_X10_digitSum at hF
  refine lv_aload_n hx hb dX10_digitSum_0 rfl (lv_at hl 0 rfl) ?_
  refine va_get (D := gD g) (ci := 6) (v := .ref (ad 1)) (C := RX10) (T := TX10) (N := 9) hx hb hts inX10 hown hK hP 0 rfl rfl 0 (by decide) (hts _ mU_277) (fun _ h9 => h9) rfl dX10_digitSum_1 ?_
  refine va_getN (D := gD g) (ci := 5) (v := .ref (ad 3)) (C := RX8) (T := TX8) (N := 11) hx hb hts inX8 hown hK hP 1 rfl rfl 1 (by decide) (va_Nw.use rfl (hB.2.1.1 _ zn_116)) (fun _ h9 => h9) rfl dX10_digitSum_4 ?_
  refine lv_aload_n hx hb dX10_digitSum_7 rfl (lv_at hl 0 rfl) ?_
  refine lv_iload_n hx hb dX10_digitSum_8 rfl (lv_at hl 1 rfl) ?_
  obtain ⟨zo1, hzo1, hF⟩ := z_bind hF
  refine z_calliXE (fun (_ : Unit) => (wRoot g ad st sv isS hst spare undo seen dbef drec ptx plen ppos pcnt cmds stE stF lch llen)) (fun (x : Nat × (Unit)) => (wRoot g ad st sv isS hst spare undo seen dbef drec ptx plen ppos pcnt cmds stE stF lch llen)) (fun (x : Nat × (Unit)) => xN x.1) (vx_runV (As := [.int p1]) (rest := [.ref (ad 3)]) ⟨hx, hb, hml, hown, hts⟩ (c_X10_requirePosition l hl0 g ad st sv isS hst spare undo seen dbef drec ptx plen ppos pcnt cmds stE stF lch llen _ p1 fu _ hzo1) (cwV 1 hts (gdV mU_699 mU_701 mU_7 mU_66 mU_702) rfl rfl rfl (by decide +kernel) ⟨Nat.le_of_ble_eq_true rfl, Nat.le_of_ble_eq_true rfl⟩) ⟨z_blind _ _ _ _, va_recv hK hP (ci := 6) (q0 := 0) rfl rfl, fun U hU hW => z_preE hP hD hK hB hS hA hU hW⟩ rfl rfl hl.1 rfl (lv_room (Nat.le_of_ble_eq_true rfl)) dX10_digitSum_9 ⟨Nat.le_of_ble_eq_true rfl, Nat.le_of_ble_eq_true rfl⟩) hD hS hA (fun _ => rfl) (fun _ => rfl) (fun zw1 ce q9 H locs hw hP hD hS hq1 hq2 hq3 => ?_) (fun r u H locs hw hP hD hS => ?_)
  · subst hw
    have hF : _ = some o := hF
    have hP : va_P (gD g) zCl (wRoot g ad st sv isS hst spare undo seen dbef drec ptx plen ppos pcnt cmds stE stF lch llen) H := hP
    have hD : va_D A (wRoot g ad st sv isS hst spare undo seen dbef drec ptx plen ppos pcnt cmds stE stF lch llen) := hD
    have hF := z_err hF
    have ho := (Option.some.inj hF).symm
    exact vx_out (fun x hx => (hnx x hx).elim) hlocks hq1 hq2 hq3 (fun t ht hvm => ⟨(zw1.1, ()), ho, ⟨rfl, z_end ht hP⟩, hS.F ht⟩) hS.2.2 (Nat.le_of_ble_eq_true rfl) (Nat.le_of_ble_eq_true rfl)
  · obtain ⟨za1, rfl, rfl⟩ := hw
    have hF := z_okk hF
    have hP : va_P (gD g) zCl (wRoot g ad st sv isS hst spare undo seen dbef drec ptx plen ppos pcnt cmds stE stF lch llen) H := hP
    have hD : va_D A (wRoot g ad st sv isS hst spare undo seen dbef drec ptx plen ppos pcnt cmds stE stF lch llen) := hD
    obtain ⟨zg2, hF⟩ := z_grd hF
    refine va_lald hx hb hK hP 3 2 rfl rfl zg2 dX10_digitSum_12 ?_
    obtain ⟨zo3, hzo3, hF⟩ := z_bind hF
    refine z_calli (fun (_ : Unit) => []) [] (va_runS (As := [.long ((s_vals st) (Int32.toNatClampNeg za1))]) (rest := []) ⟨hx, hb, hml, hown, hts⟩ (c_X10_sumOfDigits l g _ ((s_vals st) (Int32.toNatClampNeg za1)) fu _ hzo3) (va_cwS 1 hts (gdS mU_419 mU_420 mU_66 mU_421) rfl rfl rfl (by decide +kernel) ⟨Nat.le_of_ble_eq_true rfl, Nat.le_of_ble_eq_true rfl⟩) ⟨z_blind _ _ _ _, fun U hU hW => z_pre [] hP hD hK hB hS hA rfl rfl hU hW⟩ rfl rfl hl.1 rfl (lv_room (Nat.le_of_ble_eq_true rfl)) dX10_digitSum_13 ⟨Nat.le_of_ble_eq_true rfl, Nat.le_of_ble_eq_true rfl⟩) hP hD hS hA rfl (fun _ => rfl) (fun r u H locs hw hP hD hS => ?_)
    subst hw
    have hP : va_P (gD g) zCl (wRoot g ad st sv isS hst spare undo seen dbef drec ptx plen ppos pcnt cmds stE stF lch llen) H := hP
    have hD : va_D A (wRoot g ad st sv isS hst spare undo seen dbef drec ptx plen ppos pcnt cmds stE stF lch llen) := hD
    have ho := (Option.some.inj hF).symm
    refine vx_ret ?_
    exact W.iret (v := zo3) hx hb hr (fun t ht hW => ⟨⟨zo3, (), rfl, ⟨_, ho, rfl⟩, z_end ht hP⟩, hS.F ht⟩) hS.2.2 dX10_digitSum_16
abbrev w_X10_numberAtRank : List Cond := .code yX10_numberAtRank cX10_numberAtRank 3 (some .int) :: wU
abbrev r_X10_numberAtRank : Room := { frames := 6, cells := 1, slots := 6, locals := 82 }
abbrev q_X10_numberAtRank (g : GG) (ad : Nat → Nat) (st : SS) (sv : SS) (isS : Int32) (hst : Nat → SS) (spare : Int32) (undo : Int32) (seen : Nat → Int32) (dbef : Int32) (drec : Int32) (ptx : Nat → Int32) (plen : Int32) (ppos : Int32) (pcnt : Int32) (cmds : Nat → CC) (stE : Int32) (stF : Int32) (lch : Nat → Int32) (llen : Int32) (o : Except (Nat × (Unit)) (Int32)) (A : Nat → Prop) := va_Qi (fun (r : Int32) (u : Unit) => ∃ a : Int32, o = .ok a ∧ a = r) (fun u t => va_P (gD g) zCl (wRoot g ad st sv isS hst spare undo seen dbef drec ptx plen ppos pcnt cmds stE stF lch llen) t.heap) A
abbrev x_X10_numberAtRank (g : GG) (ad : Nat → Nat) (st : SS) (sv : SS) (isS : Int32) (hst : Nat → SS) (spare : Int32) (undo : Int32) (seen : Nat → Int32) (dbef : Int32) (drec : Int32) (ptx : Nat → Int32) (plen : Int32) (ppos : Int32) (pcnt : Int32) (cmds : Nat → CC) (stE : Int32) (stF : Int32) (lch : Nat → Int32) (llen : Int32) (o : Except (Nat × (Unit)) (Int32)) (A : Nat → Prop) := vx_X (fun (x : Nat × (Unit)) => o = .error x) (fun E x t => E = xN x.1 ∧ va_P (gD g) zCl (wRoot g ad st sv isS hst spare undo seen dbef drec ptx plen ppos pcnt cmds stE stF lch llen) t.heap) A
set_option maxHeartbeats 4000000 in
set_option maxRecDepth 100000 in
theorem c_X10_numberAtRank (l : Launch) (hl0 : l.stackTraces = false) (g : GG) (ad : Nat → Nat) (st : SS) (sv : SS) (isS : Int32) (hst : Nat → SS) (spare : Int32) (undo : Int32) (seen : Nat → Int32) (dbef : Int32) (drec : Int32) (ptx : Nat → Int32) (plen : Int32) (ppos : Int32) (pcnt : Int32) (cmds : Nat → CC) (stE : Int32) (stF : Int32) (lch : Nat → Int32) (llen : Int32) (sz : Nat) (p1 : Int32) (fu : Nat) (o : Except (Nat × (Unit)) (Int32)) (hF : F_X10_numberAtRank fu st p1 = some o) : vx_Met l yX10_numberAtRank w_X10_numberAtRank r_X10_numberAtRank (va_Pc [.ref (ad 0), .int p1] (zP g (wRoot g ad st sv isS hst spare undo seen dbef drec ptx plen ppos pcnt cmds stE stF lch llen) sz)) (q_X10_numberAtRank g ad st sv isS hst spare undo seen dbef drec ptx plen ppos pcnt cmds stE stF lch llen o (va_A (wRoot g ad st sv isS hst spare undo seen dbef drec ptx plen ppos pcnt cmds stE stF lch llen) sz)) (x_X10_numberAtRank g ad st sv isS hst spare undo seen dbef drec ptx plen ppos pcnt cmds stE stF lch llen o (va_A (wRoot g ad st sv isS hst spare undo seen dbef drec ptx plen ppos pcnt cmds stE stF lch llen) sz)) 1 6 (va_A (wRoot g ad st sv isS hst spare undo seen dbef drec ptx plen ppos pcnt cmds stE stF lch llen) sz) := by
  refine vx_ofW (cc := cX10_numberAtRank) (maxL := 3) (ret := (some .int)) (by decide) rfl ?_
  intro p e s m args below meth c s₁ B hml hnx hv
  obtain ⟨rfl, rfl, hP, hK, hD0, hB⟩ := hv
  have hx := B.exec
  have hb := B.bytes
  have hr := B.returns
  have hts : ∀ w ∈ wU, w.before _ s = true := fun w h => atoms_spec (ws := w_X10_numberAtRank) B.pre w (List.mem_cons_of_mem _ h)
  have hown : s.vm.findClass RX10 = some m.cls := findClass_of_methodNamed B.named
  have hlocks := B.notSynchronized
  have hD := hD0.self (sz := s.heap.size)
  generalize hAe : va_A (wRoot g ad st sv isS hst spare undo seen dbef drec ptx plen ppos pcnt cmds stE stF lch llen) s.heap.size = A at hD hB ⊢
  have hA : ∀ q : Nat, s.heap.size ≤ q → A q := fun q h => by rw [← hAe]; exact Or.inr h
  have hS : va_S A s.heap s.heap [] := va_S.rf
  have hl := lv_entry ([.ref (ad 0), .int p1]) (n := 3) (Nat.le_of_ble_eq_true rfl)
  rw [lg_entry_eq]
  generalize (lg_sl ([.ref (ad 0), .int p1]) ++ List.replicate (3 - (lg_sl ([.ref (ad 0), .int p1])).length) Slot.unset).toArray = ls at hl ⊢
  have hl : lv_has ls 3 [(0, .ref (ad 0)), (1, .int p1)] := hl
  unfold F_X10_numberAtRank at hF
  have K2 : ∀ (n2 : Nat) (x2 : Int32), F_X10_numberAtRank_2 fu n2 st p1 x2 = some o → ∀ (H : Heap) (locs : List Loc) (ls : Array Slot), lv_has ls 3 [(0, .ref (ad 0)), (1, .int p1), (2, .int x2)] → va_P (gD g) zCl (wRoot g ad st sv isS hst spare undo seen dbef drec ptx plen ppos pcnt cmds stE stF lch llen) H → va_D A (wRoot g ad st sv isS hst spare undo seen dbef drec ptx plen ppos pcnt cmds stE stF lch llen) → va_S A s.heap H locs → W p l e (headSpec w_X10_numberAtRank r_X10_numberAtRank).room s m ([.ref (ad 0), .int p1] : List Value).toArray below meth c H locs 0 0 (vx_MQ below (q_X10_numberAtRank g ad st sv isS hst spare undo seen dbef drec ptx plen ppos pcnt cmds stE stF lch llen o A) (x_X10_numberAtRank g ad st sv isS hst spare undo seen dbef drec ptx plen ppos pcnt cmds stE stF lch llen o A) ([.ref (ad 0), .int p1] : List Value).toArray s 1 6 A) (F0 m 2 ls []) := by
    intro n2
    induction n2 with
    | zero =>
      intro x2 hF
      exact absurd hF (by simp [F_X10_numberAtRank_2])
    | succ n2 ih2 =>
      intro x2 hF H locs ls hl hP hD hS
      unfold F_X10_numberAtRank_2 at hF
      refine lv_iload_n hx hb dX10_numberAtRank_2 rfl (lv_at hl 2 rfl) ?_
      refine lv_aload_n hx hb dX10_numberAtRank_3 rfl (lv_at hl 0 rfl) ?_
      refine va_get (D := gD g) (ci := 6) (v := .ref (ad 1)) (C := RX10) (T := TX10) (N := 9) hx hb hts inX10 hown hK hP 0 rfl rfl 0 (by decide) (hts _ mU_277) (fun _ h9 => h9) rfl dX10_numberAtRank_4 ?_
      refine va_getN (D := gD g) (ci := 5) (v := .int (s_cnt st)) (C := RX8) (T := TX8) (N := 11) hx hb hts inX8 hown hK hP 1 rfl rfl 4 (by decide) (va_Nw.use rfl (hB.2.1.1 _ zn_123)) (fun _ h9 => h9) rfl dX10_numberAtRank_7 ?_
      refine lv_icmp_ge (tgt := 41) hx hb dX10_numberAtRank_10 (by decide) (fun zc1 => ?_) (fun zc1 => ?_)
      · have hF := z_pos hF zc1
        have ho := (Option.some.inj hF).symm
        obtain ⟨sa, hsa⟩ := hB.2.1.2.2.1 (220, "no number at this rank") (by decide +kernel)
        exact vx_throwS hx hb hl0 (own := RX10) (cls := "java/lang/IndexOutOfBoundsException") (text := "no number at this rank") (names := ["java/lang/RuntimeException", "java/lang/Exception"]) hown (by decide +kernel) (by decide +kernel) (hts _ mU_824) (hts _ mU_93) hsa (zat_203 hts hB) zgo_203 hB.1.1 hB.1.2 hS (hl.1.trans hml.symm) dX10_numberAtRank_41 dX10_numberAtRank_44 dX10_numberAtRank_45 dX10_numberAtRank_47 dX10_numberAtRank_50 (fun x hx => (hnx x hx).elim) (Nat.le_of_ble_eq_true rfl) (Nat.le_of_ble_eq_true rfl) (Nat.le_of_ble_eq_true rfl) (Nat.le_of_ble_eq_true rfl) hlocks (fun t ha hz hk => ⟨(4, ()), ho, ⟨rfl, (z_thr hP hS hz hk).1⟩, (z_thr hP hS hz hk).2⟩) hS.2.2 (Nat.le_of_ble_eq_true rfl) (Nat.le_of_ble_eq_true rfl)
      · have hF := z_neg hF zc1
        refine lv_aload_n hx hb dX10_numberAtRank_13 rfl (lv_at hl 0 rfl) ?_
        refine va_get (D := gD g) (ci := 6) (v := .ref (ad 1)) (C := RX10) (T := TX10) (N := 9) hx hb hts inX10 hown hK hP 0 rfl rfl 0 (by decide) (hts _ mU_277) (fun _ h9 => h9) rfl dX10_numberAtRank_14 ?_
        refine lv_iload_n hx hb dX10_numberAtRank_17 rfl (lv_at hl 2 rfl) ?_
        obtain ⟨zo2, hzo2, hF⟩ := z_bind hF
        refine z_calli (fun (_ : Unit) => (wState g (ad 1) (ad 2) (ad 3) (ad 4) (ad 5) st)) [1, 2, 3, 4, 5] (va_runV (As := [.int x2]) (rest := []) ⟨hx, hb, hml, hown, hts⟩ (c_X8_rankOf l g (ad 1) (ad 2) (ad 3) (ad 4) (ad 5) st _ x2 fu _ hzo2) (cwV 1 hts (gdV mU_880 mU_881 mU_882 mU_67 mU_883) rfl rfl rfl (by decide +kernel) ⟨Nat.le_of_ble_eq_true rfl, Nat.le_of_ble_eq_true rfl⟩) ⟨z_blind _ _ _ _, va_recv hK hP (ci := 5) (q0 := 1) rfl rfl, fun U hU hW => z_pre [1, 2, 3, 4, 5] hP hD hK hB hS hA rfl rfl hU hW⟩ rfl rfl hl.1 rfl (lv_room (Nat.le_of_ble_eq_true rfl)) dX10_numberAtRank_18 ⟨Nat.le_of_ble_eq_true rfl, Nat.le_of_ble_eq_true rfl⟩) hP hD hS hA rfl (fun _ => rfl) (fun r u H locs hw hP hD hS => ?_)
        subst hw
        have hP : va_P (gD g) zCl (wRoot g ad st sv isS hst spare undo seen dbef drec ptx plen ppos pcnt cmds stE stF lch llen) H := hP
        have hD : va_D A (wRoot g ad st sv isS hst spare undo seen dbef drec ptx plen ppos pcnt cmds stE stF lch llen) := hD
        refine lv_iload_n hx hb dX10_numberAtRank_21 rfl (lv_at hl 1 rfl) ?_
        refine lv_icmp_ne (tgt := 35) hx hb dX10_numberAtRank_22 (by decide) (fun zc3 => ?_) (fun zc3 => ?_)
        · have hF := z_neg hF zc3
          obtain ⟨zv4, ezv4, hF⟩ := z_let hF
          refine lv_iinc (v := zv4) (lv' := [(2, .int zv4), (0, .ref (ad 0)), (1, .int p1)]) hx hb dX10_numberAtRank_35 hl (k := 2) rfl (by rw [ezv4]; rfl) (by decide) rfl (fun ls hl => ?_)
          refine lv_goto (tgt := 2) hx hb dX10_numberAtRank_38 (by decide) ?_
          exact ih2 zv4 hF _ _ _ (lv_sub hl [1, 2, 0] rfl) hP hD hS
        · have hF := z_pos hF zc3
          refine lv_aload_n hx hb dX10_numberAtRank_25 rfl (lv_at hl 0 rfl) ?_
          refine va_get (D := gD g) (ci := 6) (v := .ref (ad 1)) (C := RX10) (T := TX10) (N := 9) hx hb hts inX10 hown hK hP 0 rfl rfl 0 (by decide) (hts _ mU_277) (fun _ h9 => h9) rfl dX10_numberAtRank_26 ?_
          refine va_getN (D := gD g) (ci := 5) (v := .ref (ad 2)) (C := RX8) (T := TX8) (N := 11) hx hb hts inX8 hown hK hP 1 rfl rfl 0 (by decide) (va_Nw.use rfl (hB.2.1.1 _ zn_113)) (fun _ h9 => h9) rfl dX10_numberAtRank_29 ?_
          refine lv_iload_n hx hb dX10_numberAtRank_32 rfl (lv_at hl 2 rfl) ?_
          obtain ⟨zg5, hF⟩ := z_grd hF
          refine va_iald hx hb hK hP 2 1 rfl rfl zg5 dX10_numberAtRank_33 ?_
          have ho := (Option.some.inj hF).symm
          refine vx_ret ?_
          refine W.widen (k := 1) (n := 6) (Nat.le_of_ble_eq_true rfl) (Nat.le_of_ble_eq_true rfl) ?_
          exact W.iret (v := ((s_ids st) (Int32.toNatClampNeg x2))) hx hb hr (fun t ht hW => ⟨⟨((s_ids st) (Int32.toNatClampNeg x2)), (), rfl, ⟨_, ho, rfl⟩, z_end ht hP⟩, hS.F ht⟩) hS.2.2 dX10_numberAtRank_34
  refine lv_iconst (v := 0) hx hb dX10_numberAtRank_0 (by decide) ?_
  refine lv_istore_n (lv' := [(2, .int 0), (0, .ref (ad 0)), (1, .int p1)]) hx hb dX10_numberAtRank_1 rfl hl (by decide) rfl (fun ls hl => ?_)
  exact K2 fu 0 hF _ _ _ (lv_sub hl [1, 2, 0] rfl) hP hD hS
abbrev w_X10_rounded : List Cond := .code yX10_rounded cX10_rounded 5 (some .long) :: wU
abbrev r_X10_rounded : Room := { frames := 7, cells := 3, slots := 18, locals := 126 }
abbrev q_X10_rounded (g : GG) (ad : Nat → Nat) (st : SS) (sv : SS) (isS : Int32) (hst : Nat → SS) (spare : Int32) (undo : Int32) (seen : Nat → Int32) (dbef : Int32) (drec : Int32) (ptx : Nat → Int32) (plen : Int32) (ppos : Int32) (pcnt : Int32) (cmds : Nat → CC) (stE : Int32) (stF : Int32) (lch : Nat → Int32) (llen : Int32) (o : Except (Nat × (Unit)) (Int64)) (A : Nat → Prop) := va_Ql (fun (r : Int64) (u : Unit) => ∃ a : Int64, o = .ok a ∧ a = r) (fun u t => va_P (gD g) zCl (wRoot g ad st sv isS hst spare undo seen dbef drec ptx plen ppos pcnt cmds stE stF lch llen) t.heap) A
abbrev x_X10_rounded (g : GG) (ad : Nat → Nat) (st : SS) (sv : SS) (isS : Int32) (hst : Nat → SS) (spare : Int32) (undo : Int32) (seen : Nat → Int32) (dbef : Int32) (drec : Int32) (ptx : Nat → Int32) (plen : Int32) (ppos : Int32) (pcnt : Int32) (cmds : Nat → CC) (stE : Int32) (stF : Int32) (lch : Nat → Int32) (llen : Int32) (o : Except (Nat × (Unit)) (Int64)) (A : Nat → Prop) := vx_X (fun (x : Nat × (Unit)) => o = .error x) (fun E x t => E = xN x.1 ∧ va_P (gD g) zCl (wRoot g ad st sv isS hst spare undo seen dbef drec ptx plen ppos pcnt cmds stE stF lch llen) t.heap) A
set_option maxHeartbeats 4000000 in
set_option maxRecDepth 100000 in
theorem c_X10_rounded (l : Launch) (hl0 : l.stackTraces = false) (g : GG) (ad : Nat → Nat) (st : SS) (sv : SS) (isS : Int32) (hst : Nat → SS) (spare : Int32) (undo : Int32) (seen : Nat → Int32) (dbef : Int32) (drec : Int32) (ptx : Nat → Int32) (plen : Int32) (ppos : Int32) (pcnt : Int32) (cmds : Nat → CC) (stE : Int32) (stF : Int32) (lch : Nat → Int32) (llen : Int32) (sz : Nat) (p1 : Int32) (p2 : Int32) (p3 : Int32) (fu : Nat) (o : Except (Nat × (Unit)) (Int64)) (hF : F_X10_rounded fu st p1 p2 p3 = some o) : vx_Met l yX10_rounded w_X10_rounded r_X10_rounded (va_Pc [.ref (ad 0), .int p1, .int p2, .int p3] (zP g (wRoot g ad st sv isS hst spare undo seen dbef drec ptx plen ppos pcnt cmds stE stF lch llen) sz)) (q_X10_rounded g ad st sv isS hst spare undo seen dbef drec ptx plen ppos pcnt cmds stE stF lch llen o (va_A (wRoot g ad st sv isS hst spare undo seen dbef drec ptx plen ppos pcnt cmds stE stF lch llen) sz)) (x_X10_rounded g ad st sv isS hst spare undo seen dbef drec ptx plen ppos pcnt cmds stE stF lch llen o (va_A (wRoot g ad st sv isS hst spare undo seen dbef drec ptx plen ppos pcnt cmds stE stF lch llen) sz)) 3 18 (va_A (wRoot g ad st sv isS hst spare undo seen dbef drec ptx plen ppos pcnt cmds stE stF lch llen) sz) := by
  refine vx_ofW (cc := cX10_rounded) (maxL := 5) (ret := (some .long)) (by decide) rfl ?_
  intro p e s m args below meth c s₁ B hml hnx hv
  obtain ⟨rfl, rfl, hP, hK, hD0, hB⟩ := hv
  have hx := B.exec
  have hb := B.bytes
  have hr := B.returns
  have hts : ∀ w ∈ wU, w.before _ s = true := fun w h => atoms_spec (ws := w_X10_rounded) B.pre w (List.mem_cons_of_mem _ h)
  have hown : s.vm.findClass RX10 = some m.cls := findClass_of_methodNamed B.named
  have hlocks := B.notSynchronized
  have hD := hD0.self (sz := s.heap.size)
  generalize hAe : va_A (wRoot g ad st sv isS hst spare undo seen dbef drec ptx plen ppos pcnt cmds stE stF lch llen) s.heap.size = A at hD hB ⊢
  have hA : ∀ q : Nat, s.heap.size ≤ q → A q := fun q h => by rw [← hAe]; exact Or.inr h
  have hS : va_S A s.heap s.heap [] := va_S.rf
  have hl := lv_entry ([.ref (ad 0), .int p1, .int p2, .int p3]) (n := 5) (Nat.le_of_ble_eq_true rfl)
  rw [lg_entry_eq]
  generalize (lg_sl ([.ref (ad 0), .int p1, .int p2, .int p3]) ++ List.replicate (5 - (lg_sl ([.ref (ad 0), .int p1, .int p2, .int p3])).length) Slot.unset).toArray = ls at hl ⊢
  have hl : lv_has ls 5 [(0, .ref (ad 0)), (1, .int p1), (2, .int p2), (3, .int p3)] := hl
  unfold F_X10_rounded at hF
  refine lv_aload_n hx hb dX10_rounded_0 rfl (lv_at hl 0 rfl) ?_
  refine lv_iload_n hx hb dX10_rounded_1 rfl (lv_at hl 1 rfl) ?_
  obtain ⟨zo1, hzo1, hF⟩ := z_bind hF
  refine z_calliXE (fun (_ : Unit) => (wRoot g ad st sv isS hst spare undo seen dbef drec ptx plen ppos pcnt cmds stE stF lch llen)) (fun (x : Nat × (Unit)) => (wRoot g ad st sv isS hst spare undo seen dbef drec ptx plen ppos pcnt cmds stE stF lch llen)) (fun (x : Nat × (Unit)) => xN x.1) (vx_runV (As := [.int p1]) (rest := []) ⟨hx, hb, hml, hown, hts⟩ (c_X10_requirePosition l hl0 g ad st sv isS hst spare undo seen dbef drec ptx plen ppos pcnt cmds stE stF lch llen _ p1 fu _ hzo1) (cwV 1 hts (gdV mU_699 mU_701 mU_7 mU_66 mU_702) rfl rfl rfl (by decide +kernel) ⟨Nat.le_of_ble_eq_true rfl, Nat.le_of_ble_eq_true rfl⟩) ⟨z_blind _ _ _ _, va_recv hK hP (ci := 6) (q0 := 0) rfl rfl, fun U hU hW => z_preE hP hD hK hB hS hA hU hW⟩ rfl rfl hl.1 rfl (lv_room (Nat.le_of_ble_eq_true rfl)) dX10_rounded_2 ⟨Nat.le_of_ble_eq_true rfl, Nat.le_of_ble_eq_true rfl⟩) hD hS hA (fun _ => rfl) (fun _ => rfl) (fun zw1 ce q9 H locs hw hP hD hS hq1 hq2 hq3 => ?_) (fun r u H locs hw hP hD hS => ?_)
  · subst hw
    have hF : _ = some o := hF
    have hP : va_P (gD g) zCl (wRoot g ad st sv isS hst spare undo seen dbef drec ptx plen ppos pcnt cmds stE stF lch llen) H := hP
    have hD : va_D A (wRoot g ad st sv isS hst spare undo seen dbef drec ptx plen ppos pcnt cmds stE stF lch llen) := hD
    have hF := z_err hF
    have ho := (Option.some.inj hF).symm
    exact vx_out (fun x hx => (hnx x hx).elim) hlocks hq1 hq2 hq3 (fun t ht hvm => ⟨(zw1.1, ()), ho, ⟨rfl, z_end ht hP⟩, hS.F ht⟩) hS.2.2 (Nat.le_of_ble_eq_true rfl) (Nat.le_of_ble_eq_true rfl)
  · obtain ⟨za1, rfl, rfl⟩ := hw
    have hF := z_okk hF
    have hP : va_P (gD g) zCl (wRoot g ad st sv isS hst spare undo seen dbef drec ptx plen ppos pcnt cmds stE stF lch llen) H := hP
    have hD : va_D A (wRoot g ad st sv isS hst spare undo seen dbef drec ptx plen ppos pcnt cmds stE stF lch llen) := hD
    refine lv_istore (lv' := [(4, .int za1), (0, .ref (ad 0)), (1, .int p1), (2, .int p2), (3, .int p3)]) hx hb dX10_rounded_5 hl (by decide) rfl (fun ls hl => ?_)
    refine lv_iload_n hx hb dX10_rounded_7 rfl (lv_at hl 3 rfl) ?_
    obtain ⟨zo2, hzo2, hF⟩ := z_bind hF
    refine z_callvX (fun (_ : Unit) => []) (fun (x : Nat × (Unit)) => []) (fun (x : Nat × (Unit)) => xN x.1) [] (vx_runS (As := [.int p2]) (rest := []) ⟨hx, hb, hml, hown, hts⟩ (c_X10_requireScale l hl0 g _ p2 _ hzo2) (va_cwS 1 hts (gdS mU_528 mU_529 mU_66 mU_530) rfl rfl rfl (by decide +kernel) ⟨Nat.le_of_ble_eq_true rfl, Nat.le_of_ble_eq_true rfl⟩) ⟨z_blind _ _ _ _, fun U hU hW => z_pre [] hP hD hK hB hS hA rfl rfl hU hW⟩ rfl rfl hl.1 rfl (lv_room (Nat.le_of_ble_eq_true rfl)) dX10_rounded_8 ⟨Nat.le_of_ble_eq_true rfl, Nat.le_of_ble_eq_true rfl⟩) hP hD hS hA rfl (fun _ => rfl) (fun _ => rfl) (fun zw2 ce q9 H locs hw hP hD hS hq1 hq2 hq3 => ?_) (fun u H locs hw hP hD hS => ?_)
    · subst hw
      have hF : _ = some o := hF
      have hP : va_P (gD g) zCl (wRoot g ad st sv isS hst spare undo seen dbef drec ptx plen ppos pcnt cmds stE stF lch llen) H := hP
      have hD : va_D A (wRoot g ad st sv isS hst spare undo seen dbef drec ptx plen ppos pcnt cmds stE stF lch llen) := hD
      have hF := z_err hF
      have ho := (Option.some.inj hF).symm
      exact vx_out (fun x hx => (hnx x hx).elim) hlocks hq1 hq2 hq3 (fun t ht hvm => ⟨(zw2.1, ()), ho, ⟨rfl, z_end ht hP⟩, hS.F ht⟩) hS.2.2 (Nat.le_of_ble_eq_true rfl) (Nat.le_of_ble_eq_true rfl)
    · obtain ⟨za2, rfl, rfl⟩ := hw
      have hF := z_okk hF
      have hP : va_P (gD g) zCl (wRoot g ad st sv isS hst spare undo seen dbef drec ptx plen ppos pcnt cmds stE stF lch llen) H := hP
      have hD : va_D A (wRoot g ad st sv isS hst spare undo seen dbef drec ptx plen ppos pcnt cmds stE stF lch llen) := hD
      refine lv_iload_n hx hb dX10_rounded_11 rfl (lv_at hl 4 rfl) ?_
      obtain ⟨zo3, hzo3, hF⟩ := z_bind hF
      refine z_callvX (fun (_ : Unit) => []) (fun (x : Nat × (Unit)) => []) (fun (x : Nat × (Unit)) => xN x.1) [] (vx_runS (As := [.int p3]) (rest := []) ⟨hx, hb, hml, hown, hts⟩ (c_X10_requireMode l hl0 g _ p3 fu _ hzo3) (va_cwS 1 hts (gdS mU_532 mU_533 mU_66 mU_534) rfl rfl rfl (by decide +kernel) ⟨Nat.le_of_ble_eq_true rfl, Nat.le_of_ble_eq_true rfl⟩) ⟨z_blind _ _ _ _, fun U hU hW => z_pre [] hP hD hK hB hS hA rfl rfl hU hW⟩ rfl rfl hl.1 rfl (lv_room (Nat.le_of_ble_eq_true rfl)) dX10_rounded_12 ⟨Nat.le_of_ble_eq_true rfl, Nat.le_of_ble_eq_true rfl⟩) hP hD hS hA rfl (fun _ => rfl) (fun _ => rfl) (fun zw3 ce q9 H locs hw hP hD hS hq1 hq2 hq3 => ?_) (fun u H locs hw hP hD hS => ?_)
      · subst hw
        have hF : _ = some o := hF
        have hP : va_P (gD g) zCl (wRoot g ad st sv isS hst spare undo seen dbef drec ptx plen ppos pcnt cmds stE stF lch llen) H := hP
        have hD : va_D A (wRoot g ad st sv isS hst spare undo seen dbef drec ptx plen ppos pcnt cmds stE stF lch llen) := hD
        have hF := z_err hF
        have ho := (Option.some.inj hF).symm
        exact vx_out (fun x hx => (hnx x hx).elim) hlocks hq1 hq2 hq3 (fun t ht hvm => ⟨(zw3.1, ()), ho, ⟨rfl, z_end ht hP⟩, hS.F ht⟩) hS.2.2 (Nat.le_of_ble_eq_true rfl) (Nat.le_of_ble_eq_true rfl)
      · obtain ⟨za3, rfl, rfl⟩ := hw
        have hF := z_okk hF
        have hP : va_P (gD g) zCl (wRoot g ad st sv isS hst spare undo seen dbef drec ptx plen ppos pcnt cmds stE stF lch llen) H := hP
        have hD : va_D A (wRoot g ad st sv isS hst spare undo seen dbef drec ptx plen ppos pcnt cmds stE stF lch llen) := hD
        refine lv_aload_n hx hb dX10_rounded_15 rfl (lv_at hl 1 rfl) ?_
        refine va_get (D := gD g) (ci := 6) (v := .ref (ad 1)) (C := RX10) (T := TX10) (N := 9) hx hb hts inX10 hown hK hP 0 rfl rfl 0 (by decide) (hts _ mU_277) (fun _ h9 => h9) rfl dX10_rounded_16 ?_
        refine va_getN (D := gD g) (ci := 5) (v := .ref (ad 3)) (C := RX8) (T := TX8) (N := 11) hx hb hts inX8 hown hK hP 1 rfl rfl 1 (by decide) (va_Nw.use rfl (hB.2.1.1 _ zn_116)) (fun _ h9 => h9) rfl dX10_rounded_19 ?_
        refine lv_iload hx hb dX10_rounded_22 (lv_at hl 0 rfl) ?_
        obtain ⟨zg4, hF⟩ := z_grd hF
        refine va_lald hx hb hK hP 3 2 rfl rfl zg4 dX10_rounded_24 ?_
        refine lv_iload_n hx hb dX10_rounded_25 rfl (lv_at hl 3 rfl) ?_
        refine lv_iload_n hx hb dX10_rounded_26 rfl (lv_at hl 4 rfl) ?_
        obtain ⟨zo5, hzo5, hF⟩ := z_bind hF
        refine z_calll (fun (_ : Unit) => []) [] (va_runS (As := [.long ((s_vals st) (Int32.toNatClampNeg za1)), .int p2, .int p3]) (rest := []) ⟨hx, hb, hml, hown, hts⟩ (c_X7_ofSum l g _ ((s_vals st) (Int32.toNatClampNeg za1)) p2 p3 _ hzo5) (va_cwS 3 hts (gdS mU_896 mU_358 mU_88 mU_359) rfl rfl rfl (by decide +kernel) ⟨Nat.le_of_ble_eq_true rfl, Nat.le_of_ble_eq_true rfl⟩) ⟨z_blind _ _ _ _, fun U hU hW => z_pre [] hP hD hK hB hS hA rfl rfl hU hW⟩ rfl rfl hl.1 rfl (lv_room (Nat.le_of_ble_eq_true rfl)) dX10_rounded_27 ⟨Nat.le_of_ble_eq_true rfl, Nat.le_of_ble_eq_true rfl⟩) hP hD hS hA rfl (fun _ => rfl) (fun r u H locs hw hP hD hS => ?_)
        subst hw
        have hP : va_P (gD g) zCl (wRoot g ad st sv isS hst spare undo seen dbef drec ptx plen ppos pcnt cmds stE stF lch llen) H := hP
        have hD : va_D A (wRoot g ad st sv isS hst spare undo seen dbef drec ptx plen ppos pcnt cmds stE stF lch llen) := hD
        have ho := (Option.some.inj hF).symm
        refine vx_ret ?_
        exact W.lret (v := zo5) hx hb hr (fun t ht hW => ⟨⟨zo5, (), rfl, ⟨_, ho, rfl⟩, z_end ht hP⟩, hS.F ht⟩) hS.2.2 dX10_rounded_30
abbrev w_X10_part : List Cond := .code yX10_part cX10_part 11 (some .long) :: wU
abbrev r_X10_part : Room := { frames := 7, cells := 2, slots := 12, locals := 104 }
abbrev q_X10_part (g : GG) (ad : Nat → Nat) (st : SS) (sv : SS) (isS : Int32) (hst : Nat → SS) (spare : Int32) (undo : Int32) (seen : Nat → Int32) (dbef : Int32) (drec : Int32) (ptx : Nat → Int32) (plen : Int32) (ppos : Int32) (pcnt : Int32) (cmds : Nat → CC) (stE : Int32) (stF : Int32) (lch : Nat → Int32) (llen : Int32) (o : Except (Nat × (Unit)) (Int64)) (A : Nat → Prop) := va_Ql (fun (r : Int64) (u : Unit) => ∃ a : Int64, o = .ok a ∧ a = r) (fun u t => va_P (gD g) zCl (wRoot g ad st sv isS hst spare undo seen dbef drec ptx plen ppos pcnt cmds stE stF lch llen) t.heap) A
abbrev x_X10_part (g : GG) (ad : Nat → Nat) (st : SS) (sv : SS) (isS : Int32) (hst : Nat → SS) (spare : Int32) (undo : Int32) (seen : Nat → Int32) (dbef : Int32) (drec : Int32) (ptx : Nat → Int32) (plen : Int32) (ppos : Int32) (pcnt : Int32) (cmds : Nat → CC) (stE : Int32) (stF : Int32) (lch : Nat → Int32) (llen : Int32) (o : Except (Nat × (Unit)) (Int64)) (A : Nat → Prop) := vx_X (fun (x : Nat × (Unit)) => o = .error x) (fun E x t => E = xN x.1 ∧ va_P (gD g) zCl (wRoot g ad st sv isS hst spare undo seen dbef drec ptx plen ppos pcnt cmds stE stF lch llen) t.heap) A
set_option maxHeartbeats 4000000 in
set_option maxRecDepth 100000 in
theorem c_X10_part (l : Launch) (hl0 : l.stackTraces = false) (g : GG) (ad : Nat → Nat) (st : SS) (sv : SS) (isS : Int32) (hst : Nat → SS) (spare : Int32) (undo : Int32) (seen : Nat → Int32) (dbef : Int32) (drec : Int32) (ptx : Nat → Int32) (plen : Int32) (ppos : Int32) (pcnt : Int32) (cmds : Nat → CC) (stE : Int32) (stF : Int32) (lch : Nat → Int32) (llen : Int32) (sz : Nat) (p1 : Int32) (p2 : Int32) (p3 : Int32) (fu : Nat) (o : Except (Nat × (Unit)) (Int64)) (hF : F_X10_part fu st p1 p2 p3 = some o) : vx_Met l yX10_part w_X10_part r_X10_part (va_Pc [.ref (ad 0), .int p1, .int p2, .int p3] (zP g (wRoot g ad st sv isS hst spare undo seen dbef drec ptx plen ppos pcnt cmds stE stF lch llen) sz)) (q_X10_part g ad st sv isS hst spare undo seen dbef drec ptx plen ppos pcnt cmds stE stF lch llen o (va_A (wRoot g ad st sv isS hst spare undo seen dbef drec ptx plen ppos pcnt cmds stE stF lch llen) sz)) (x_X10_part g ad st sv isS hst spare undo seen dbef drec ptx plen ppos pcnt cmds stE stF lch llen o (va_A (wRoot g ad st sv isS hst spare undo seen dbef drec ptx plen ppos pcnt cmds stE stF lch llen) sz)) 2 12 (va_A (wRoot g ad st sv isS hst spare undo seen dbef drec ptx plen ppos pcnt cmds stE stF lch llen) sz) := by
  refine vx_ofW (cc := cX10_part) (maxL := 11) (ret := (some .long)) (by decide) rfl ?_
  intro p e s m args below meth c s₁ B hml hnx hv
  obtain ⟨rfl, rfl, hP, hK, hD0, hB⟩ := hv
  have hx := B.exec
  have hb := B.bytes
  have hr := B.returns
  have hts : ∀ w ∈ wU, w.before _ s = true := fun w h => atoms_spec (ws := w_X10_part) B.pre w (List.mem_cons_of_mem _ h)
  have hown : s.vm.findClass RX10 = some m.cls := findClass_of_methodNamed B.named
  have hlocks := B.notSynchronized
  have hD := hD0.self (sz := s.heap.size)
  generalize hAe : va_A (wRoot g ad st sv isS hst spare undo seen dbef drec ptx plen ppos pcnt cmds stE stF lch llen) s.heap.size = A at hD hB ⊢
  have hA : ∀ q : Nat, s.heap.size ≤ q → A q := fun q h => by rw [← hAe]; exact Or.inr h
  have hS : va_S A s.heap s.heap [] := va_S.rf
  have hl := lv_entry ([.ref (ad 0), .int p1, .int p2, .int p3]) (n := 11) (Nat.le_of_ble_eq_true rfl)
  rw [lg_entry_eq]
  generalize (lg_sl ([.ref (ad 0), .int p1, .int p2, .int p3]) ++ List.replicate (11 - (lg_sl ([.ref (ad 0), .int p1, .int p2, .int p3])).length) Slot.unset).toArray = ls at hl ⊢
  have hl : lv_has ls 11 [(0, .ref (ad 0)), (1, .int p1), (2, .int p2), (3, .int p3)] := hl
  unfold F_X10_part at hF
  refine lv_aload_n hx hb dX10_part_0 rfl (lv_at hl 0 rfl) ?_
  refine lv_iload_n hx hb dX10_part_1 rfl (lv_at hl 1 rfl) ?_
  obtain ⟨zo1, hzo1, hF⟩ := z_bind hF
  refine z_calliXE (fun (_ : Unit) => (wRoot g ad st sv isS hst spare undo seen dbef drec ptx plen ppos pcnt cmds stE stF lch llen)) (fun (x : Nat × (Unit)) => (wRoot g ad st sv isS hst spare undo seen dbef drec ptx plen ppos pcnt cmds stE stF lch llen)) (fun (x : Nat × (Unit)) => xN x.1) (vx_runV (As := [.int p1]) (rest := []) ⟨hx, hb, hml, hown, hts⟩ (c_X10_requirePosition l hl0 g ad st sv isS hst spare undo seen dbef drec ptx plen ppos pcnt cmds stE stF lch llen _ p1 fu _ hzo1) (cwV 1 hts (gdV mU_699 mU_701 mU_7 mU_66 mU_702) rfl rfl rfl (by decide +kernel) ⟨Nat.le_of_ble_eq_true rfl, Nat.le_of_ble_eq_true rfl⟩) ⟨z_blind _ _ _ _, va_recv hK hP (ci := 6) (q0 := 0) rfl rfl, fun U hU hW => z_preE hP hD hK hB hS hA hU hW⟩ rfl rfl hl.1 rfl (lv_room (Nat.le_of_ble_eq_true rfl)) dX10_part_2 ⟨Nat.le_of_ble_eq_true rfl, Nat.le_of_ble_eq_true rfl⟩) hD hS hA (fun _ => rfl) (fun _ => rfl) (fun zw1 ce q9 H locs hw hP hD hS hq1 hq2 hq3 => ?_) (fun r u H locs hw hP hD hS => ?_)
  · subst hw
    have hF : _ = some o := hF
    have hP : va_P (gD g) zCl (wRoot g ad st sv isS hst spare undo seen dbef drec ptx plen ppos pcnt cmds stE stF lch llen) H := hP
    have hD : va_D A (wRoot g ad st sv isS hst spare undo seen dbef drec ptx plen ppos pcnt cmds stE stF lch llen) := hD
    have hF := z_err hF
    have ho := (Option.some.inj hF).symm
    exact vx_out (fun x hx => (hnx x hx).elim) hlocks hq1 hq2 hq3 (fun t ht hvm => ⟨(zw1.1, ()), ho, ⟨rfl, z_end ht hP⟩, hS.F ht⟩) hS.2.2 (Nat.le_of_ble_eq_true rfl) (Nat.le_of_ble_eq_true rfl)
  · obtain ⟨za1, rfl, rfl⟩ := hw
    have hF := z_okk hF
    have hP : va_P (gD g) zCl (wRoot g ad st sv isS hst spare undo seen dbef drec ptx plen ppos pcnt cmds stE stF lch llen) H := hP
    have hD : va_D A (wRoot g ad st sv isS hst spare undo seen dbef drec ptx plen ppos pcnt cmds stE stF lch llen) := hD
    refine lv_istore (lv' := [(4, .int za1), (0, .ref (ad 0)), (1, .int p1), (2, .int p2), (3, .int p3)]) hx hb dX10_part_5 hl (by decide) rfl (fun ls hl => ?_)
    refine lv_iload_n hx hb dX10_part_7 rfl (lv_at hl 3 rfl) ?_
    refine lv_iconst (v := 1) hx hb dX10_part_8 (by decide) ?_
    refine lv_icmp_lt (tgt := 18) hx hb dX10_part_9 (by decide) (fun zc2 => ?_) (fun zc2 => ?_)
    · have hF := z_pos hF zc2
      have ho := (Option.some.inj hF).symm
      obtain ⟨sa, hsa⟩ := hB.2.1.2.2.1 (226, "no such number of parts") (by decide +kernel)
      exact vx_throwS hx hb hl0 (own := RX10) (cls := "java/lang/IllegalArgumentException") (text := "no such number of parts") (names := ["java/lang/RuntimeException", "java/lang/Exception"]) hown (by decide +kernel) (by decide +kernel) (hts _ mU_456) (hts _ mU_80) hsa (zat_156 hts hB) zgo_156 hB.1.1 hB.1.2 hS (hl.1.trans hml.symm) dX10_part_18 dX10_part_21 dX10_part_22 dX10_part_24 dX10_part_27 (fun x hx => (hnx x hx).elim) (Nat.le_of_ble_eq_true rfl) (Nat.le_of_ble_eq_true rfl) (Nat.le_of_ble_eq_true rfl) (Nat.le_of_ble_eq_true rfl) hlocks (fun t ha hz hk => ⟨(0, ()), ho, ⟨rfl, (z_thr hP hS hz hk).1⟩, (z_thr hP hS hz hk).2⟩) hS.2.2 (Nat.le_of_ble_eq_true rfl) (Nat.le_of_ble_eq_true rfl)
    · have hF := z_neg hF zc2
      refine lv_iload_n hx hb dX10_part_12 rfl (lv_at hl 3 rfl) ?_
      refine lv_bipush (v := 9) hx hb dX10_part_13 (by decide) ?_
      refine lv_icmp_le (tgt := 28) hx hb dX10_part_15 (by decide) (fun zc3 => ?_) (fun zc3 => ?_)
      · have hF := z_pos hF zc3
        refine lv_iload_n hx hb dX10_part_28 rfl (lv_at hl 4 rfl) ?_
        refine lv_if_lt (tgt := 37) hx hb dX10_part_29 (by decide) (fun zc4 => ?_) (fun zc4 => ?_)
        · have hF := z_pos hF zc4
          have ho := (Option.some.inj hF).symm
          obtain ⟨sa, hsa⟩ := hB.2.1.2.2.1 (228, "no such part") (by decide +kernel)
          exact vx_throwS hx hb hl0 (own := RX10) (cls := "java/lang/IndexOutOfBoundsException") (text := "no such part") (names := ["java/lang/RuntimeException", "java/lang/Exception"]) hown (by decide +kernel) (by decide +kernel) (hts _ mU_824) (hts _ mU_93) hsa (zat_203 hts hB) zgo_203 hB.1.1 hB.1.2 hS (hl.1.trans hml.symm) dX10_part_37 dX10_part_40 dX10_part_41 dX10_part_43 dX10_part_46 (fun x hx => (hnx x hx).elim) (Nat.le_of_ble_eq_true rfl) (Nat.le_of_ble_eq_true rfl) (Nat.le_of_ble_eq_true rfl) (Nat.le_of_ble_eq_true rfl) hlocks (fun t ha hz hk => ⟨(4, ()), ho, ⟨rfl, (z_thr hP hS hz hk).1⟩, (z_thr hP hS hz hk).2⟩) hS.2.2 (Nat.le_of_ble_eq_true rfl) (Nat.le_of_ble_eq_true rfl)
        · have hF := z_neg hF zc4
          refine lv_iload_n hx hb dX10_part_32 rfl (lv_at hl 4 rfl) ?_
          refine lv_iload_n hx hb dX10_part_33 rfl (lv_at hl 3 rfl) ?_
          refine lv_icmp_lt (tgt := 47) hx hb dX10_part_34 (by decide) (fun zc5 => ?_) (fun zc5 => ?_)
          · have hF := z_pos hF zc5
            refine lv_aload_n hx hb dX10_part_47 rfl (lv_at hl 1 rfl) ?_
            refine va_get (D := gD g) (ci := 6) (v := .ref (ad 1)) (C := RX10) (T := TX10) (N := 9) hx hb hts inX10 hown hK hP 0 rfl rfl 0 (by decide) (hts _ mU_277) (fun _ h9 => h9) rfl dX10_part_48 ?_
            refine va_getN (D := gD g) (ci := 5) (v := .ref (ad 4)) (C := RX8) (T := TX8) (N := 11) hx hb hts inX8 hown hK hP 1 rfl rfl 2 (by decide) (va_Nw.use rfl (hB.2.1.1 _ zn_118)) (fun _ h9 => h9) rfl dX10_part_51 ?_
            refine lv_iload hx hb dX10_part_54 (lv_at hl 0 rfl) ?_
            obtain ⟨zg6, hF⟩ := z_grd hF
            refine va_iald hx hb hK hP 4 1 rfl rfl zg6 dX10_part_56 ?_
            obtain ⟨zo7, hzo7, hF⟩ := z_bind hF
            refine z_calll (fun (_ : Unit) => []) [] (va_runS (As := [.int ((s_scs st) (Int32.toNatClampNeg za1))]) (rest := []) ⟨hx, hb, hml, hown, hts⟩ (c_X7_stepOf l g _ ((s_scs st) (Int32.toNatClampNeg za1)) _ hzo7) (va_cwS 1 hts (gdS mU_643 mU_343 mU_88 mU_344) rfl rfl rfl (by decide +kernel) ⟨Nat.le_of_ble_eq_true rfl, Nat.le_of_ble_eq_true rfl⟩) ⟨z_blind _ _ _ _, fun U hU hW => z_pre [] hP hD hK hB hS hA rfl rfl hU hW⟩ rfl rfl hl.1 rfl (lv_room (Nat.le_of_ble_eq_true rfl)) dX10_part_57 ⟨Nat.le_of_ble_eq_true rfl, Nat.le_of_ble_eq_true rfl⟩) hP hD hS hA rfl (fun _ => rfl) (fun r u H locs hw hP hD hS => ?_)
            subst hw
            have hP : va_P (gD g) zCl (wRoot g ad st sv isS hst spare undo seen dbef drec ptx plen ppos pcnt cmds stE stF lch llen) H := hP
            have hD : va_D A (wRoot g ad st sv isS hst spare undo seen dbef drec ptx plen ppos pcnt cmds stE stF lch llen) := hD
            refine lv_lstore (lv' := [(5, .long zo7), (4, .int za1), (0, .ref (ad 0)), (1, .int p1), (2, .int p2), (3, .int p3)]) hx hb dX10_part_60 hl (by decide) rfl (fun ls hl => ?_)
            refine lv_aload_n hx hb dX10_part_62 rfl (lv_at hl 2 rfl) ?_
            refine va_get (D := gD g) (ci := 6) (v := .ref (ad 1)) (C := RX10) (T := TX10) (N := 9) hx hb hts inX10 hown hK hP 0 rfl rfl 0 (by decide) (hts _ mU_277) (fun _ h9 => h9) rfl dX10_part_63 ?_
            refine va_getN (D := gD g) (ci := 5) (v := .ref (ad 3)) (C := RX8) (T := TX8) (N := 11) hx hb hts inX8 hown hK hP 1 rfl rfl 1 (by decide) (va_Nw.use rfl (hB.2.1.1 _ zn_116)) (fun _ h9 => h9) rfl dX10_part_66 ?_
            refine lv_iload hx hb dX10_part_69 (lv_at hl 1 rfl) ?_
            obtain ⟨zg8, hF⟩ := z_grd hF
            refine va_lald hx hb hK hP 3 2 rfl rfl zg8 dX10_part_71 ?_
            refine lv_lload hx hb dX10_part_72 (lv_at hl 0 rfl) ?_
            obtain ⟨zg9, hF⟩ := z_grd hF
            refine lv_ldiv hx hb dX10_part_74 zg9 ?_
            obtain ⟨zv10, ezv10, hF⟩ := z_let hF
            refine z_topl ezv10 ?_
            refine lv_lstore (lv' := [(7, .long zv10), (5, .long zo7), (4, .int za1), (0, .ref (ad 0)), (1, .int p1), (2, .int p2), (3, .int p3)]) hx hb dX10_part_75 hl (by decide) rfl (fun ls hl => ?_)
            refine lv_lload hx hb dX10_part_77 (lv_at hl 0 rfl) ?_
            refine lv_iload_n hx hb dX10_part_79 rfl (lv_at hl 5 rfl) ?_
            refine lv_i2l (v := (Int32.toInt64 p2)) hx hb dX10_part_80 rfl ?_
            obtain ⟨zg11, hF⟩ := z_grd hF
            refine lv_lrem hx hb dX10_part_81 zg11 ?_
            obtain ⟨zv12, ezv12, hF⟩ := z_let hF
            refine z_topl ezv12 ?_
            refine lv_lstore (lv' := [(9, .long zv12), (7, .long zv10), (5, .long zo7), (4, .int za1), (0, .ref (ad 0)), (1, .int p1), (2, .int p2), (3, .int p3)]) hx hb dX10_part_82 hl (by decide) rfl (fun ls hl => ?_)
            refine lv_lload hx hb dX10_part_84 (lv_at hl 1 rfl) ?_
            refine lv_iload_n hx hb dX10_part_86 rfl (lv_at hl 6 rfl) ?_
            refine lv_i2l (v := (Int32.toInt64 p2)) hx hb dX10_part_87 rfl ?_
            obtain ⟨zg13, hF⟩ := z_grd hF
            refine lv_ldiv hx hb dX10_part_88 zg13 ?_
            refine lv_iload_n hx hb dX10_part_89 rfl (lv_at hl 7 rfl) ?_
            refine lv_i2l (v := (Int32.toInt64 p3)) hx hb dX10_part_90 rfl ?_
            refine lv_lload hx hb dX10_part_91 (lv_at hl 0 rfl) ?_
            refine z_lcmp_ge (tgt := 101) hx hb dX10_part_93 dX10_part_94 (by decide) (fun zc14 => ?_) (fun zc14 => ?_)
            · have hF := z_neg hF zc14
              refine lv_iconst (v := 0) hx hb dX10_part_101 (by decide) ?_
              refine lv_i2l (v := (Int32.toInt64 0)) hx hb dX10_part_102 rfl ?_
              refine lv_ladd hx hb dX10_part_103 ?_
              refine lv_lload hx hb dX10_part_104 (lv_at hl 2 rfl) ?_
              refine lv_lmul hx hb dX10_part_106 ?_
              have ho := (Option.some.inj hF).symm
              refine vx_ret ?_
              refine W.widen (k := 2) (n := 12) (Nat.le_of_ble_eq_true rfl) (Nat.le_of_ble_eq_true rfl) ?_
              exact W.lret (v := (((zv10 / (Int32.toInt64 p2)) + (Int32.toInt64 0)) * zo7)) hx hb hr (fun t ht hW => ⟨⟨(((zv10 / (Int32.toInt64 p2)) + (Int32.toInt64 0)) * zo7), (), rfl, ⟨_, ho, rfl⟩, z_end ht hP⟩, hS.F ht⟩) hS.2.2 dX10_part_107
            · have hF := z_pos hF zc14
              refine lv_iconst (v := 1) hx hb dX10_part_97 (by decide) ?_
              refine lv_goto (tgt := 102) hx hb dX10_part_98 (by decide) ?_
              refine lv_i2l (v := (Int32.toInt64 1)) hx hb dX10_part_102 rfl ?_
              refine lv_ladd hx hb dX10_part_103 ?_
              refine lv_lload hx hb dX10_part_104 (lv_at hl 2 rfl) ?_
              refine lv_lmul hx hb dX10_part_106 ?_
              have ho := (Option.some.inj hF).symm
              refine vx_ret ?_
              refine W.widen (k := 2) (n := 12) (Nat.le_of_ble_eq_true rfl) (Nat.le_of_ble_eq_true rfl) ?_
              exact W.lret (v := (((zv10 / (Int32.toInt64 p2)) + (Int32.toInt64 1)) * zo7)) hx hb hr (fun t ht hW => ⟨⟨(((zv10 / (Int32.toInt64 p2)) + (Int32.toInt64 1)) * zo7), (), rfl, ⟨_, ho, rfl⟩, z_end ht hP⟩, hS.F ht⟩) hS.2.2 dX10_part_107
          · have hF := z_neg hF zc5
            have ho := (Option.some.inj hF).symm
            obtain ⟨sa, hsa⟩ := hB.2.1.2.2.1 (228, "no such part") (by decide +kernel)
            exact vx_throwS hx hb hl0 (own := RX10) (cls := "java/lang/IndexOutOfBoundsException") (text := "no such part") (names := ["java/lang/RuntimeException", "java/lang/Exception"]) hown (by decide +kernel) (by decide +kernel) (hts _ mU_824) (hts _ mU_93) hsa (zat_203 hts hB) zgo_203 hB.1.1 hB.1.2 hS (hl.1.trans hml.symm) dX10_part_37 dX10_part_40 dX10_part_41 dX10_part_43 dX10_part_46 (fun x hx => (hnx x hx).elim) (Nat.le_of_ble_eq_true rfl) (Nat.le_of_ble_eq_true rfl) (Nat.le_of_ble_eq_true rfl) (Nat.le_of_ble_eq_true rfl) hlocks (fun t ha hz hk => ⟨(4, ()), ho, ⟨rfl, (z_thr hP hS hz hk).1⟩, (z_thr hP hS hz hk).2⟩) hS.2.2 (Nat.le_of_ble_eq_true rfl) (Nat.le_of_ble_eq_true rfl)
      · have hF := z_neg hF zc3
        have ho := (Option.some.inj hF).symm
        obtain ⟨sa, hsa⟩ := hB.2.1.2.2.1 (226, "no such number of parts") (by decide +kernel)
        exact vx_throwS hx hb hl0 (own := RX10) (cls := "java/lang/IllegalArgumentException") (text := "no such number of parts") (names := ["java/lang/RuntimeException", "java/lang/Exception"]) hown (by decide +kernel) (by decide +kernel) (hts _ mU_456) (hts _ mU_80) hsa (zat_156 hts hB) zgo_156 hB.1.1 hB.1.2 hS (hl.1.trans hml.symm) dX10_part_18 dX10_part_21 dX10_part_22 dX10_part_24 dX10_part_27 (fun x hx => (hnx x hx).elim) (Nat.le_of_ble_eq_true rfl) (Nat.le_of_ble_eq_true rfl) (Nat.le_of_ble_eq_true rfl) (Nat.le_of_ble_eq_true rfl) hlocks (fun t ha hz hk => ⟨(0, ()), ho, ⟨rfl, (z_thr hP hS hz hk).1⟩, (z_thr hP hS hz hk).2⟩) hS.2.2 (Nat.le_of_ble_eq_true rfl) (Nat.le_of_ble_eq_true rfl)
