abbrev w_Jx29ce0_ordinal_8abf5 : List Cond := .code yJx29ce0_ordinal_8abf5 cJx29ce0_ordinal_8abf5 1 (some .int) :: wU
abbrev r_Jx29ce0_ordinal_8abf5 : Room := { frames := 0, cells := 0, slots := 0, locals := 0 }
abbrev q_Jx29ce0_ordinal_8abf5 (g : GG) (o : Int32) (A : Nat → Prop) := va_Qi (fun (r : Int32) (u : Unit) => o = r) (fun u t => va_P (gD g) zCl [] t.heap) A
set_option maxHeartbeats 4000000 in
set_option maxRecDepth 100000 in
theorem c_Jx29ce0_ordinal_8abf5 (l : Launch) (g : GG) (sz : Nat) (k0 : Nat) (hk0 : k0 < 8) (o : Int32) (hF : F_Jx29ce0_ordinal_8abf5 k0 = some o) : Met l yJx29ce0_ordinal_8abf5 w_Jx29ce0_ordinal_8abf5 r_Jx29ce0_ordinal_8abf5 (va_Pc [.ref (gaE g k0)] (zP g [] sz)) (q_Jx29ce0_ordinal_8abf5 g o (va_A [] sz)) 0 0 (va_A [] sz) := by
  refine Met.ofW (cc := cJx29ce0_ordinal_8abf5) (maxL := 1) (ret := (some .int)) (by decide) rfl ?_
  intro p e s m args below meth c s₁ B hml hv
  obtain ⟨rfl, rfl, hP, hK, hD0, hB⟩ := hv
  have hx := B.exec
  have hb := B.bytes
  have hr := B.returns
  have hts : ∀ w ∈ wU, w.before _ s = true := fun w h => atoms_spec (ws := w_Jx29ce0_ordinal_8abf5) B.pre w (List.mem_cons_of_mem _ h)
  have hown : s.vm.findClass RJx29ce0 = some m.cls := findClass_of_methodNamed B.named
  have hlocks := B.notSynchronized
  have hD := hD0.self (sz := s.heap.size)
  generalize hAe : va_A [] s.heap.size = A at hD hB ⊢
  have hA : ∀ q : Nat, s.heap.size ≤ q → A q := fun q h => by rw [← hAe]; exact Or.inr h
  have hS : va_S A s.heap s.heap [] := va_S.rf
  have hl := lv_entry ([.ref (gaE g k0)]) (n := 1) (Nat.le_of_ble_eq_true rfl)
  rw [lg_entry_eq]
  generalize (lg_sl ([.ref (gaE g k0)]) ++ List.replicate (1 - (lg_sl ([.ref (gaE g k0)])).length) Slot.unset).toArray = ls at hl ⊢
  have hl : lv_has ls 1 [(0, .ref (gaE g k0))] := hl
  unfold F_Jx29ce0_ordinal_8abf5 at hF
  refine lv_aload_n hx hb dJx29ce0_ordinal_8abf5_0 rfl (lv_at hl 0 rfl) ?_
  refine vk_getf (v := .int (zord k0)) hx hb ((hB.2.2.2.1.1.1 k0 hk0).2.2 _ List.mem_cons_self) hS hown (hts _ mU_1731) (fun _ h9 => h9) dJx29ce0_ordinal_8abf5_1 ?_
  have ho := (Option.some.inj hF).symm
  exact W.iret (v := (zord k0)) hx hb hr (fun t ht hW => ⟨⟨(zord k0), (), rfl, ho, z_end ht hP⟩, hS.F ht⟩) hS.2.2 dJx29ce0_ordinal_8abf5_4
abbrev w_X6_readKind : List Cond := .code yX6_readKind cX6_readKind 4 (some (.object "DecimalMenagerie$Kind")) :: wU
abbrev r_X6_readKind : Room := { frames := 5, cells := 0, slots := 0, locals := 107 }
abbrev q_X6_readKind (g : GG) (t0 t1 t2 : Nat) (ptx : Nat → Int32) (plen : Int32) (ppos : Int32) (pcnt : Int32) (o : Option Nat × Int32) (A : Nat → Prop) := va_Qe (gaE g) (fun (r : Option Nat) (u : Int32) => o.1 = r ∧ o.2 = u) (fun u t => va_P (gD g) zCl (wPT g t0 t1 t2 ptx plen u pcnt) t.heap) A
set_option maxHeartbeats 4000000 in
set_option maxRecDepth 100000 in
theorem c_X6_readKind (l : Launch) (g : GG) (t0 t1 t2 : Nat) (ptx : Nat → Int32) (plen : Int32) (ppos : Int32) (pcnt : Int32) (sz : Nat) (fu : Nat) (o : Option Nat × Int32) (hF : F_X6_readKind fu ptx plen ppos = some o) : Met l yX6_readKind w_X6_readKind r_X6_readKind (va_Pc [.ref t0] (zP g (wPT g t0 t1 t2 ptx plen ppos pcnt) sz)) (q_X6_readKind g t0 t1 t2 ptx plen ppos pcnt o (va_A (wPT g t0 t1 t2 ptx plen ppos pcnt) sz)) 0 0 (va_A (wPT g t0 t1 t2 ptx plen ppos pcnt) sz) := by
  refine Met.ofW (cc := cX6_readKind) (maxL := 4) (ret := (some (.object "DecimalMenagerie$Kind"))) (by decide) rfl ?_
  intro p e s m args below meth c s₁ B hml hv
  obtain ⟨rfl, rfl, hP, hK, hD0, hB⟩ := hv
  have hx := B.exec
  have hb := B.bytes
  have hr := B.returns
  have hts : ∀ w ∈ wU, w.before _ s = true := fun w h => atoms_spec (ws := w_X6_readKind) B.pre w (List.mem_cons_of_mem _ h)
  have hown : s.vm.findClass RX6 = some m.cls := findClass_of_methodNamed B.named
  have hlocks := B.notSynchronized
  have hD := hD0.self (sz := s.heap.size)
  generalize hAe : va_A (wPT g t0 t1 t2 ptx plen ppos pcnt) s.heap.size = A at hD hB ⊢
  have hA : ∀ q : Nat, s.heap.size ≤ q → A q := fun q h => by rw [← hAe]; exact Or.inr h
  have hS : va_S A s.heap s.heap [] := va_S.rf
  have hl := lv_entry ([.ref t0]) (n := 4) (Nat.le_of_ble_eq_true rfl)
  rw [lg_entry_eq]
  generalize (lg_sl ([.ref t0]) ++ List.replicate (4 - (lg_sl ([.ref t0])).length) Slot.unset).toArray = ls at hl ⊢
  have hl : lv_has ls 4 [(0, .ref t0)] := hl
  unfold F_X6_readKind at hF
  have K4 : ∀ (n4 : Nat) (ppos : Int32) (x1 : Int32) (x2 : Int32), F_X6_readKind_4 fu n4 ptx plen ppos x1 x2 = some o → ∀ (H : Heap) (locs : List Loc) (ls : Array Slot), lv_has ls 4 [(0, .ref t0), (1, .int x1), (2, .int x2)] → va_P (gD g) zCl (wPT g t0 t1 t2 ptx plen ppos pcnt) H → va_D A (wPT g t0 t1 t2 ptx plen ppos pcnt) → va_S A s.heap H locs → W p l e (headSpec w_X6_readKind r_X6_readKind).room s m ([.ref t0] : List Value).toArray below meth c H locs 0 0 (MQ below (q_X6_readKind g t0 t1 t2 ptx plen ppos pcnt o A) ([.ref t0] : List Value).toArray s 0 0 A) (F0 m 4 ls []) := by
    intro n4
    induction n4 with
    | zero =>
      intro ppos x1 x2 hF
      exact absurd hF (by simp [F_X6_readKind_4])
    | succ n4 ih4 =>
      intro ppos x1 x2 hF H locs ls hl hP hD hS
      unfold F_X6_readKind_4 at hF
      refine lv_iload_n hx hb dX6_readKind_4 rfl (lv_at hl 2 rfl) ?_
      refine va_gets hx hb hB.2.2.2.2.1.1 hS hown (hts _ mU_1066) (fun _ h9 => h9) dX6_readKind_5 ?_
      refine va_tlen hx hb hB.2.2.2.2.1.2 hS (v := 8) rfl dX6_readKind_8 ?_
      refine lv_icmp_ge (tgt := 68) hx hb dX6_readKind_9 (by decide) (fun zc1 => ?_) (fun zc1 => ?_)
      · have hF := z_pos hF zc1
        refine lv_aload_n hx hb dX6_readKind_68 rfl (lv_at hl 0 rfl) ?_
        refine lv_dup hx hb dX6_readKind_69 rfl ?_
        refine va_get (D := gD g) (ci := 4) (v := .int ppos) (C := RX6) (T := TX6) (N := 5) hx hb hts inX6 hown hK hP 0 rfl rfl 2 (by decide) (hts _ mU_245) (fun _ h9 => h9) rfl dX6_readKind_70 ?_
        refine lv_iload_n hx hb dX6_readKind_73 rfl (lv_at hl 1 rfl) ?_
        refine lv_iadd hx hb dX6_readKind_74 ?_
        refine va_put (D := gD g) (ci := 4) (v := .int (ppos + x1)) (ty := .int) (C := RX6) (T := TX6) (N := 5) hx hb hts inX6 tyX6 tyX6_ok nmX6 hown hK hP hD hS 0 rfl rfl 2 (by decide) (hts _ mU_245) (fun _ h9 => h9) rfl (by decide +kernel) rfl rfl (Nat.le_of_ble_eq_true rfl) dX6_readKind_75 (fun H locs hP hD hS => ?_)
        have hP : va_P (gD g) zCl (wPT g t0 t1 t2 ptx plen (ppos + x1) pcnt) H := hP
        have hD : va_D A (wPT g t0 t1 t2 ptx plen (ppos + x1) pcnt) := hD
        refine lv_null hx hb dX6_readKind_78 ?_
        have ho := (Option.some.inj hF).symm
        exact W.aret (v := .null) hx hb hr (Or.inl ⟨_, rfl⟩) (Or.inl rfl) (fun t ht hW => ⟨⟨none, (ppos + x1), rfl, ⟨by rw [ho], by rw [ho]⟩, z_end ht hP⟩, hS.F ht⟩) hS.2.2 dX6_readKind_79
      · have hF := z_neg hF zc1
        refine lv_aload_n hx hb dX6_readKind_12 rfl (lv_at hl 0 rfl) ?_
        refine va_gets hx hb hB.2.2.2.2.1.1 hS hown (hts _ mU_1066) (fun _ h9 => h9) dX6_readKind_13 ?_
        refine lv_iload_n hx hb dX6_readKind_16 rfl (lv_at hl 2 rfl) ?_
        obtain ⟨zg2, hF⟩ := z_grd hF
        refine vb_tq hx hb hB.2.2.2.2.1.2 hS zg2 (v := .ref (gaE g (Int32.toNatClampNeg x2))) rfl dX6_readKind_17 ?_
        refine z_getfN (v := .ref (gaK g ((Int32.toNatClampNeg x2) + 1))) hx hb (hB.2.2.2.1.2 (Int32.toNatClampNeg x2) (Nat.lt_of_not_le (fun h => zg2 (Or.inr h)))) hS hown (va_Nw.use rfl (hB.2.1.1 _ zn_1730)) (fun _ h9 => h9) dX6_readKind_18 ?_
        obtain ⟨zo3, hzo3, hF⟩ := z_bind hF
        refine z_calliE (fun (_ : Unit) => (wPT g t0 t1 t2 ptx plen ppos pcnt)) (va_runV (As := [.ref (gaK g ((Int32.toNatClampNeg x2) + 1))]) (rest := []) ⟨hx, hb, hml, hown, hts⟩ (c_X6_fittingCharacters l g t0 t1 t2 ptx plen ppos pcnt _ ((Int32.toNatClampNeg x2) + 1) (Nat.succ_lt_succ (Nat.lt_of_not_le (fun h => zg2 (Or.inr h)))) fu _ hzo3) (cwV 1 hts (gdV mU_1068 mU_1070 mU_16 mU_70 mU_1071) rfl rfl rfl (by decide +kernel) ⟨Nat.le_of_ble_eq_true rfl, Nat.le_of_ble_eq_true rfl⟩) ⟨z_blind _ _ _ _, va_recv hK hP (ci := 4) (q0 := 0) rfl rfl, fun U hU hW => z_preE hP hD hK hB hS hA hU hW⟩ rfl rfl hl.1 rfl (lv_room (Nat.le_of_ble_eq_true rfl)) dX6_readKind_21 ⟨Nat.le_of_ble_eq_true rfl, Nat.le_of_ble_eq_true rfl⟩) hD hS hA (fun _ => rfl) (fun r u H locs hw hP hD hS => ?_)
        subst hw
        have hP : va_P (gD g) zCl (wPT g t0 t1 t2 ptx plen ppos pcnt) H := hP
        have hD : va_D A (wPT g t0 t1 t2 ptx plen ppos pcnt) := hD
        refine lv_istore_n (lv' := [(3, .int zo3), (0, .ref t0), (1, .int x1), (2, .int x2)]) hx hb dX6_readKind_24 rfl hl (by decide) rfl (fun ls hl => ?_)
        refine lv_iload_n hx hb dX6_readKind_25 rfl (lv_at hl 0 rfl) ?_
        refine va_gets hx hb hB.2.2.2.2.1.1 hS hown (hts _ mU_1066) (fun _ h9 => h9) dX6_readKind_26 ?_
        refine lv_iload_n hx hb dX6_readKind_29 rfl (lv_at hl 3 rfl) ?_
        obtain ⟨zg4, hF⟩ := z_grd hF
        refine vb_tq hx hb hB.2.2.2.2.1.2 hS zg4 (v := .ref (gaE g (Int32.toNatClampNeg x2))) rfl dX6_readKind_30 ?_
        refine z_getfN (v := .ref (gaK g ((Int32.toNatClampNeg x2) + 1))) hx hb (hB.2.2.2.1.2 (Int32.toNatClampNeg x2) (Nat.lt_of_not_le (fun h => zg4 (Or.inr h)))) hS hown (va_Nw.use rfl (hB.2.1.1 _ zn_1730)) (fun _ h9 => h9) dX6_readKind_31 ?_
        obtain ⟨zo5, hzo5, hF⟩ := z_bind hF
        refine z_calli (fun (_ : Unit) => []) [] (va_runV (As := []) (rest := [.int zo3]) ⟨hx, hb, hml, hown, hts⟩ (c_J0_length_8abf5 l g _ ((Int32.toNatClampNeg x2) + 1) (Nat.succ_lt_succ (Nat.lt_of_not_le (fun h => zg4 (Or.inr h)))) _ hzo5) (cwV 0 hts (gdV mU_1072 mU_551 mU_552 mU_81 mU_553) rfl rfl rfl (by decide +kernel) ⟨Nat.le_of_ble_eq_true rfl, Nat.le_of_ble_eq_true rfl⟩) ⟨z_blind _ _ _ _, vk_recv hB.2.2.1.1 (Nat.succ_lt_succ (Nat.lt_of_not_le (fun h => zg4 (Or.inr h)))) hS, fun U hU hW => z_pre [] hP hD hK hB hS hA rfl rfl hU hW⟩ rfl rfl hl.1 rfl (lv_room (Nat.le_of_ble_eq_true rfl)) dX6_readKind_34 ⟨Nat.le_of_ble_eq_true rfl, Nat.le_of_ble_eq_true rfl⟩) hP hD hS hA rfl (fun _ => rfl) (fun r u H locs hw hP hD hS => ?_)
        subst hw
        have hP : va_P (gD g) zCl (wPT g t0 t1 t2 ptx plen ppos pcnt) H := hP
        have hD : va_D A (wPT g t0 t1 t2 ptx plen ppos pcnt) := hD
        refine lv_icmp_ne (tgt := 56) hx hb dX6_readKind_37 (by decide) (fun zc6 => ?_) (fun zc6 => ?_)
        · have hF := z_neg hF zc6
          refine lv_iload_n hx hb dX6_readKind_56 rfl (lv_at hl 2 rfl) ?_
          refine lv_iload_n hx hb dX6_readKind_57 rfl (lv_at hl 0 rfl) ?_
          refine va_mmax hx hb (hml.trans hl.1.symm) hown (hts _ mU_1093) (hts _ mU_565) (hts _ mU_83) (hts _ mU_566) (Nat.le_of_ble_eq_true rfl) (Nat.le_of_ble_eq_true rfl) (Nat.le_of_ble_eq_true rfl) (Nat.le_of_ble_eq_true rfl) dX6_readKind_58 ?_
          obtain ⟨zv7, ezv7, hF⟩ := z_let hF
          refine z_topi ezv7 ?_
          refine lv_istore_n (lv' := [(1, .int zv7), (3, .int zo3), (0, .ref t0), (2, .int x2)]) hx hb dX6_readKind_61 rfl hl (by decide) rfl (fun ls hl => ?_)
          obtain ⟨zv8, ezv8, hF⟩ := z_let hF
          refine lv_iinc (v := zv8) (lv' := [(2, .int zv8), (1, .int zv7), (3, .int zo3), (0, .ref t0)]) hx hb dX6_readKind_62 hl (k := 3) rfl (by rw [ezv8]; rfl) (by decide) rfl (fun ls hl => ?_)
          refine lv_goto (tgt := 4) hx hb dX6_readKind_65 (by decide) ?_
          exact ih4 ppos zv7 zv8 hF _ _ _ (lv_sub hl [3, 1, 0] rfl) hP hD hS
        · have hF := z_pos hF zc6
          refine lv_aload_n hx hb dX6_readKind_40 rfl (lv_at hl 1 rfl) ?_
          refine lv_dup hx hb dX6_readKind_41 rfl ?_
          refine va_get (D := gD g) (ci := 4) (v := .int ppos) (C := RX6) (T := TX6) (N := 5) hx hb hts inX6 hown hK hP 0 rfl rfl 2 (by decide) (hts _ mU_245) (fun _ h9 => h9) rfl dX6_readKind_42 ?_
          refine lv_iload_n hx hb dX6_readKind_45 rfl (lv_at hl 0 rfl) ?_
          refine lv_iadd hx hb dX6_readKind_46 ?_
          refine va_put (D := gD g) (ci := 4) (v := .int (ppos + zo3)) (ty := .int) (C := RX6) (T := TX6) (N := 5) hx hb hts inX6 tyX6 tyX6_ok nmX6 hown hK hP hD hS 0 rfl rfl 2 (by decide) (hts _ mU_245) (fun _ h9 => h9) rfl (by decide +kernel) rfl rfl (Nat.le_of_ble_eq_true rfl) dX6_readKind_47 (fun H locs hP hD hS => ?_)
          have hP : va_P (gD g) zCl (wPT g t0 t1 t2 ptx plen (ppos + zo3) pcnt) H := hP
          have hD : va_D A (wPT g t0 t1 t2 ptx plen (ppos + zo3) pcnt) := hD
          refine va_gets hx hb hB.2.2.2.2.1.1 hS hown (hts _ mU_1066) (fun _ h9 => h9) dX6_readKind_50 ?_
          refine lv_iload_n hx hb dX6_readKind_53 rfl (lv_at hl 3 rfl) ?_
          obtain ⟨zg9, hF⟩ := z_grd hF
          refine vb_tq hx hb hB.2.2.2.2.1.2 hS zg9 (v := .ref (gaE g (Int32.toNatClampNeg x2))) rfl dX6_readKind_54 ?_
          have ho := (Option.some.inj hF).symm
          exact W.aret (v := .ref (gaE g (Int32.toNatClampNeg x2))) hx hb hr (Or.inl ⟨_, rfl⟩) (Or.inr ⟨_, rfl⟩) (fun t ht hW => ⟨⟨(some (Int32.toNatClampNeg x2)), (ppos + zo3), rfl, ⟨by rw [ho], by rw [ho]⟩, z_end ht hP⟩, hS.F ht⟩) hS.2.2 dX6_readKind_55
  refine lv_iconst (v := 0) hx hb dX6_readKind_0 (by decide) ?_
  refine lv_istore_n (lv' := [(1, .int 0), (0, .ref t0)]) hx hb dX6_readKind_1 rfl hl (by decide) rfl (fun ls hl => ?_)
  refine lv_iconst (v := 0) hx hb dX6_readKind_2 (by decide) ?_
  refine lv_istore_n (lv' := [(2, .int 0), (1, .int 0), (0, .ref t0)]) hx hb dX6_readKind_3 rfl hl (by decide) rfl (fun ls hl => ?_)
  exact K4 fu ppos 0 0 hF _ _ _ (lv_sub hl [2, 1, 0] rfl) hP hD hS
abbrev w_X6_readCommand : List Cond := .code yX6_readCommand cX6_readCommand 3 (some .boolean) :: wU
abbrev r_X6_readCommand : Room := { frames := 6, cells := 0, slots := 0, locals := 148 }
abbrev q_X6_readCommand (g : GG) (t0 t1 t2 u0 : Nat) (ptx : Nat → Int32) (plen : Int32) (ppos : Int32) (pcnt : Int32) (cc : CC) (o : Int32 × Int32 × CC) (A : Nat → Prop) := va_Qi (fun (r : Int32) (u : Int32 × CC) => o.1 = r ∧ o.2 = u) (fun u t => va_P (gD g) zCl (wPC g t0 t1 t2 u0 ptx plen u.1 pcnt u.2) t.heap) A
set_option maxHeartbeats 4000000 in
set_option maxRecDepth 100000 in
theorem c_X6_readCommand (l : Launch) (g : GG) (t0 t1 t2 u0 : Nat) (ptx : Nat → Int32) (plen : Int32) (ppos : Int32) (pcnt : Int32) (cc : CC) (sz : Nat) (fu : Nat) (o : Int32 × Int32 × CC) (hF : F_X6_readCommand fu ptx plen ppos cc = some o) : Met l yX6_readCommand w_X6_readCommand r_X6_readCommand (va_Pc [.ref t0, .ref u0] (zP g (wPC g t0 t1 t2 u0 ptx plen ppos pcnt cc) sz)) (q_X6_readCommand g t0 t1 t2 u0 ptx plen ppos pcnt cc o (va_A (wPC g t0 t1 t2 u0 ptx plen ppos pcnt cc) sz)) 0 0 (va_A (wPC g t0 t1 t2 u0 ptx plen ppos pcnt cc) sz) := by
  refine Met.ofW (cc := cX6_readCommand) (maxL := 3) (ret := (some .boolean)) (by decide) rfl ?_
  intro p e s m args below meth c s₁ B hml hv
  obtain ⟨rfl, rfl, hP, hK, hD0, hB⟩ := hv
  have hx := B.exec
  have hb := B.bytes
  have hr := B.returns
  have hts : ∀ w ∈ wU, w.before _ s = true := fun w h => atoms_spec (ws := w_X6_readCommand) B.pre w (List.mem_cons_of_mem _ h)
  have hown : s.vm.findClass RX6 = some m.cls := findClass_of_methodNamed B.named
  have hlocks := B.notSynchronized
  have hD := hD0.self (sz := s.heap.size)
  generalize hAe : va_A (wPC g t0 t1 t2 u0 ptx plen ppos pcnt cc) s.heap.size = A at hD hB ⊢
  have hA : ∀ q : Nat, s.heap.size ≤ q → A q := fun q h => by rw [← hAe]; exact Or.inr h
  have hS : va_S A s.heap s.heap [] := va_S.rf
  have hl := lv_entry ([.ref t0, .ref u0]) (n := 3) (Nat.le_of_ble_eq_true rfl)
  rw [lg_entry_eq]
  generalize (lg_sl ([.ref t0, .ref u0]) ++ List.replicate (3 - (lg_sl ([.ref t0, .ref u0])).length) Slot.unset).toArray = ls at hl ⊢
  have hl : lv_has ls 3 [(0, .ref t0), (1, .ref u0)] := hl
  unfold F_X6_readCommand at hF
  refine lv_aload_n hx hb dX6_readCommand_0 rfl (lv_at hl 0 rfl) ?_
  obtain ⟨zo1, hzo1, hF⟩ := z_bind hF
  refine z_calle (fun (u : Int32) => (wPT g t0 t1 t2 ptx plen u pcnt)) [0, 1] (va_runV (As := []) (rest := []) ⟨hx, hb, hml, hown, hts⟩ (c_X6_readKind l g t0 t1 t2 ptx plen ppos pcnt _ fu _ hzo1) (cwV 0 hts (gdV mU_1062 mU_1064 mU_15 mU_70 mU_1065) rfl rfl rfl (by decide +kernel) ⟨Nat.le_of_ble_eq_true rfl, Nat.le_of_ble_eq_true rfl⟩) ⟨z_blind _ _ _ _, va_recv hK hP (ci := 4) (q0 := 0) rfl rfl, fun U hU hW => z_pre [0, 1] hP hD hK hB hS hA rfl rfl hU hW⟩ rfl rfl hl.1 rfl (lv_room (Nat.le_of_ble_eq_true rfl)) dX6_readCommand_1 ⟨Nat.le_of_ble_eq_true rfl, Nat.le_of_ble_eq_true rfl⟩) hP hD hS hA rfl (fun _ => rfl) (fun r u H locs hw hP hD hS => ?_)
  obtain ⟨rfl, rfl⟩ := hw
  have hP : va_P (gD g) zCl (wPC g t0 t1 t2 u0 ptx plen zo1.2 pcnt cc) H := hP
  have hD : va_D A (wPC g t0 t1 t2 u0 ptx plen zo1.2 pcnt cc) := hD
  rcases z_opt hF with ⟨hq, hF⟩ | ⟨zk2, hq, hF⟩
  · refine z_topn hq ?_
    refine lv_astore_nN (lv' := [(2, .null), (0, .ref t0), (1, .ref u0)]) hx hb dX6_readCommand_4 rfl hl (by decide) rfl (fun ls hl => ?_)
    refine lv_aload_nN hx hb dX6_readCommand_5 rfl (lv_at hl 0 rfl) ?_
    refine lv_ifnonnullN hx hb dX6_readCommand_6 ?_
    refine lv_iconst (v := 0) hx hb dX6_readCommand_9 (by decide) ?_
    have ho := (Option.some.inj hF).symm
    exact W.zret (v := 0) hx hb hr rfl (fun t ht hW => ⟨⟨0, (zo1.2, cc), rfl, ⟨by rw [ho], by rw [ho]⟩, z_end ht hP⟩, hS.F ht⟩) hS.2.2 dX6_readCommand_10
  · refine z_tops hq ?_
    refine lv_astore_n (lv' := [(2, .ref (gaE g zk2)), (0, .ref t0), (1, .ref u0)]) hx hb dX6_readCommand_4 rfl hl (by decide) rfl (fun ls hl => ?_)
    refine lv_aload_n hx hb dX6_readCommand_5 rfl (lv_at hl 0 rfl) ?_
    refine lv_ifnonnull (tgt := 11) hx hb dX6_readCommand_6 (by decide) ?_
    refine lv_aload_n hx hb dX6_readCommand_11 rfl (lv_at hl 2 rfl) ?_
    refine lv_aload_n hx hb dX6_readCommand_12 rfl (lv_at hl 0 rfl) ?_
    refine va_putN (D := gD g) (ci := 0) (v := .ref (gaE g zk2)) (ty := (.object "DecimalMenagerie$Kind")) (C := RX1) (T := TX1) (N := 7) hx hb hts inX1 tyX1 tyX1_ok nmX1 hown hK hP hD hS 2 rfl rfl 0 (by decide) (va_Nw.use rfl (hB.2.1.1 _ zn_213)) (fun _ h9 => h9) rfl (by decide +kernel) rfl rfl (Nat.le_of_ble_eq_true rfl) dX6_readCommand_13 (fun H locs hP hD hS => ?_)
    have hP : va_P (gD g) zCl (wPC g t0 t1 t2 u0 ptx plen zo1.2 pcnt (zk2, (k_first cc), (k_second cc), (k_whole cc), (k_frac cc), (k_scale cc), (k_mode cc))) H := hP
    have hD : va_D A (wPC g t0 t1 t2 u0 ptx plen zo1.2 pcnt (zk2, (k_first cc), (k_second cc), (k_whole cc), (k_frac cc), (k_scale cc), (k_mode cc))) := hD
    refine va_gets hx hb hB.2.2.2.2.2.1 hS hown (hts _ mU_1094) (fun _ h9 => h9) dX6_readCommand_16 ?_
    refine lv_aload_n hx hb dX6_readCommand_19 rfl (lv_at hl 0 rfl) ?_
    obtain ⟨zg3, hF⟩ := z_grd hF
    obtain ⟨zo4, hzo4, hF⟩ := z_bind hF
    refine z_calli (fun (_ : Unit) => []) [] (va_runU (As := []) (rest := [.ref (gtS g)]) ⟨hx, hb, hml, hown, hts⟩ (c_Jx29ce0_ordinal_8abf5 l g _ zk2 (Classical.not_not.mp zg3) _ hzo4) (va_cwU 0 hts (gdUU mU_1096 mU_1097 mU_1099 mU_1100 mU_72 mU_1101) rfl rfl rfl rfl (by decide +kernel) ⟨Nat.le_of_ble_eq_true rfl, Nat.le_of_ble_eq_true rfl⟩) ⟨z_blind _ _ _ _, va_recvE hB.2.2.2.1.1 (Classical.not_not.mp zg3) hS, fun U hU hW => z_pre [] hP hD hK hB hS hA rfl rfl hU hW⟩ rfl rfl hl.1 rfl (lv_room (Nat.le_of_ble_eq_true rfl)) dX6_readCommand_20 ⟨Nat.le_of_ble_eq_true rfl, Nat.le_of_ble_eq_true rfl⟩) hP hD hS hA rfl (fun _ => rfl) (fun r u H locs hw hP hD hS => ?_)
    subst hw
    have hP : va_P (gD g) zCl (wPC g t0 t1 t2 u0 ptx plen zo1.2 pcnt (zk2, (k_first cc), (k_second cc), (k_whole cc), (k_frac cc), (k_scale cc), (k_mode cc))) H := hP
    have hD : va_D A (wPC g t0 t1 t2 u0 ptx plen zo1.2 pcnt (zk2, (k_first cc), (k_second cc), (k_whole cc), (k_frac cc), (k_scale cc), (k_mode cc))) := hD
    obtain ⟨zg5, hF⟩ := z_grd hF
    refine va_ti hx hb hB.2.2.2.2.2.2 hS zg5 (v := .int (zsw (Int32.toNatClampNeg zo4))) rfl dX6_readCommand_23 ?_
    by_cases zc6 : (zsw (Int32.toNatClampNeg zo4)) = 1
    · have hF := z_pos hF zc6
      refine lv_tableIn (tgt := 68) (off := 44) hx hb dX6_readCommand_24 (by rw [zc6]; decide) (by rw [zc6]; decide) (by rw [zc6]; rfl) (by decide) ?_
      refine lv_aload_n hx hb dX6_readCommand_68 rfl (lv_at hl 1 rfl) ?_
      refine lv_aload_n hx hb dX6_readCommand_69 rfl (lv_at hl 2 rfl) ?_
      obtain ⟨zo7, hzo7, hF⟩ := z_bind hF
      refine z_calliE (fun (u : Int32 × CC) => (wPC g t0 t1 t2 u0 ptx plen u.1 pcnt u.2)) (va_runV (As := [.ref u0]) (rest := []) ⟨hx, hb, hml, hown, hts⟩ (c_X6_readDecimal l g t0 t1 t2 u0 ptx plen zo1.2 pcnt (zk2, (k_first cc), (k_second cc), (k_whole cc), (k_frac cc), (k_scale cc), (k_mode cc)) _ fu _ hzo7) (cwV 1 hts (gdV mU_1102 mU_1104 mU_17 mU_70 mU_1105) rfl rfl rfl (by decide +kernel) ⟨Nat.le_of_ble_eq_true rfl, Nat.le_of_ble_eq_true rfl⟩) ⟨z_blind _ _ _ _, va_recv hK hP (ci := 4) (q0 := 0) rfl rfl, fun U hU hW => z_preE hP hD hK hB hS hA hU hW⟩ rfl rfl hl.1 rfl (lv_room (Nat.le_of_ble_eq_true rfl)) dX6_readCommand_70 ⟨Nat.le_of_ble_eq_true rfl, Nat.le_of_ble_eq_true rfl⟩) hD hS hA (fun _ => rfl) (fun r u H locs hw hP hD hS => ?_)
      obtain ⟨rfl, rfl⟩ := hw
      have hP : va_P (gD g) zCl (wPC g t0 t1 t2 u0 ptx plen zo7.2.1 pcnt zo7.2.2) H := hP
      have hD : va_D A (wPC g t0 t1 t2 u0 ptx plen zo7.2.1 pcnt zo7.2.2) := hD
      refine lv_if_eq (tgt := 97) hx hb dX6_readCommand_73 (by decide) (fun zc8 => ?_) (fun zc8 => ?_)
      · have hF := z_pos hF zc8
        refine lv_iconst (v := 0) hx hb dX6_readCommand_97 (by decide) ?_
        have ho := (Option.some.inj hF).symm
        exact W.zret (v := 0) hx hb hr rfl (fun t ht hW => ⟨⟨0, (zo7.2.1, zo7.2.2), rfl, ⟨by rw [ho], by rw [ho]⟩, z_end ht hP⟩, hS.F ht⟩) hS.2.2 dX6_readCommand_98
      · have hF := z_neg hF zc8
        refine lv_aload_n hx hb dX6_readCommand_76 rfl (lv_at hl 1 rfl) ?_
        refine lv_bipush (v := 32) hx hb dX6_readCommand_77 (by decide) ?_
        obtain ⟨zo9, hzo9, hF⟩ := z_bind hF
        refine z_calli (fun (u : Int32) => (wPT g t0 t1 t2 ptx plen u pcnt)) [0, 1] (va_runV (As := [.int 32]) (rest := []) ⟨hx, hb, hml, hown, hts⟩ (c_X6_readCharacter l g t0 t1 t2 ptx plen zo7.2.1 pcnt _ 32 _ hzo9) (cwV 1 hts (gdV mU_1114 mU_1116 mU_20 mU_70 mU_1117) rfl rfl rfl (by decide +kernel) ⟨Nat.le_of_ble_eq_true rfl, Nat.le_of_ble_eq_true rfl⟩) ⟨z_blind _ _ _ _, va_recv hK hP (ci := 4) (q0 := 0) rfl rfl, fun U hU hW => z_pre [0, 1] hP hD hK hB hS hA rfl rfl hU hW⟩ rfl rfl hl.1 rfl (lv_room (Nat.le_of_ble_eq_true rfl)) dX6_readCommand_79 ⟨Nat.le_of_ble_eq_true rfl, Nat.le_of_ble_eq_true rfl⟩) hP hD hS hA rfl (fun _ => rfl) (fun r u H locs hw hP hD hS => ?_)
        obtain ⟨rfl, rfl⟩ := hw
        have hP : va_P (gD g) zCl (wPC g t0 t1 t2 u0 ptx plen zo9.2 pcnt zo7.2.2) H := hP
        have hD : va_D A (wPC g t0 t1 t2 u0 ptx plen zo9.2 pcnt zo7.2.2) := hD
        refine lv_if_eq (tgt := 97) hx hb dX6_readCommand_82 (by decide) (fun zc10 => ?_) (fun zc10 => ?_)
        · have hF := z_pos hF zc10
          refine lv_iconst (v := 0) hx hb dX6_readCommand_97 (by decide) ?_
          have ho := (Option.some.inj hF).symm
          exact W.zret (v := 0) hx hb hr rfl (fun t ht hW => ⟨⟨0, (zo9.2, zo7.2.2), rfl, ⟨by rw [ho], by rw [ho]⟩, z_end ht hP⟩, hS.F ht⟩) hS.2.2 dX6_readCommand_98
        · have hF := z_neg hF zc10
          refine lv_aload_n hx hb dX6_readCommand_85 rfl (lv_at hl 1 rfl) ?_
          refine lv_aload_n hx hb dX6_readCommand_86 rfl (lv_at hl 2 rfl) ?_
          obtain ⟨zo11, hzo11, hF⟩ := z_bind hF
          refine z_calliE (fun (u : Int32 × CC) => (wPC g t0 t1 t2 u0 ptx plen u.1 pcnt u.2)) (va_runV (As := [.ref u0]) (rest := []) ⟨hx, hb, hml, hown, hts⟩ (c_X6_readScaleAndMode l g t0 t1 t2 u0 ptx plen zo9.2 pcnt zo7.2.2 _ fu _ hzo11) (cwV 1 hts (gdV mU_1122 mU_1124 mU_22 mU_70 mU_1125) rfl rfl rfl (by decide +kernel) ⟨Nat.le_of_ble_eq_true rfl, Nat.le_of_ble_eq_true rfl⟩) ⟨z_blind _ _ _ _, va_recv hK hP (ci := 4) (q0 := 0) rfl rfl, fun U hU hW => z_preE hP hD hK hB hS hA hU hW⟩ rfl rfl hl.1 rfl (lv_room (Nat.le_of_ble_eq_true rfl)) dX6_readCommand_87 ⟨Nat.le_of_ble_eq_true rfl, Nat.le_of_ble_eq_true rfl⟩) hD hS hA (fun _ => rfl) (fun r u H locs hw hP hD hS => ?_)
          obtain ⟨rfl, rfl⟩ := hw
          have hP : va_P (gD g) zCl (wPC g t0 t1 t2 u0 ptx plen zo11.2.1 pcnt zo11.2.2) H := hP
          have hD : va_D A (wPC g t0 t1 t2 u0 ptx plen zo11.2.1 pcnt zo11.2.2) := hD
          refine lv_if_eq (tgt := 97) hx hb dX6_readCommand_90 (by decide) (fun zc12 => ?_) (fun zc12 => ?_)
          · have hF := z_pos hF zc12
            refine lv_iconst (v := 0) hx hb dX6_readCommand_97 (by decide) ?_
            have ho := (Option.some.inj hF).symm
            exact W.zret (v := 0) hx hb hr rfl (fun t ht hW => ⟨⟨0, (zo11.2.1, zo11.2.2), rfl, ⟨by rw [ho], by rw [ho]⟩, z_end ht hP⟩, hS.F ht⟩) hS.2.2 dX6_readCommand_98
          · have hF := z_neg hF zc12
            refine lv_iconst (v := 1) hx hb dX6_readCommand_93 (by decide) ?_
            refine lv_goto (tgt := 98) hx hb dX6_readCommand_94 (by decide) ?_
            have ho := (Option.some.inj hF).symm
            exact W.zret (v := 1) hx hb hr rfl (fun t ht hW => ⟨⟨1, (zo11.2.1, zo11.2.2), rfl, ⟨by rw [ho], by rw [ho]⟩, z_end ht hP⟩, hS.F ht⟩) hS.2.2 dX6_readCommand_98
    have hF := z_neg hF zc6
    by_cases zc13 : (zsw (Int32.toNatClampNeg zo4)) = 2
    · have hF := z_pos hF zc13
      refine lv_tableIn (tgt := 99) (off := 75) hx hb dX6_readCommand_24 (by rw [zc13]; decide) (by rw [zc13]; decide) (by rw [zc13]; rfl) (by decide) ?_
      refine lv_aload_n hx hb dX6_readCommand_99 rfl (lv_at hl 1 rfl) ?_
      refine lv_aload_n hx hb dX6_readCommand_100 rfl (lv_at hl 2 rfl) ?_
      obtain ⟨zo14, hzo14, hF⟩ := z_bind hF
      refine z_calliE (fun (u : Int32 × CC) => (wPC g t0 t1 t2 u0 ptx plen u.1 pcnt u.2)) (va_runV (As := [.ref u0]) (rest := []) ⟨hx, hb, hml, hown, hts⟩ (c_X6_readFirst l g t0 t1 t2 u0 ptx plen zo1.2 pcnt (zk2, (k_first cc), (k_second cc), (k_whole cc), (k_frac cc), (k_scale cc), (k_mode cc)) _ fu _ hzo14) (cwV 1 hts (gdV mU_1136 mU_1138 mU_25 mU_70 mU_1139) rfl rfl rfl (by decide +kernel) ⟨Nat.le_of_ble_eq_true rfl, Nat.le_of_ble_eq_true rfl⟩) ⟨z_blind _ _ _ _, va_recv hK hP (ci := 4) (q0 := 0) rfl rfl, fun U hU hW => z_preE hP hD hK hB hS hA hU hW⟩ rfl rfl hl.1 rfl (lv_room (Nat.le_of_ble_eq_true rfl)) dX6_readCommand_101 ⟨Nat.le_of_ble_eq_true rfl, Nat.le_of_ble_eq_true rfl⟩) hD hS hA (fun _ => rfl) (fun r u H locs hw hP hD hS => ?_)
      obtain ⟨rfl, rfl⟩ := hw
      have hP : va_P (gD g) zCl (wPC g t0 t1 t2 u0 ptx plen zo14.2.1 pcnt zo14.2.2) H := hP
      have hD : va_D A (wPC g t0 t1 t2 u0 ptx plen zo14.2.1 pcnt zo14.2.2) := hD
      refine lv_if_eq (tgt := 145) hx hb dX6_readCommand_104 (by decide) (fun zc15 => ?_) (fun zc15 => ?_)
      · have hF := z_pos hF zc15
        refine lv_iconst (v := 0) hx hb dX6_readCommand_145 (by decide) ?_
        have ho := (Option.some.inj hF).symm
        exact W.zret (v := 0) hx hb hr rfl (fun t ht hW => ⟨⟨0, (zo14.2.1, zo14.2.2), rfl, ⟨by rw [ho], by rw [ho]⟩, z_end ht hP⟩, hS.F ht⟩) hS.2.2 dX6_readCommand_146
      · have hF := z_neg hF zc15
        refine lv_aload_n hx hb dX6_readCommand_107 rfl (lv_at hl 1 rfl) ?_
        refine lv_bipush (v := 47) hx hb dX6_readCommand_108 (by decide) ?_
        obtain ⟨zo16, hzo16, hF⟩ := z_bind hF
        refine z_calli (fun (u : Int32) => (wPT g t0 t1 t2 ptx plen u pcnt)) [0, 1] (va_runV (As := [.int 47]) (rest := []) ⟨hx, hb, hml, hown, hts⟩ (c_X6_readCharacter l g t0 t1 t2 ptx plen zo14.2.1 pcnt _ 47 _ hzo16) (cwV 1 hts (gdV mU_1114 mU_1116 mU_20 mU_70 mU_1117) rfl rfl rfl (by decide +kernel) ⟨Nat.le_of_ble_eq_true rfl, Nat.le_of_ble_eq_true rfl⟩) ⟨z_blind _ _ _ _, va_recv hK hP (ci := 4) (q0 := 0) rfl rfl, fun U hU hW => z_pre [0, 1] hP hD hK hB hS hA rfl rfl hU hW⟩ rfl rfl hl.1 rfl (lv_room (Nat.le_of_ble_eq_true rfl)) dX6_readCommand_110 ⟨Nat.le_of_ble_eq_true rfl, Nat.le_of_ble_eq_true rfl⟩) hP hD hS hA rfl (fun _ => rfl) (fun r u H locs hw hP hD hS => ?_)
        obtain ⟨rfl, rfl⟩ := hw
        have hP : va_P (gD g) zCl (wPC g t0 t1 t2 u0 ptx plen zo16.2 pcnt zo14.2.2) H := hP
        have hD : va_D A (wPC g t0 t1 t2 u0 ptx plen zo16.2 pcnt zo14.2.2) := hD
        refine lv_if_eq (tgt := 145) hx hb dX6_readCommand_113 (by decide) (fun zc17 => ?_) (fun zc17 => ?_)
        · have hF := z_pos hF zc17
          refine lv_iconst (v := 0) hx hb dX6_readCommand_145 (by decide) ?_
          have ho := (Option.some.inj hF).symm
          exact W.zret (v := 0) hx hb hr rfl (fun t ht hW => ⟨⟨0, (zo16.2, zo14.2.2), rfl, ⟨by rw [ho], by rw [ho]⟩, z_end ht hP⟩, hS.F ht⟩) hS.2.2 dX6_readCommand_146
        · have hF := z_neg hF zc17
          refine lv_aload_n hx hb dX6_readCommand_116 rfl (lv_at hl 1 rfl) ?_
          refine lv_aload_n hx hb dX6_readCommand_117 rfl (lv_at hl 2 rfl) ?_
          obtain ⟨zo18, hzo18, hF⟩ := z_bind hF
          refine z_calliE (fun (u : Int32 × CC) => (wPC g t0 t1 t2 u0 ptx plen u.1 pcnt u.2)) (va_runV (As := [.ref u0]) (rest := []) ⟨hx, hb, hml, hown, hts⟩ (c_X6_readSecond l g t0 t1 t2 u0 ptx plen zo16.2 pcnt zo14.2.2 _ fu _ hzo18) (cwV 1 hts (gdV mU_1140 mU_1142 mU_26 mU_70 mU_1143) rfl rfl rfl (by decide +kernel) ⟨Nat.le_of_ble_eq_true rfl, Nat.le_of_ble_eq_true rfl⟩) ⟨z_blind _ _ _ _, va_recv hK hP (ci := 4) (q0 := 0) rfl rfl, fun U hU hW => z_preE hP hD hK hB hS hA hU hW⟩ rfl rfl hl.1 rfl (lv_room (Nat.le_of_ble_eq_true rfl)) dX6_readCommand_118 ⟨Nat.le_of_ble_eq_true rfl, Nat.le_of_ble_eq_true rfl⟩) hD hS hA (fun _ => rfl) (fun r u H locs hw hP hD hS => ?_)
          obtain ⟨rfl, rfl⟩ := hw
          have hP : va_P (gD g) zCl (wPC g t0 t1 t2 u0 ptx plen zo18.2.1 pcnt zo18.2.2) H := hP
          have hD : va_D A (wPC g t0 t1 t2 u0 ptx plen zo18.2.1 pcnt zo18.2.2) := hD
          refine lv_if_eq (tgt := 145) hx hb dX6_readCommand_121 (by decide) (fun zc19 => ?_) (fun zc19 => ?_)
          · have hF := z_pos hF zc19
            refine lv_iconst (v := 0) hx hb dX6_readCommand_145 (by decide) ?_
            have ho := (Option.some.inj hF).symm
            exact W.zret (v := 0) hx hb hr rfl (fun t ht hW => ⟨⟨0, (zo18.2.1, zo18.2.2), rfl, ⟨by rw [ho], by rw [ho]⟩, z_end ht hP⟩, hS.F ht⟩) hS.2.2 dX6_readCommand_146
          · have hF := z_neg hF zc19
            refine lv_aload_n hx hb dX6_readCommand_124 rfl (lv_at hl 1 rfl) ?_
            refine lv_bipush (v := 32) hx hb dX6_readCommand_125 (by decide) ?_
            obtain ⟨zo20, hzo20, hF⟩ := z_bind hF
            refine z_calli (fun (u : Int32) => (wPT g t0 t1 t2 ptx plen u pcnt)) [0, 1] (va_runV (As := [.int 32]) (rest := []) ⟨hx, hb, hml, hown, hts⟩ (c_X6_readCharacter l g t0 t1 t2 ptx plen zo18.2.1 pcnt _ 32 _ hzo20) (cwV 1 hts (gdV mU_1114 mU_1116 mU_20 mU_70 mU_1117) rfl rfl rfl (by decide +kernel) ⟨Nat.le_of_ble_eq_true rfl, Nat.le_of_ble_eq_true rfl⟩) ⟨z_blind _ _ _ _, va_recv hK hP (ci := 4) (q0 := 0) rfl rfl, fun U hU hW => z_pre [0, 1] hP hD hK hB hS hA rfl rfl hU hW⟩ rfl rfl hl.1 rfl (lv_room (Nat.le_of_ble_eq_true rfl)) dX6_readCommand_127 ⟨Nat.le_of_ble_eq_true rfl, Nat.le_of_ble_eq_true rfl⟩) hP hD hS hA rfl (fun _ => rfl) (fun r u H locs hw hP hD hS => ?_)
            obtain ⟨rfl, rfl⟩ := hw
            have hP : va_P (gD g) zCl (wPC g t0 t1 t2 u0 ptx plen zo20.2 pcnt zo18.2.2) H := hP
            have hD : va_D A (wPC g t0 t1 t2 u0 ptx plen zo20.2 pcnt zo18.2.2) := hD
            refine lv_if_eq (tgt := 145) hx hb dX6_readCommand_130 (by decide) (fun zc21 => ?_) (fun zc21 => ?_)
            · have hF := z_pos hF zc21
              refine lv_iconst (v := 0) hx hb dX6_readCommand_145 (by decide) ?_
              have ho := (Option.some.inj hF).symm
              exact W.zret (v := 0) hx hb hr rfl (fun t ht hW => ⟨⟨0, (zo20.2, zo18.2.2), rfl, ⟨by rw [ho], by rw [ho]⟩, z_end ht hP⟩, hS.F ht⟩) hS.2.2 dX6_readCommand_146
            · have hF := z_neg hF zc21
              refine lv_aload_n hx hb dX6_readCommand_133 rfl (lv_at hl 1 rfl) ?_
              refine lv_aload_n hx hb dX6_readCommand_134 rfl (lv_at hl 2 rfl) ?_
              obtain ⟨zo22, hzo22, hF⟩ := z_bind hF
              refine z_calliE (fun (u : Int32 × CC) => (wPC g t0 t1 t2 u0 ptx plen u.1 pcnt u.2)) (va_runV (As := [.ref u0]) (rest := []) ⟨hx, hb, hml, hown, hts⟩ (c_X6_readScaleAndMode l g t0 t1 t2 u0 ptx plen zo20.2 pcnt zo18.2.2 _ fu _ hzo22) (cwV 1 hts (gdV mU_1122 mU_1124 mU_22 mU_70 mU_1125) rfl rfl rfl (by decide +kernel) ⟨Nat.le_of_ble_eq_true rfl, Nat.le_of_ble_eq_true rfl⟩) ⟨z_blind _ _ _ _, va_recv hK hP (ci := 4) (q0 := 0) rfl rfl, fun U hU hW => z_preE hP hD hK hB hS hA hU hW⟩ rfl rfl hl.1 rfl (lv_room (Nat.le_of_ble_eq_true rfl)) dX6_readCommand_135 ⟨Nat.le_of_ble_eq_true rfl, Nat.le_of_ble_eq_true rfl⟩) hD hS hA (fun _ => rfl) (fun r u H locs hw hP hD hS => ?_)
              obtain ⟨rfl, rfl⟩ := hw
              have hP : va_P (gD g) zCl (wPC g t0 t1 t2 u0 ptx plen zo22.2.1 pcnt zo22.2.2) H := hP
              have hD : va_D A (wPC g t0 t1 t2 u0 ptx plen zo22.2.1 pcnt zo22.2.2) := hD
              refine lv_if_eq (tgt := 145) hx hb dX6_readCommand_138 (by decide) (fun zc23 => ?_) (fun zc23 => ?_)
              · have hF := z_pos hF zc23
                refine lv_iconst (v := 0) hx hb dX6_readCommand_145 (by decide) ?_
                have ho := (Option.some.inj hF).symm
                exact W.zret (v := 0) hx hb hr rfl (fun t ht hW => ⟨⟨0, (zo22.2.1, zo22.2.2), rfl, ⟨by rw [ho], by rw [ho]⟩, z_end ht hP⟩, hS.F ht⟩) hS.2.2 dX6_readCommand_146
              · have hF := z_neg hF zc23
                refine lv_iconst (v := 1) hx hb dX6_readCommand_141 (by decide) ?_
                refine lv_goto (tgt := 146) hx hb dX6_readCommand_142 (by decide) ?_
                have ho := (Option.some.inj hF).symm
                exact W.zret (v := 1) hx hb hr rfl (fun t ht hW => ⟨⟨1, (zo22.2.1, zo22.2.2), rfl, ⟨by rw [ho], by rw [ho]⟩, z_end ht hP⟩, hS.F ht⟩) hS.2.2 dX6_readCommand_146
    have hF := z_neg hF zc13
    by_cases zc24 : (zsw (Int32.toNatClampNeg zo4)) = 3
    · have hF := z_pos hF zc24
      refine lv_tableIn (tgt := 147) (off := 123) hx hb dX6_readCommand_24 (by rw [zc24]; decide) (by rw [zc24]; decide) (by rw [zc24]; rfl) (by decide) ?_
      refine lv_aload_n hx hb dX6_readCommand_147 rfl (lv_at hl 1 rfl) ?_
      refine lv_aload_n hx hb dX6_readCommand_148 rfl (lv_at hl 2 rfl) ?_
      obtain ⟨zo25, hzo25, hF⟩ := z_bind hF
      refine z_calliE (fun (u : Int32 × CC) => (wPC g t0 t1 t2 u0 ptx plen u.1 pcnt u.2)) (va_runV (As := [.ref u0]) (rest := []) ⟨hx, hb, hml, hown, hts⟩ (c_X6_readFirst l g t0 t1 t2 u0 ptx plen zo1.2 pcnt (zk2, (k_first cc), (k_second cc), (k_whole cc), (k_frac cc), (k_scale cc), (k_mode cc)) _ fu _ hzo25) (cwV 1 hts (gdV mU_1136 mU_1138 mU_25 mU_70 mU_1139) rfl rfl rfl (by decide +kernel) ⟨Nat.le_of_ble_eq_true rfl, Nat.le_of_ble_eq_true rfl⟩) ⟨z_blind _ _ _ _, va_recv hK hP (ci := 4) (q0 := 0) rfl rfl, fun U hU hW => z_preE hP hD hK hB hS hA hU hW⟩ rfl rfl hl.1 rfl (lv_room (Nat.le_of_ble_eq_true rfl)) dX6_readCommand_149 ⟨Nat.le_of_ble_eq_true rfl, Nat.le_of_ble_eq_true rfl⟩) hD hS hA (fun _ => rfl) (fun r u H locs hw hP hD hS => ?_)
      obtain ⟨rfl, rfl⟩ := hw
      have hP : va_P (gD g) zCl (wPC g t0 t1 t2 u0 ptx plen zo25.2.1 pcnt zo25.2.2) H := hP
      have hD : va_D A (wPC g t0 t1 t2 u0 ptx plen zo25.2.1 pcnt zo25.2.2) := hD
      obtain ⟨zg26, hF⟩ := z_grd hF
      have ho := (Option.some.inj hF).symm
      exact W.zret (v := zo25.1) hx hb hr (z_narb (Classical.not_not.mp zg26)).1 (fun t ht hW => ⟨⟨zo25.1, (zo25.2.1, zo25.2.2), rfl, ⟨by rw [ho], by rw [ho]⟩, z_end ht hP⟩, hS.F ht⟩) hS.2.2 dX6_readCommand_152
    have hF := z_neg hF zc24
    by_cases zc27 : (zsw (Int32.toNatClampNeg zo4)) = 4
    · have hF := z_pos hF zc27
      refine lv_tableIn (tgt := 153) (off := 129) hx hb dX6_readCommand_24 (by rw [zc27]; decide) (by rw [zc27]; decide) (by rw [zc27]; rfl) (by decide) ?_
      refine lv_aload_n hx hb dX6_readCommand_153 rfl (lv_at hl 1 rfl) ?_
      refine lv_aload_n hx hb dX6_readCommand_154 rfl (lv_at hl 2 rfl) ?_
      obtain ⟨zo28, hzo28, hF⟩ := z_bind hF
      refine z_calliE (fun (u : Int32 × CC) => (wPC g t0 t1 t2 u0 ptx plen u.1 pcnt u.2)) (va_runV (As := [.ref u0]) (rest := []) ⟨hx, hb, hml, hown, hts⟩ (c_X6_readFirst l g t0 t1 t2 u0 ptx plen zo1.2 pcnt (zk2, (k_first cc), (k_second cc), (k_whole cc), (k_frac cc), (k_scale cc), (k_mode cc)) _ fu _ hzo28) (cwV 1 hts (gdV mU_1136 mU_1138 mU_25 mU_70 mU_1139) rfl rfl rfl (by decide +kernel) ⟨Nat.le_of_ble_eq_true rfl, Nat.le_of_ble_eq_true rfl⟩) ⟨z_blind _ _ _ _, va_recv hK hP (ci := 4) (q0 := 0) rfl rfl, fun U hU hW => z_preE hP hD hK hB hS hA hU hW⟩ rfl rfl hl.1 rfl (lv_room (Nat.le_of_ble_eq_true rfl)) dX6_readCommand_155 ⟨Nat.le_of_ble_eq_true rfl, Nat.le_of_ble_eq_true rfl⟩) hD hS hA (fun _ => rfl) (fun r u H locs hw hP hD hS => ?_)
      obtain ⟨rfl, rfl⟩ := hw
      have hP : va_P (gD g) zCl (wPC g t0 t1 t2 u0 ptx plen zo28.2.1 pcnt zo28.2.2) H := hP
      have hD : va_D A (wPC g t0 t1 t2 u0 ptx plen zo28.2.1 pcnt zo28.2.2) := hD
      refine lv_if_eq (tgt := 182) hx hb dX6_readCommand_158 (by decide) (fun zc29 => ?_) (fun zc29 => ?_)
      · have hF := z_pos hF zc29
        refine lv_iconst (v := 0) hx hb dX6_readCommand_182 (by decide) ?_
        have ho := (Option.some.inj hF).symm
        exact W.zret (v := 0) hx hb hr rfl (fun t ht hW => ⟨⟨0, (zo28.2.1, zo28.2.2), rfl, ⟨by rw [ho], by rw [ho]⟩, z_end ht hP⟩, hS.F ht⟩) hS.2.2 dX6_readCommand_183
      · have hF := z_neg hF zc29
        refine lv_aload_n hx hb dX6_readCommand_161 rfl (lv_at hl 1 rfl) ?_
        refine lv_bipush (v := 32) hx hb dX6_readCommand_162 (by decide) ?_
        obtain ⟨zo30, hzo30, hF⟩ := z_bind hF
        refine z_calli (fun (u : Int32) => (wPT g t0 t1 t2 ptx plen u pcnt)) [0, 1] (va_runV (As := [.int 32]) (rest := []) ⟨hx, hb, hml, hown, hts⟩ (c_X6_readCharacter l g t0 t1 t2 ptx plen zo28.2.1 pcnt _ 32 _ hzo30) (cwV 1 hts (gdV mU_1114 mU_1116 mU_20 mU_70 mU_1117) rfl rfl rfl (by decide +kernel) ⟨Nat.le_of_ble_eq_true rfl, Nat.le_of_ble_eq_true rfl⟩) ⟨z_blind _ _ _ _, va_recv hK hP (ci := 4) (q0 := 0) rfl rfl, fun U hU hW => z_pre [0, 1] hP hD hK hB hS hA rfl rfl hU hW⟩ rfl rfl hl.1 rfl (lv_room (Nat.le_of_ble_eq_true rfl)) dX6_readCommand_164 ⟨Nat.le_of_ble_eq_true rfl, Nat.le_of_ble_eq_true rfl⟩) hP hD hS hA rfl (fun _ => rfl) (fun r u H locs hw hP hD hS => ?_)
        obtain ⟨rfl, rfl⟩ := hw
        have hP : va_P (gD g) zCl (wPC g t0 t1 t2 u0 ptx plen zo30.2 pcnt zo28.2.2) H := hP
        have hD : va_D A (wPC g t0 t1 t2 u0 ptx plen zo30.2 pcnt zo28.2.2) := hD
        refine lv_if_eq (tgt := 182) hx hb dX6_readCommand_167 (by decide) (fun zc31 => ?_) (fun zc31 => ?_)
        · have hF := z_pos hF zc31
          refine lv_iconst (v := 0) hx hb dX6_readCommand_182 (by decide) ?_
          have ho := (Option.some.inj hF).symm
          exact W.zret (v := 0) hx hb hr rfl (fun t ht hW => ⟨⟨0, (zo30.2, zo28.2.2), rfl, ⟨by rw [ho], by rw [ho]⟩, z_end ht hP⟩, hS.F ht⟩) hS.2.2 dX6_readCommand_183
        · have hF := z_neg hF zc31
          refine lv_aload_n hx hb dX6_readCommand_170 rfl (lv_at hl 1 rfl) ?_
          refine lv_aload_n hx hb dX6_readCommand_171 rfl (lv_at hl 2 rfl) ?_
          obtain ⟨zo32, hzo32, hF⟩ := z_bind hF
          refine z_calliE (fun (u : Int32 × CC) => (wPC g t0 t1 t2 u0 ptx plen u.1 pcnt u.2)) (va_runV (As := [.ref u0]) (rest := []) ⟨hx, hb, hml, hown, hts⟩ (c_X6_readDecimal l g t0 t1 t2 u0 ptx plen zo30.2 pcnt zo28.2.2 _ fu _ hzo32) (cwV 1 hts (gdV mU_1102 mU_1104 mU_17 mU_70 mU_1105) rfl rfl rfl (by decide +kernel) ⟨Nat.le_of_ble_eq_true rfl, Nat.le_of_ble_eq_true rfl⟩) ⟨z_blind _ _ _ _, va_recv hK hP (ci := 4) (q0 := 0) rfl rfl, fun U hU hW => z_preE hP hD hK hB hS hA hU hW⟩ rfl rfl hl.1 rfl (lv_room (Nat.le_of_ble_eq_true rfl)) dX6_readCommand_172 ⟨Nat.le_of_ble_eq_true rfl, Nat.le_of_ble_eq_true rfl⟩) hD hS hA (fun _ => rfl) (fun r u H locs hw hP hD hS => ?_)
          obtain ⟨rfl, rfl⟩ := hw
          have hP : va_P (gD g) zCl (wPC g t0 t1 t2 u0 ptx plen zo32.2.1 pcnt zo32.2.2) H := hP
          have hD : va_D A (wPC g t0 t1 t2 u0 ptx plen zo32.2.1 pcnt zo32.2.2) := hD
          refine lv_if_eq (tgt := 182) hx hb dX6_readCommand_175 (by decide) (fun zc33 => ?_) (fun zc33 => ?_)
          · have hF := z_pos hF zc33
            refine lv_iconst (v := 0) hx hb dX6_readCommand_182 (by decide) ?_
            have ho := (Option.some.inj hF).symm
            exact W.zret (v := 0) hx hb hr rfl (fun t ht hW => ⟨⟨0, (zo32.2.1, zo32.2.2), rfl, ⟨by rw [ho], by rw [ho]⟩, z_end ht hP⟩, hS.F ht⟩) hS.2.2 dX6_readCommand_183
          · have hF := z_neg hF zc33
            refine lv_iconst (v := 1) hx hb dX6_readCommand_178 (by decide) ?_
            refine lv_goto (tgt := 183) hx hb dX6_readCommand_179 (by decide) ?_
            have ho := (Option.some.inj hF).symm
            exact W.zret (v := 1) hx hb hr rfl (fun t ht hW => ⟨⟨1, (zo32.2.1, zo32.2.2), rfl, ⟨by rw [ho], by rw [ho]⟩, z_end ht hP⟩, hS.F ht⟩) hS.2.2 dX6_readCommand_183
    have hF := z_neg hF zc27
    by_cases zc34 : (zsw (Int32.toNatClampNeg zo4)) = 5
    · have hF := z_pos hF zc34
      refine lv_tableIn (tgt := 184) (off := 160) hx hb dX6_readCommand_24 (by rw [zc34]; decide) (by rw [zc34]; decide) (by rw [zc34]; rfl) (by decide) ?_
      refine lv_aload_n hx hb dX6_readCommand_184 rfl (lv_at hl 1 rfl) ?_
      refine lv_aload_n hx hb dX6_readCommand_185 rfl (lv_at hl 2 rfl) ?_
      obtain ⟨zo35, hzo35, hF⟩ := z_bind hF
      refine z_calliE (fun (u : Int32 × CC) => (wPC g t0 t1 t2 u0 ptx plen u.1 pcnt u.2)) (va_runV (As := [.ref u0]) (rest := []) ⟨hx, hb, hml, hown, hts⟩ (c_X6_readFirst l g t0 t1 t2 u0 ptx plen zo1.2 pcnt (zk2, (k_first cc), (k_second cc), (k_whole cc), (k_frac cc), (k_scale cc), (k_mode cc)) _ fu _ hzo35) (cwV 1 hts (gdV mU_1136 mU_1138 mU_25 mU_70 mU_1139) rfl rfl rfl (by decide +kernel) ⟨Nat.le_of_ble_eq_true rfl, Nat.le_of_ble_eq_true rfl⟩) ⟨z_blind _ _ _ _, va_recv hK hP (ci := 4) (q0 := 0) rfl rfl, fun U hU hW => z_preE hP hD hK hB hS hA hU hW⟩ rfl rfl hl.1 rfl (lv_room (Nat.le_of_ble_eq_true rfl)) dX6_readCommand_186 ⟨Nat.le_of_ble_eq_true rfl, Nat.le_of_ble_eq_true rfl⟩) hD hS hA (fun _ => rfl) (fun r u H locs hw hP hD hS => ?_)
      obtain ⟨rfl, rfl⟩ := hw
      have hP : va_P (gD g) zCl (wPC g t0 t1 t2 u0 ptx plen zo35.2.1 pcnt zo35.2.2) H := hP
      have hD : va_D A (wPC g t0 t1 t2 u0 ptx plen zo35.2.1 pcnt zo35.2.2) := hD
      refine lv_if_eq (tgt := 230) hx hb dX6_readCommand_189 (by decide) (fun zc36 => ?_) (fun zc36 => ?_)
      · have hF := z_pos hF zc36
        refine lv_iconst (v := 0) hx hb dX6_readCommand_230 (by decide) ?_
        have ho := (Option.some.inj hF).symm
        exact W.zret (v := 0) hx hb hr rfl (fun t ht hW => ⟨⟨0, (zo35.2.1, zo35.2.2), rfl, ⟨by rw [ho], by rw [ho]⟩, z_end ht hP⟩, hS.F ht⟩) hS.2.2 dX6_readCommand_231
      · have hF := z_neg hF zc36
        refine lv_aload_n hx hb dX6_readCommand_192 rfl (lv_at hl 1 rfl) ?_
        refine lv_bipush (v := 45) hx hb dX6_readCommand_193 (by decide) ?_
        obtain ⟨zo37, hzo37, hF⟩ := z_bind hF
        refine z_calli (fun (u : Int32) => (wPT g t0 t1 t2 ptx plen u pcnt)) [0, 1] (va_runV (As := [.int 45]) (rest := []) ⟨hx, hb, hml, hown, hts⟩ (c_X6_readCharacter l g t0 t1 t2 ptx plen zo35.2.1 pcnt _ 45 _ hzo37) (cwV 1 hts (gdV mU_1114 mU_1116 mU_20 mU_70 mU_1117) rfl rfl rfl (by decide +kernel) ⟨Nat.le_of_ble_eq_true rfl, Nat.le_of_ble_eq_true rfl⟩) ⟨z_blind _ _ _ _, va_recv hK hP (ci := 4) (q0 := 0) rfl rfl, fun U hU hW => z_pre [0, 1] hP hD hK hB hS hA rfl rfl hU hW⟩ rfl rfl hl.1 rfl (lv_room (Nat.le_of_ble_eq_true rfl)) dX6_readCommand_195 ⟨Nat.le_of_ble_eq_true rfl, Nat.le_of_ble_eq_true rfl⟩) hP hD hS hA rfl (fun _ => rfl) (fun r u H locs hw hP hD hS => ?_)
        obtain ⟨rfl, rfl⟩ := hw
        have hP : va_P (gD g) zCl (wPC g t0 t1 t2 u0 ptx plen zo37.2 pcnt zo35.2.2) H := hP
        have hD : va_D A (wPC g t0 t1 t2 u0 ptx plen zo37.2 pcnt zo35.2.2) := hD
        refine lv_if_eq (tgt := 230) hx hb dX6_readCommand_198 (by decide) (fun zc38 => ?_) (fun zc38 => ?_)
        · have hF := z_pos hF zc38
          refine lv_iconst (v := 0) hx hb dX6_readCommand_230 (by decide) ?_
          have ho := (Option.some.inj hF).symm
          exact W.zret (v := 0) hx hb hr rfl (fun t ht hW => ⟨⟨0, (zo37.2, zo35.2.2), rfl, ⟨by rw [ho], by rw [ho]⟩, z_end ht hP⟩, hS.F ht⟩) hS.2.2 dX6_readCommand_231
        · have hF := z_neg hF zc38
          refine lv_aload_n hx hb dX6_readCommand_201 rfl (lv_at hl 1 rfl) ?_
          refine lv_aload_n hx hb dX6_readCommand_202 rfl (lv_at hl 2 rfl) ?_
          obtain ⟨zo39, hzo39, hF⟩ := z_bind hF
          refine z_calliE (fun (u : Int32 × CC) => (wPC g t0 t1 t2 u0 ptx plen u.1 pcnt u.2)) (va_runV (As := [.ref u0]) (rest := []) ⟨hx, hb, hml, hown, hts⟩ (c_X6_readSecond l g t0 t1 t2 u0 ptx plen zo37.2 pcnt zo35.2.2 _ fu _ hzo39) (cwV 1 hts (gdV mU_1140 mU_1142 mU_26 mU_70 mU_1143) rfl rfl rfl (by decide +kernel) ⟨Nat.le_of_ble_eq_true rfl, Nat.le_of_ble_eq_true rfl⟩) ⟨z_blind _ _ _ _, va_recv hK hP (ci := 4) (q0 := 0) rfl rfl, fun U hU hW => z_preE hP hD hK hB hS hA hU hW⟩ rfl rfl hl.1 rfl (lv_room (Nat.le_of_ble_eq_true rfl)) dX6_readCommand_203 ⟨Nat.le_of_ble_eq_true rfl, Nat.le_of_ble_eq_true rfl⟩) hD hS hA (fun _ => rfl) (fun r u H locs hw hP hD hS => ?_)
          obtain ⟨rfl, rfl⟩ := hw
          have hP : va_P (gD g) zCl (wPC g t0 t1 t2 u0 ptx plen zo39.2.1 pcnt zo39.2.2) H := hP
          have hD : va_D A (wPC g t0 t1 t2 u0 ptx plen zo39.2.1 pcnt zo39.2.2) := hD
          refine lv_if_eq (tgt := 230) hx hb dX6_readCommand_206 (by decide) (fun zc40 => ?_) (fun zc40 => ?_)
          · have hF := z_pos hF zc40
            refine lv_iconst (v := 0) hx hb dX6_readCommand_230 (by decide) ?_
            have ho := (Option.some.inj hF).symm
            exact W.zret (v := 0) hx hb hr rfl (fun t ht hW => ⟨⟨0, (zo39.2.1, zo39.2.2), rfl, ⟨by rw [ho], by rw [ho]⟩, z_end ht hP⟩, hS.F ht⟩) hS.2.2 dX6_readCommand_231
          · have hF := z_neg hF zc40
            refine lv_aload_n hx hb dX6_readCommand_209 rfl (lv_at hl 1 rfl) ?_
            refine lv_bipush (v := 32) hx hb dX6_readCommand_210 (by decide) ?_
            obtain ⟨zo41, hzo41, hF⟩ := z_bind hF
            refine z_calli (fun (u : Int32) => (wPT g t0 t1 t2 ptx plen u pcnt)) [0, 1] (va_runV (As := [.int 32]) (rest := []) ⟨hx, hb, hml, hown, hts⟩ (c_X6_readCharacter l g t0 t1 t2 ptx plen zo39.2.1 pcnt _ 32 _ hzo41) (cwV 1 hts (gdV mU_1114 mU_1116 mU_20 mU_70 mU_1117) rfl rfl rfl (by decide +kernel) ⟨Nat.le_of_ble_eq_true rfl, Nat.le_of_ble_eq_true rfl⟩) ⟨z_blind _ _ _ _, va_recv hK hP (ci := 4) (q0 := 0) rfl rfl, fun U hU hW => z_pre [0, 1] hP hD hK hB hS hA rfl rfl hU hW⟩ rfl rfl hl.1 rfl (lv_room (Nat.le_of_ble_eq_true rfl)) dX6_readCommand_212 ⟨Nat.le_of_ble_eq_true rfl, Nat.le_of_ble_eq_true rfl⟩) hP hD hS hA rfl (fun _ => rfl) (fun r u H locs hw hP hD hS => ?_)
            obtain ⟨rfl, rfl⟩ := hw
            have hP : va_P (gD g) zCl (wPC g t0 t1 t2 u0 ptx plen zo41.2 pcnt zo39.2.2) H := hP
            have hD : va_D A (wPC g t0 t1 t2 u0 ptx plen zo41.2 pcnt zo39.2.2) := hD
            refine lv_if_eq (tgt := 230) hx hb dX6_readCommand_215 (by decide) (fun zc42 => ?_) (fun zc42 => ?_)
            · have hF := z_pos hF zc42
              refine lv_iconst (v := 0) hx hb dX6_readCommand_230 (by decide) ?_
              have ho := (Option.some.inj hF).symm
              exact W.zret (v := 0) hx hb hr rfl (fun t ht hW => ⟨⟨0, (zo41.2, zo39.2.2), rfl, ⟨by rw [ho], by rw [ho]⟩, z_end ht hP⟩, hS.F ht⟩) hS.2.2 dX6_readCommand_231
            · have hF := z_neg hF zc42
              refine lv_aload_n hx hb dX6_readCommand_218 rfl (lv_at hl 1 rfl) ?_
              refine lv_aload_n hx hb dX6_readCommand_219 rfl (lv_at hl 2 rfl) ?_
              obtain ⟨zo43, hzo43, hF⟩ := z_bind hF
              refine z_calliE (fun (u : Int32 × CC) => (wPC g t0 t1 t2 u0 ptx plen u.1 pcnt u.2)) (va_runV (As := [.ref u0]) (rest := []) ⟨hx, hb, hml, hown, hts⟩ (c_X6_readDecimal l g t0 t1 t2 u0 ptx plen zo41.2 pcnt zo39.2.2 _ fu _ hzo43) (cwV 1 hts (gdV mU_1102 mU_1104 mU_17 mU_70 mU_1105) rfl rfl rfl (by decide +kernel) ⟨Nat.le_of_ble_eq_true rfl, Nat.le_of_ble_eq_true rfl⟩) ⟨z_blind _ _ _ _, va_recv hK hP (ci := 4) (q0 := 0) rfl rfl, fun U hU hW => z_preE hP hD hK hB hS hA hU hW⟩ rfl rfl hl.1 rfl (lv_room (Nat.le_of_ble_eq_true rfl)) dX6_readCommand_220 ⟨Nat.le_of_ble_eq_true rfl, Nat.le_of_ble_eq_true rfl⟩) hD hS hA (fun _ => rfl) (fun r u H locs hw hP hD hS => ?_)
              obtain ⟨rfl, rfl⟩ := hw
              have hP : va_P (gD g) zCl (wPC g t0 t1 t2 u0 ptx plen zo43.2.1 pcnt zo43.2.2) H := hP
              have hD : va_D A (wPC g t0 t1 t2 u0 ptx plen zo43.2.1 pcnt zo43.2.2) := hD
              refine lv_if_eq (tgt := 230) hx hb dX6_readCommand_223 (by decide) (fun zc44 => ?_) (fun zc44 => ?_)
              · have hF := z_pos hF zc44
                refine lv_iconst (v := 0) hx hb dX6_readCommand_230 (by decide) ?_
                have ho := (Option.some.inj hF).symm
                exact W.zret (v := 0) hx hb hr rfl (fun t ht hW => ⟨⟨0, (zo43.2.1, zo43.2.2), rfl, ⟨by rw [ho], by rw [ho]⟩, z_end ht hP⟩, hS.F ht⟩) hS.2.2 dX6_readCommand_231
              · have hF := z_neg hF zc44
                refine lv_iconst (v := 1) hx hb dX6_readCommand_226 (by decide) ?_
                refine lv_goto (tgt := 231) hx hb dX6_readCommand_227 (by decide) ?_
                have ho := (Option.some.inj hF).symm
                exact W.zret (v := 1) hx hb hr rfl (fun t ht hW => ⟨⟨1, (zo43.2.1, zo43.2.2), rfl, ⟨by rw [ho], by rw [ho]⟩, z_end ht hP⟩, hS.F ht⟩) hS.2.2 dX6_readCommand_231
    have hF := z_neg hF zc34
    by_cases zc45 : (zsw (Int32.toNatClampNeg zo4)) = 6
    · have hF := z_pos hF zc45
      refine lv_tableIn (tgt := 232) (off := 208) hx hb dX6_readCommand_24 (by rw [zc45]; decide) (by rw [zc45]; decide) (by rw [zc45]; rfl) (by decide) ?_
      refine lv_aload_n hx hb dX6_readCommand_232 rfl (lv_at hl 1 rfl) ?_
      refine lv_aload_n hx hb dX6_readCommand_233 rfl (lv_at hl 2 rfl) ?_
      obtain ⟨zo46, hzo46, hF⟩ := z_bind hF
      refine z_calliE (fun (u : Int32 × CC) => (wPC g t0 t1 t2 u0 ptx plen u.1 pcnt u.2)) (va_runV (As := [.ref u0]) (rest := []) ⟨hx, hb, hml, hown, hts⟩ (c_X6_readFirst l g t0 t1 t2 u0 ptx plen zo1.2 pcnt (zk2, (k_first cc), (k_second cc), (k_whole cc), (k_frac cc), (k_scale cc), (k_mode cc)) _ fu _ hzo46) (cwV 1 hts (gdV mU_1136 mU_1138 mU_25 mU_70 mU_1139) rfl rfl rfl (by decide +kernel) ⟨Nat.le_of_ble_eq_true rfl, Nat.le_of_ble_eq_true rfl⟩) ⟨z_blind _ _ _ _, va_recv hK hP (ci := 4) (q0 := 0) rfl rfl, fun U hU hW => z_preE hP hD hK hB hS hA hU hW⟩ rfl rfl hl.1 rfl (lv_room (Nat.le_of_ble_eq_true rfl)) dX6_readCommand_234 ⟨Nat.le_of_ble_eq_true rfl, Nat.le_of_ble_eq_true rfl⟩) hD hS hA (fun _ => rfl) (fun r u H locs hw hP hD hS => ?_)
      obtain ⟨rfl, rfl⟩ := hw
      have hP : va_P (gD g) zCl (wPC g t0 t1 t2 u0 ptx plen zo46.2.1 pcnt zo46.2.2) H := hP
      have hD : va_D A (wPC g t0 t1 t2 u0 ptx plen zo46.2.1 pcnt zo46.2.2) := hD
      refine lv_if_eq (tgt := 261) hx hb dX6_readCommand_237 (by decide) (fun zc47 => ?_) (fun zc47 => ?_)
      · have hF := z_pos hF zc47
        refine lv_iconst (v := 0) hx hb dX6_readCommand_261 (by decide) ?_
        have ho := (Option.some.inj hF).symm
        exact W.zret (v := 0) hx hb hr rfl (fun t ht hW => ⟨⟨0, (zo46.2.1, zo46.2.2), rfl, ⟨by rw [ho], by rw [ho]⟩, z_end ht hP⟩, hS.F ht⟩) hS.2.2 dX6_readCommand_262
      · have hF := z_neg hF zc47
        refine lv_aload_n hx hb dX6_readCommand_240 rfl (lv_at hl 1 rfl) ?_
        refine lv_bipush (v := 32) hx hb dX6_readCommand_241 (by decide) ?_
        obtain ⟨zo48, hzo48, hF⟩ := z_bind hF
        refine z_calli (fun (u : Int32) => (wPT g t0 t1 t2 ptx plen u pcnt)) [0, 1] (va_runV (As := [.int 32]) (rest := []) ⟨hx, hb, hml, hown, hts⟩ (c_X6_readCharacter l g t0 t1 t2 ptx plen zo46.2.1 pcnt _ 32 _ hzo48) (cwV 1 hts (gdV mU_1114 mU_1116 mU_20 mU_70 mU_1117) rfl rfl rfl (by decide +kernel) ⟨Nat.le_of_ble_eq_true rfl, Nat.le_of_ble_eq_true rfl⟩) ⟨z_blind _ _ _ _, va_recv hK hP (ci := 4) (q0 := 0) rfl rfl, fun U hU hW => z_pre [0, 1] hP hD hK hB hS hA rfl rfl hU hW⟩ rfl rfl hl.1 rfl (lv_room (Nat.le_of_ble_eq_true rfl)) dX6_readCommand_243 ⟨Nat.le_of_ble_eq_true rfl, Nat.le_of_ble_eq_true rfl⟩) hP hD hS hA rfl (fun _ => rfl) (fun r u H locs hw hP hD hS => ?_)
        obtain ⟨rfl, rfl⟩ := hw
        have hP : va_P (gD g) zCl (wPC g t0 t1 t2 u0 ptx plen zo48.2 pcnt zo46.2.2) H := hP
        have hD : va_D A (wPC g t0 t1 t2 u0 ptx plen zo48.2 pcnt zo46.2.2) := hD
        refine lv_if_eq (tgt := 261) hx hb dX6_readCommand_246 (by decide) (fun zc49 => ?_) (fun zc49 => ?_)
        · have hF := z_pos hF zc49
          refine lv_iconst (v := 0) hx hb dX6_readCommand_261 (by decide) ?_
          have ho := (Option.some.inj hF).symm
          exact W.zret (v := 0) hx hb hr rfl (fun t ht hW => ⟨⟨0, (zo48.2, zo46.2.2), rfl, ⟨by rw [ho], by rw [ho]⟩, z_end ht hP⟩, hS.F ht⟩) hS.2.2 dX6_readCommand_262
        · have hF := z_neg hF zc49
          refine lv_aload_n hx hb dX6_readCommand_249 rfl (lv_at hl 1 rfl) ?_
          refine lv_aload_n hx hb dX6_readCommand_250 rfl (lv_at hl 2 rfl) ?_
          obtain ⟨zo50, hzo50, hF⟩ := z_bind hF
          refine z_calliE (fun (u : Int32 × CC) => (wPC g t0 t1 t2 u0 ptx plen u.1 pcnt u.2)) (va_runV (As := [.ref u0]) (rest := []) ⟨hx, hb, hml, hown, hts⟩ (c_X6_readScale l g t0 t1 t2 u0 ptx plen zo48.2 pcnt zo46.2.2 _ _ hzo50) (cwV 1 hts (gdV mU_1126 mU_1128 mU_23 mU_70 mU_1129) rfl rfl rfl (by decide +kernel) ⟨Nat.le_of_ble_eq_true rfl, Nat.le_of_ble_eq_true rfl⟩) ⟨z_blind _ _ _ _, va_recv hK hP (ci := 4) (q0 := 0) rfl rfl, fun U hU hW => z_preE hP hD hK hB hS hA hU hW⟩ rfl rfl hl.1 rfl (lv_room (Nat.le_of_ble_eq_true rfl)) dX6_readCommand_251 ⟨Nat.le_of_ble_eq_true rfl, Nat.le_of_ble_eq_true rfl⟩) hD hS hA (fun _ => rfl) (fun r u H locs hw hP hD hS => ?_)
          obtain ⟨rfl, rfl⟩ := hw
          have hP : va_P (gD g) zCl (wPC g t0 t1 t2 u0 ptx plen zo50.2.1 pcnt zo50.2.2) H := hP
          have hD : va_D A (wPC g t0 t1 t2 u0 ptx plen zo50.2.1 pcnt zo50.2.2) := hD
          refine lv_if_eq (tgt := 261) hx hb dX6_readCommand_254 (by decide) (fun zc51 => ?_) (fun zc51 => ?_)
          · have hF := z_pos hF zc51
            refine lv_iconst (v := 0) hx hb dX6_readCommand_261 (by decide) ?_
            have ho := (Option.some.inj hF).symm
            exact W.zret (v := 0) hx hb hr rfl (fun t ht hW => ⟨⟨0, (zo50.2.1, zo50.2.2), rfl, ⟨by rw [ho], by rw [ho]⟩, z_end ht hP⟩, hS.F ht⟩) hS.2.2 dX6_readCommand_262
          · have hF := z_neg hF zc51
            refine lv_iconst (v := 1) hx hb dX6_readCommand_257 (by decide) ?_
            refine lv_goto (tgt := 262) hx hb dX6_readCommand_258 (by decide) ?_
            have ho := (Option.some.inj hF).symm
            exact W.zret (v := 1) hx hb hr rfl (fun t ht hW => ⟨⟨1, (zo50.2.1, zo50.2.2), rfl, ⟨by rw [ho], by rw [ho]⟩, z_end ht hP⟩, hS.F ht⟩) hS.2.2 dX6_readCommand_262
    have hF := z_neg hF zc45
    by_cases zc52 : (zsw (Int32.toNatClampNeg zo4)) = 7
    · have hF := z_pos hF zc52
      refine lv_tableIn (tgt := 263) (off := 239) hx hb dX6_readCommand_24 (by rw [zc52]; decide) (by rw [zc52]; decide) (by rw [zc52]; rfl) (by decide) ?_
      refine lv_aload_n hx hb dX6_readCommand_263 rfl (lv_at hl 1 rfl) ?_
      refine lv_aload_n hx hb dX6_readCommand_264 rfl (lv_at hl 2 rfl) ?_
      obtain ⟨zo53, hzo53, hF⟩ := z_bind hF
      refine z_calliE (fun (u : Int32 × CC) => (wPC g t0 t1 t2 u0 ptx plen u.1 pcnt u.2)) (va_runV (As := [.ref u0]) (rest := []) ⟨hx, hb, hml, hown, hts⟩ (c_X6_readFirst l g t0 t1 t2 u0 ptx plen zo1.2 pcnt (zk2, (k_first cc), (k_second cc), (k_whole cc), (k_frac cc), (k_scale cc), (k_mode cc)) _ fu _ hzo53) (cwV 1 hts (gdV mU_1136 mU_1138 mU_25 mU_70 mU_1139) rfl rfl rfl (by decide +kernel) ⟨Nat.le_of_ble_eq_true rfl, Nat.le_of_ble_eq_true rfl⟩) ⟨z_blind _ _ _ _, va_recv hK hP (ci := 4) (q0 := 0) rfl rfl, fun U hU hW => z_preE hP hD hK hB hS hA hU hW⟩ rfl rfl hl.1 rfl (lv_room (Nat.le_of_ble_eq_true rfl)) dX6_readCommand_265 ⟨Nat.le_of_ble_eq_true rfl, Nat.le_of_ble_eq_true rfl⟩) hD hS hA (fun _ => rfl) (fun r u H locs hw hP hD hS => ?_)
      obtain ⟨rfl, rfl⟩ := hw
      have hP : va_P (gD g) zCl (wPC g t0 t1 t2 u0 ptx plen zo53.2.1 pcnt zo53.2.2) H := hP
      have hD : va_D A (wPC g t0 t1 t2 u0 ptx plen zo53.2.1 pcnt zo53.2.2) := hD
      refine lv_if_eq (tgt := 292) hx hb dX6_readCommand_268 (by decide) (fun zc54 => ?_) (fun zc54 => ?_)
      · have hF := z_pos hF zc54
        refine lv_iconst (v := 0) hx hb dX6_readCommand_292 (by decide) ?_
        have ho := (Option.some.inj hF).symm
        exact W.zret (v := 0) hx hb hr rfl (fun t ht hW => ⟨⟨0, (zo53.2.1, zo53.2.2), rfl, ⟨by rw [ho], by rw [ho]⟩, z_end ht hP⟩, hS.F ht⟩) hS.2.2 dX6_readCommand_293
      · have hF := z_neg hF zc54
        refine lv_aload_n hx hb dX6_readCommand_271 rfl (lv_at hl 1 rfl) ?_
        refine lv_bipush (v := 32) hx hb dX6_readCommand_272 (by decide) ?_
        obtain ⟨zo55, hzo55, hF⟩ := z_bind hF
        refine z_calli (fun (u : Int32) => (wPT g t0 t1 t2 ptx plen u pcnt)) [0, 1] (va_runV (As := [.int 32]) (rest := []) ⟨hx, hb, hml, hown, hts⟩ (c_X6_readCharacter l g t0 t1 t2 ptx plen zo53.2.1 pcnt _ 32 _ hzo55) (cwV 1 hts (gdV mU_1114 mU_1116 mU_20 mU_70 mU_1117) rfl rfl rfl (by decide +kernel) ⟨Nat.le_of_ble_eq_true rfl, Nat.le_of_ble_eq_true rfl⟩) ⟨z_blind _ _ _ _, va_recv hK hP (ci := 4) (q0 := 0) rfl rfl, fun U hU hW => z_pre [0, 1] hP hD hK hB hS hA rfl rfl hU hW⟩ rfl rfl hl.1 rfl (lv_room (Nat.le_of_ble_eq_true rfl)) dX6_readCommand_274 ⟨Nat.le_of_ble_eq_true rfl, Nat.le_of_ble_eq_true rfl⟩) hP hD hS hA rfl (fun _ => rfl) (fun r u H locs hw hP hD hS => ?_)
        obtain ⟨rfl, rfl⟩ := hw
        have hP : va_P (gD g) zCl (wPC g t0 t1 t2 u0 ptx plen zo55.2 pcnt zo53.2.2) H := hP
        have hD : va_D A (wPC g t0 t1 t2 u0 ptx plen zo55.2 pcnt zo53.2.2) := hD
        refine lv_if_eq (tgt := 292) hx hb dX6_readCommand_277 (by decide) (fun zc56 => ?_) (fun zc56 => ?_)
        · have hF := z_pos hF zc56
          refine lv_iconst (v := 0) hx hb dX6_readCommand_292 (by decide) ?_
          have ho := (Option.some.inj hF).symm
          exact W.zret (v := 0) hx hb hr rfl (fun t ht hW => ⟨⟨0, (zo55.2, zo53.2.2), rfl, ⟨by rw [ho], by rw [ho]⟩, z_end ht hP⟩, hS.F ht⟩) hS.2.2 dX6_readCommand_293
        · have hF := z_neg hF zc56
          refine lv_aload_n hx hb dX6_readCommand_280 rfl (lv_at hl 1 rfl) ?_
          refine lv_aload_n hx hb dX6_readCommand_281 rfl (lv_at hl 2 rfl) ?_
          obtain ⟨zo57, hzo57, hF⟩ := z_bind hF
          refine z_calliE (fun (u : Int32 × CC) => (wPC g t0 t1 t2 u0 ptx plen u.1 pcnt u.2)) (va_runV (As := [.ref u0]) (rest := []) ⟨hx, hb, hml, hown, hts⟩ (c_X6_readMode l g t0 t1 t2 u0 ptx plen zo55.2 pcnt zo53.2.2 _ fu _ hzo57) (cwV 1 hts (gdV mU_1130 mU_1132 mU_24 mU_70 mU_1133) rfl rfl rfl (by decide +kernel) ⟨Nat.le_of_ble_eq_true rfl, Nat.le_of_ble_eq_true rfl⟩) ⟨z_blind _ _ _ _, va_recv hK hP (ci := 4) (q0 := 0) rfl rfl, fun U hU hW => z_preE hP hD hK hB hS hA hU hW⟩ rfl rfl hl.1 rfl (lv_room (Nat.le_of_ble_eq_true rfl)) dX6_readCommand_282 ⟨Nat.le_of_ble_eq_true rfl, Nat.le_of_ble_eq_true rfl⟩) hD hS hA (fun _ => rfl) (fun r u H locs hw hP hD hS => ?_)
          obtain ⟨rfl, rfl⟩ := hw
          have hP : va_P (gD g) zCl (wPC g t0 t1 t2 u0 ptx plen zo57.2.1 pcnt zo57.2.2) H := hP
          have hD : va_D A (wPC g t0 t1 t2 u0 ptx plen zo57.2.1 pcnt zo57.2.2) := hD
          refine lv_if_eq (tgt := 292) hx hb dX6_readCommand_285 (by decide) (fun zc58 => ?_) (fun zc58 => ?_)
          · have hF := z_pos hF zc58
            refine lv_iconst (v := 0) hx hb dX6_readCommand_292 (by decide) ?_
            have ho := (Option.some.inj hF).symm
            exact W.zret (v := 0) hx hb hr rfl (fun t ht hW => ⟨⟨0, (zo57.2.1, zo57.2.2), rfl, ⟨by rw [ho], by rw [ho]⟩, z_end ht hP⟩, hS.F ht⟩) hS.2.2 dX6_readCommand_293
          · have hF := z_neg hF zc58
            refine lv_iconst (v := 1) hx hb dX6_readCommand_288 (by decide) ?_
            refine lv_goto (tgt := 293) hx hb dX6_readCommand_289 (by decide) ?_
            have ho := (Option.some.inj hF).symm
            exact W.zret (v := 1) hx hb hr rfl (fun t ht hW => ⟨⟨1, (zo57.2.1, zo57.2.2), rfl, ⟨by rw [ho], by rw [ho]⟩, z_end ht hP⟩, hS.F ht⟩) hS.2.2 dX6_readCommand_293
    have hF := z_neg hF zc52
    refine lv_tableOut (tgt := 294) hx hb dX6_readCommand_24 (by have hzc6 : ((zsw (Int32.toNatClampNeg zo4)) : Int32).toInt ≠ 1 := fun h => zc6 (Int32.toInt_inj.mp h); have hzc13 : ((zsw (Int32.toNatClampNeg zo4)) : Int32).toInt ≠ 2 := fun h => zc13 (Int32.toInt_inj.mp h); have hzc24 : ((zsw (Int32.toNatClampNeg zo4)) : Int32).toInt ≠ 3 := fun h => zc24 (Int32.toInt_inj.mp h); have hzc27 : ((zsw (Int32.toNatClampNeg zo4)) : Int32).toInt ≠ 4 := fun h => zc27 (Int32.toInt_inj.mp h); have hzc34 : ((zsw (Int32.toNatClampNeg zo4)) : Int32).toInt ≠ 5 := fun h => zc34 (Int32.toInt_inj.mp h); have hzc45 : ((zsw (Int32.toNatClampNeg zo4)) : Int32).toInt ≠ 6 := fun h => zc45 (Int32.toInt_inj.mp h); have hzc52 : ((zsw (Int32.toNatClampNeg zo4)) : Int32).toInt ≠ 7 := fun h => zc52 (Int32.toInt_inj.mp h); omega) (by decide) ?_
    refine lv_aload_n hx hb dX6_readCommand_294 rfl (lv_at hl 1 rfl) ?_
    refine lv_aload_n hx hb dX6_readCommand_295 rfl (lv_at hl 2 rfl) ?_
    obtain ⟨zo59, hzo59, hF⟩ := z_bind hF
    refine z_calliE (fun (u : Int32 × CC) => (wPC g t0 t1 t2 u0 ptx plen u.1 pcnt u.2)) (va_runV (As := [.ref u0]) (rest := []) ⟨hx, hb, hml, hown, hts⟩ (c_X6_readScale l g t0 t1 t2 u0 ptx plen zo1.2 pcnt (zk2, (k_first cc), (k_second cc), (k_whole cc), (k_frac cc), (k_scale cc), (k_mode cc)) _ _ hzo59) (cwV 1 hts (gdV mU_1126 mU_1128 mU_23 mU_70 mU_1129) rfl rfl rfl (by decide +kernel) ⟨Nat.le_of_ble_eq_true rfl, Nat.le_of_ble_eq_true rfl⟩) ⟨z_blind _ _ _ _, va_recv hK hP (ci := 4) (q0 := 0) rfl rfl, fun U hU hW => z_preE hP hD hK hB hS hA hU hW⟩ rfl rfl hl.1 rfl (lv_room (Nat.le_of_ble_eq_true rfl)) dX6_readCommand_296 ⟨Nat.le_of_ble_eq_true rfl, Nat.le_of_ble_eq_true rfl⟩) hD hS hA (fun _ => rfl) (fun r u H locs hw hP hD hS => ?_)
    obtain ⟨rfl, rfl⟩ := hw
    have hP : va_P (gD g) zCl (wPC g t0 t1 t2 u0 ptx plen zo59.2.1 pcnt zo59.2.2) H := hP
    have hD : va_D A (wPC g t0 t1 t2 u0 ptx plen zo59.2.1 pcnt zo59.2.2) := hD
    obtain ⟨zg60, hF⟩ := z_grd hF
    have ho := (Option.some.inj hF).symm
    exact W.zret (v := zo59.1) hx hb hr (z_narb (Classical.not_not.mp zg60)).1 (fun t ht hW => ⟨⟨zo59.1, (zo59.2.1, zo59.2.2), rfl, ⟨by rw [ho], by rw [ho]⟩, z_end ht hP⟩, hS.F ht⟩) hS.2.2 dX6_readCommand_299
abbrev w_X6_read : List Cond := .code yX6_read cX6_read 1 (some .boolean) :: wU
abbrev r_X6_read : Room := { frames := 7, cells := 0, slots := 0, locals := 170 }
abbrev q_X6_read (g : GG) (ad : Nat → Nat) (st : SS) (sv : SS) (isS : Int32) (hst : Nat → SS) (spare : Int32) (undo : Int32) (seen : Nat → Int32) (dbef : Int32) (drec : Int32) (ptx : Nat → Int32) (plen : Int32) (ppos : Int32) (pcnt : Int32) (cmds : Nat → CC) (stE : Int32) (stF : Int32) (lch : Nat → Int32) (llen : Int32) (o : Int32 × Int32 × Int32 × (Nat → CC)) (A : Nat → Prop) := va_Qi (fun (r : Int32) (u : Int32 × Int32 × (Nat → CC)) => o.1 = r ∧ o.2 = u) (fun u t => va_P (gD g) zCl (wRoot g ad st sv isS hst spare undo seen dbef drec ptx plen u.1 u.2.1 u.2.2 stE stF lch llen) t.heap) A
set_option maxHeartbeats 4000000 in
set_option maxRecDepth 100000 in
theorem c_X6_read (l : Launch) (g : GG) (ad : Nat → Nat) (st : SS) (sv : SS) (isS : Int32) (hst : Nat → SS) (spare : Int32) (undo : Int32) (seen : Nat → Int32) (dbef : Int32) (drec : Int32) (ptx : Nat → Int32) (plen : Int32) (ppos : Int32) (pcnt : Int32) (cmds : Nat → CC) (stE : Int32) (stF : Int32) (lch : Nat → Int32) (llen : Int32) (sz : Nat) (fu : Nat) (o : Int32 × Int32 × Int32 × (Nat → CC)) (hF : F_X6_read fu ptx plen ppos pcnt cmds = some o) : Met l yX6_read w_X6_read r_X6_read (va_Pc [.ref (ad 60)] (zP g (wRoot g ad st sv isS hst spare undo seen dbef drec ptx plen ppos pcnt cmds stE stF lch llen) sz)) (q_X6_read g ad st sv isS hst spare undo seen dbef drec ptx plen ppos pcnt cmds stE stF lch llen o (va_A (wRoot g ad st sv isS hst spare undo seen dbef drec ptx plen ppos pcnt cmds stE stF lch llen) sz)) 0 0 (va_A (wRoot g ad st sv isS hst spare undo seen dbef drec ptx plen ppos pcnt cmds stE stF lch llen) sz) := by
  refine Met.ofW (cc := cX6_read) (maxL := 1) (ret := (some .boolean)) (by decide) rfl ?_
  intro p e s m args below meth c s₁ B hml hv
  obtain ⟨rfl, rfl, hP, hK, hD0, hB⟩ := hv
  have hx := B.exec
  have hb := B.bytes
  have hr := B.returns
  have hts : ∀ w ∈ wU, w.before _ s = true := fun w h => atoms_spec (ws := w_X6_read) B.pre w (List.mem_cons_of_mem _ h)
  have hown : s.vm.findClass RX6 = some m.cls := findClass_of_methodNamed B.named
  have hlocks := B.notSynchronized
  have hD := hD0.self (sz := s.heap.size)
  generalize hAe : va_A (wRoot g ad st sv isS hst spare undo seen dbef drec ptx plen ppos pcnt cmds stE stF lch llen) s.heap.size = A at hD hB ⊢
  have hA : ∀ q : Nat, s.heap.size ≤ q → A q := fun q h => by rw [← hAe]; exact Or.inr h
  have hS : va_S A s.heap s.heap [] := va_S.rf
  have hl := lv_entry ([.ref (ad 60)]) (n := 1) (Nat.le_of_ble_eq_true rfl)
  rw [lg_entry_eq]
  generalize (lg_sl ([.ref (ad 60)]) ++ List.replicate (1 - (lg_sl ([.ref (ad 60)])).length) Slot.unset).toArray = ls at hl ⊢
  have hl : lv_has ls 1 [(0, .ref (ad 60))] := hl
  unfold F_X6_read at hF
  have K10 : ∀ (n10 : Nat) (ppos : Int32) (pcnt : Int32) (cmds : Nat → CC), F_X6_read_10 fu n10 ptx plen ppos pcnt cmds = some o → ∀ (H : Heap) (locs : List Loc) (ls : Array Slot), lv_has ls 1 [(0, .ref (ad 60))] → va_P (gD g) zCl (wRoot g ad st sv isS hst spare undo seen dbef drec ptx plen ppos pcnt cmds stE stF lch llen) H → va_D A (wRoot g ad st sv isS hst spare undo seen dbef drec ptx plen ppos pcnt cmds stE stF lch llen) → va_S A s.heap H locs → W p l e (headSpec w_X6_read r_X6_read).room s m ([.ref (ad 60)] : List Value).toArray below meth c H locs 0 0 (MQ below (q_X6_read g ad st sv isS hst spare undo seen dbef drec ptx plen ppos pcnt cmds stE stF lch llen o A) ([.ref (ad 60)] : List Value).toArray s 0 0 A) (F0 m 10 ls []) := by
    intro n10
    induction n10 with
    | zero =>
      intro ppos pcnt cmds hF
      exact absurd hF (by simp [F_X6_read_10])
    | succ n10 ih10 =>
      intro ppos pcnt cmds hF H locs ls hl hP hD hS
      unfold F_X6_read_10 at hF
      refine lv_aload_n hx hb dX6_read_10 rfl (lv_at hl 0 rfl) ?_
      refine va_get (D := gD g) (ci := 4) (v := .int pcnt) (C := RX6) (T := TX6) (N := 5) hx hb hts inX6 hown hK hP 60 rfl rfl 4 (by decide) (hts _ mU_249) (fun _ h9 => h9) rfl dX6_read_11 ?_
      refine lv_bipush (v := 9) hx hb dX6_read_14 (by decide) ?_
      refine lv_icmp_ge (tgt := 71) hx hb dX6_read_16 (by decide) (fun zc1 => ?_) (fun zc1 => ?_)
      · have hF := z_pos hF zc1
        refine lv_iconst (v := 0) hx hb dX6_read_71 (by decide) ?_
        have ho := (Option.some.inj hF).symm
        exact W.zret (v := 0) hx hb hr rfl (fun t ht hW => ⟨⟨0, (ppos, pcnt, cmds), rfl, ⟨by rw [ho], by rw [ho]⟩, z_end ht hP⟩, hS.F ht⟩) hS.2.2 dX6_read_72
      · have hF := z_neg hF zc1
        refine lv_aload_n hx hb dX6_read_19 rfl (lv_at hl 0 rfl) ?_
        refine lv_aload_n hx hb dX6_read_20 rfl (lv_at hl 0 rfl) ?_
        refine va_get (D := gD g) (ci := 4) (v := .ref (ad 62)) (C := RX6) (T := TX6) (N := 5) hx hb hts inX6 hown hK hP 60 rfl rfl 3 (by decide) (hts _ mU_247) (fun _ h9 => h9) rfl dX6_read_21 ?_
        refine lv_aload_n hx hb dX6_read_24 rfl (lv_at hl 0 rfl) ?_
        refine va_get (D := gD g) (ci := 4) (v := .int pcnt) (C := RX6) (T := TX6) (N := 5) hx hb hts inX6 hown hK hP 60 rfl rfl 4 (by decide) (hts _ mU_249) (fun _ h9 => h9) rfl dX6_read_25 ?_
        obtain ⟨zg2, hF⟩ := z_grd hF
        refine va_aldq hx hb hK hP 62 5 rfl rfl zg2 dX6_read_28 ?_
        obtain ⟨zo3, hzo3, hF⟩ := z_bind hF
        refine z_calli (fun (u : Int32 × CC) => wPC g (ad 60) (ad 61) (ad 62) (ad (63 + (Int32.toNatClampNeg pcnt))) ptx plen u.1 pcnt u.2) [60, 61, 63 + (Int32.toNatClampNeg pcnt)] (va_runV (As := [.ref (ad (63 + (Int32.toNatClampNeg pcnt)))]) (rest := []) ⟨hx, hb, hml, hown, hts⟩ (c_X6_readCommand l g (ad 60) (ad 61) (ad 62) (ad (63 + (Int32.toNatClampNeg pcnt))) ptx plen ppos pcnt (cmds (Int32.toNatClampNeg pcnt)) _ fu _ hzo3) (cwV 1 hts (gdV mU_1058 mU_1060 mU_14 mU_70 mU_1061) rfl rfl rfl (by decide +kernel) ⟨Nat.le_of_ble_eq_true rfl, Nat.le_of_ble_eq_true rfl⟩) ⟨z_blind _ _ _ _, va_recv hK hP (ci := 4) (q0 := 60) rfl rfl, fun U hU hW => z_pre [60, 61, 63 + (Int32.toNatClampNeg pcnt)] hP hD hK hB hS hA (wRoot_cmdC (Nat.lt_of_not_le (fun h => zg2 (Or.inr h)))) (wRoot_cmdN (Nat.lt_of_not_le (fun h => zg2 (Or.inr h)))) hU hW⟩ rfl rfl hl.1 rfl (lv_room (Nat.le_of_ble_eq_true rfl)) dX6_read_29 ⟨Nat.le_of_ble_eq_true rfl, Nat.le_of_ble_eq_true rfl⟩) hP hD hS hA (wRoot_cmdC (Nat.lt_of_not_le (fun h => zg2 (Or.inr h)))) (fun _ => rfl) (fun r u H locs hw hP hD hS => ?_)
        obtain ⟨rfl, rfl⟩ := hw
        have hP : va_P (gD g) zCl (wRoot g ad st sv isS hst spare undo seen dbef drec ptx plen zo3.2.1 pcnt (fun i => if i = (Int32.toNatClampNeg pcnt) then zo3.2.2 else cmds i) stE stF lch llen) H := Eq.mp (congrArg (fun w => va_P (gD g) zCl w H) (wRoot_cmdS (Nat.lt_of_not_le (fun h => zg2 (Or.inr h))) _ _)) hP
        have hD : va_D A (wRoot g ad st sv isS hst spare undo seen dbef drec ptx plen zo3.2.1 pcnt (fun i => if i = (Int32.toNatClampNeg pcnt) then zo3.2.2 else cmds i) stE stF lch llen) := Eq.mp (congrArg (fun w => va_D A w) (wRoot_cmdS (Nat.lt_of_not_le (fun h => zg2 (Or.inr h))) _ _)) hD
        refine lv_if_ne (tgt := 37) hx hb dX6_read_32 (by decide) (fun zc4 => ?_) (fun zc4 => ?_)
        · have hF := z_neg hF zc4
          refine lv_aload_n hx hb dX6_read_37 rfl (lv_at hl 0 rfl) ?_
          refine lv_dup hx hb dX6_read_38 rfl ?_
          refine va_get (D := gD g) (ci := 4) (v := .int pcnt) (C := RX6) (T := TX6) (N := 5) hx hb hts inX6 hown hK hP 60 rfl rfl 4 (by decide) (hts _ mU_249) (fun _ h9 => h9) rfl dX6_read_39 ?_
          refine lv_iconst (v := 1) hx hb dX6_read_42 (by decide) ?_
          refine lv_iadd hx hb dX6_read_43 ?_
          refine va_put (D := gD g) (ci := 4) (v := .int (pcnt + 1)) (ty := .int) (C := RX6) (T := TX6) (N := 5) hx hb hts inX6 tyX6 tyX6_ok nmX6 hown hK hP hD hS 60 rfl rfl 4 (by decide) (hts _ mU_249) (fun _ h9 => h9) rfl (by decide +kernel) rfl rfl (Nat.le_of_ble_eq_true rfl) dX6_read_44 (fun H locs hP hD hS => ?_)
          have hP : va_P (gD g) zCl (wRoot g ad st sv isS hst spare undo seen dbef drec ptx plen zo3.2.1 (pcnt + 1) (fun i => if i = (Int32.toNatClampNeg pcnt) then zo3.2.2 else cmds i) stE stF lch llen) H := hP
          have hD : va_D A (wRoot g ad st sv isS hst spare undo seen dbef drec ptx plen zo3.2.1 (pcnt + 1) (fun i => if i = (Int32.toNatClampNeg pcnt) then zo3.2.2 else cmds i) stE stF lch llen) := hD
          refine lv_aload_n hx hb dX6_read_47 rfl (lv_at hl 0 rfl) ?_
          refine va_get (D := gD g) (ci := 4) (v := .int zo3.2.1) (C := RX6) (T := TX6) (N := 5) hx hb hts inX6 hown hK hP 60 rfl rfl 2 (by decide) (hts _ mU_245) (fun _ h9 => h9) rfl dX6_read_48 ?_
          refine lv_aload_n hx hb dX6_read_51 rfl (lv_at hl 0 rfl) ?_
          refine va_get (D := gD g) (ci := 4) (v := .int plen) (C := RX6) (T := TX6) (N := 5) hx hb hts inX6 hown hK hP 60 rfl rfl 1 (by decide) (hts _ mU_243) (fun _ h9 => h9) rfl dX6_read_52 ?_
          refine lv_icmp_ne (tgt := 60) hx hb dX6_read_55 (by decide) (fun zc5 => ?_) (fun zc5 => ?_)
          · have hF := z_neg hF zc5
            refine lv_aload_n hx hb dX6_read_60 rfl (lv_at hl 0 rfl) ?_
            refine lv_bipush (v := 59) hx hb dX6_read_61 (by decide) ?_
            obtain ⟨zo6, hzo6, hF⟩ := z_bind hF
            refine z_calli (fun (u : Int32) => (wPT g (ad 60) (ad 61) (ad 62) ptx plen u (pcnt + 1))) [60, 61] (va_runV (As := [.int 59]) (rest := []) ⟨hx, hb, hml, hown, hts⟩ (c_X6_readCharacter l g (ad 60) (ad 61) (ad 62) ptx plen zo3.2.1 (pcnt + 1) _ 59 _ hzo6) (cwV 1 hts (gdV mU_1114 mU_1116 mU_20 mU_70 mU_1117) rfl rfl rfl (by decide +kernel) ⟨Nat.le_of_ble_eq_true rfl, Nat.le_of_ble_eq_true rfl⟩) ⟨z_blind _ _ _ _, va_recv hK hP (ci := 4) (q0 := 60) rfl rfl, fun U hU hW => z_pre [60, 61] hP hD hK hB hS hA rfl rfl hU hW⟩ rfl rfl hl.1 rfl (lv_room (Nat.le_of_ble_eq_true rfl)) dX6_read_63 ⟨Nat.le_of_ble_eq_true rfl, Nat.le_of_ble_eq_true rfl⟩) hP hD hS hA rfl (fun _ => rfl) (fun r u H locs hw hP hD hS => ?_)
            obtain ⟨rfl, rfl⟩ := hw
            have hP : va_P (gD g) zCl (wRoot g ad st sv isS hst spare undo seen dbef drec ptx plen zo6.2 (pcnt + 1) (fun i => if i = (Int32.toNatClampNeg pcnt) then zo3.2.2 else cmds i) stE stF lch llen) H := hP
            have hD : va_D A (wRoot g ad st sv isS hst spare undo seen dbef drec ptx plen zo6.2 (pcnt + 1) (fun i => if i = (Int32.toNatClampNeg pcnt) then zo3.2.2 else cmds i) stE stF lch llen) := hD
            refine lv_if_ne (tgt := 10) hx hb dX6_read_66 (by decide) (fun zc7 => ?_) (fun zc7 => ?_)
            · have hF := z_neg hF zc7
              exact ih10 zo6.2 (pcnt + 1) (fun i => if i = (Int32.toNatClampNeg pcnt) then zo3.2.2 else cmds i) hF _ _ _ (lv_sub hl [0] rfl) hP hD hS
            · have hF := z_pos hF zc7
              refine lv_iconst (v := 0) hx hb dX6_read_69 (by decide) ?_
              have ho := (Option.some.inj hF).symm
              exact W.zret (v := 0) hx hb hr rfl (fun t ht hW => ⟨⟨0, (zo6.2, (pcnt + 1), (fun i => if i = (Int32.toNatClampNeg pcnt) then zo3.2.2 else cmds i)), rfl, ⟨by rw [ho], by rw [ho]⟩, z_end ht hP⟩, hS.F ht⟩) hS.2.2 dX6_read_70
          · have hF := z_pos hF zc5
            refine lv_iconst (v := 1) hx hb dX6_read_58 (by decide) ?_
            have ho := (Option.some.inj hF).symm
            exact W.zret (v := 1) hx hb hr rfl (fun t ht hW => ⟨⟨1, (zo3.2.1, (pcnt + 1), (fun i => if i = (Int32.toNatClampNeg pcnt) then zo3.2.2 else cmds i)), rfl, ⟨by rw [ho], by rw [ho]⟩, z_end ht hP⟩, hS.F ht⟩) hS.2.2 dX6_read_59
        · have hF := z_pos hF zc4
          refine lv_iconst (v := 0) hx hb dX6_read_35 (by decide) ?_
          have ho := (Option.some.inj hF).symm
          exact W.zret (v := 0) hx hb hr rfl (fun t ht hW => ⟨⟨0, (zo3.2.1, pcnt, (fun i => if i = (Int32.toNatClampNeg pcnt) then zo3.2.2 else cmds i)), rfl, ⟨by rw [ho], by rw [ho]⟩, z_end ht hP⟩, hS.F ht⟩) hS.2.2 dX6_read_36
  refine lv_aload_n hx hb dX6_read_0 rfl (lv_at hl 0 rfl) ?_
  refine lv_iconst (v := 0) hx hb dX6_read_1 (by decide) ?_
  refine va_put (D := gD g) (ci := 4) (v := .int 0) (ty := .int) (C := RX6) (T := TX6) (N := 5) hx hb hts inX6 tyX6 tyX6_ok nmX6 hown hK hP hD hS 60 rfl rfl 2 (by decide) (hts _ mU_245) (fun _ h9 => h9) rfl (by decide +kernel) rfl rfl (Nat.le_of_ble_eq_true rfl) dX6_read_2 (fun H locs hP hD hS => ?_)
  have hP : va_P (gD g) zCl (wRoot g ad st sv isS hst spare undo seen dbef drec ptx plen 0 pcnt cmds stE stF lch llen) H := hP
  have hD : va_D A (wRoot g ad st sv isS hst spare undo seen dbef drec ptx plen 0 pcnt cmds stE stF lch llen) := hD
  refine lv_aload_n hx hb dX6_read_5 rfl (lv_at hl 0 rfl) ?_
  refine lv_iconst (v := 0) hx hb dX6_read_6 (by decide) ?_
  refine va_put (D := gD g) (ci := 4) (v := .int 0) (ty := .int) (C := RX6) (T := TX6) (N := 5) hx hb hts inX6 tyX6 tyX6_ok nmX6 hown hK hP hD hS 60 rfl rfl 4 (by decide) (hts _ mU_249) (fun _ h9 => h9) rfl (by decide +kernel) rfl rfl (Nat.le_of_ble_eq_true rfl) dX6_read_7 (fun H locs hP hD hS => ?_)
  have hP : va_P (gD g) zCl (wRoot g ad st sv isS hst spare undo seen dbef drec ptx plen 0 0 cmds stE stF lch llen) H := hP
  have hD : va_D A (wRoot g ad st sv isS hst spare undo seen dbef drec ptx plen 0 0 cmds stE stF lch llen) := hD
  exact K10 fu 0 0 cmds hF _ _ _ (lv_sub hl [0] rfl) hP hD hS
