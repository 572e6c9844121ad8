abbrev w_X9_isUp : List Cond := .code yX9_isUp cX9_isUp 2 (some .boolean) :: wU
abbrev r_X9_isUp : Room := { frames := 0, cells := 0, slots := 0, locals := 0 }
abbrev q_X9_isUp (g : GG) (o : Int32) (A : Nat → Prop) := va_Qi (fun (r : Int32) (u : Unit) => o = r) (fun u t => va_P (gD g) zCl [] t.heap) A
set_option maxHeartbeats 4000000 in
set_option maxRecDepth 100000 in
theorem c_X9_isUp (l : Launch) (g : GG) (sz : Nat) (p0 : Int32) (p1 : Int32) (o : Int32) (hF : F_X9_isUp p0 p1 = some o) : Met l yX9_isUp w_X9_isUp r_X9_isUp (va_Pc [.int p0, .int p1] (zP g [] sz)) (q_X9_isUp g o (va_A [] sz)) 0 0 (va_A [] sz) := by
  refine Met.ofW (cc := cX9_isUp) (maxL := 2) (ret := (some .boolean)) (by decide) rfl ?_
  intro p e s m args below meth c s₁ B hml hv
  obtain ⟨rfl, rfl, hP, hK, hD0, hB⟩ := hv
  have hx := B.exec
  have hb := B.bytes
  have hr := B.returns
  have hts : ∀ w ∈ wU, w.before _ s = true := fun w h => atoms_spec (ws := w_X9_isUp) B.pre w (List.mem_cons_of_mem _ h)
  have hown : s.vm.findClass RX9 = some m.cls := findClass_of_methodNamed B.named
  have hlocks := B.notSynchronized
  have hD := hD0.self (sz := s.heap.size)
  generalize hAe : va_A [] s.heap.size = A at hD hB ⊢
  have hA : ∀ q : Nat, s.heap.size ≤ q → A q := fun q h => by rw [← hAe]; exact Or.inr h
  have hS : va_S A s.heap s.heap [] := va_S.rf
  have hl := lv_entry ([.int p0, .int p1]) (n := 2) (Nat.le_of_ble_eq_true rfl)
  rw [lg_entry_eq]
  generalize (lg_sl ([.int p0, .int p1]) ++ List.replicate (2 - (lg_sl ([.int p0, .int p1])).length) Slot.unset).toArray = ls at hl ⊢
  have hl : lv_has ls 2 [(0, .int p0), (1, .int p1)] := hl
  unfold F_X9_isUp at hF
  refine lv_iload_n hx hb dX9_isUp_0 rfl (lv_at hl 0 rfl) ?_
  refine lv_iload_n hx hb dX9_isUp_1 rfl (lv_at hl 1 rfl) ?_
  refine lv_ishr hx hb dX9_isUp_2 ?_
  refine lv_iconst (v := 1) hx hb dX9_isUp_3 (by decide) ?_
  refine lv_iand hx hb dX9_isUp_4 ?_
  refine lv_iconst (v := 1) hx hb dX9_isUp_5 (by decide) ?_
  refine lv_icmp_ne (tgt := 13) hx hb dX9_isUp_6 (by decide) (fun zc1 => ?_) (fun zc1 => ?_)
  · have hF := z_neg hF zc1
    refine lv_iconst (v := 0) hx hb dX9_isUp_13 (by decide) ?_
    have ho := (Option.some.inj hF).symm
    exact W.zret (v := 0) hx hb hr rfl (fun t ht hW => ⟨⟨0, (), rfl, ho, z_end ht hP⟩, hS.F ht⟩) hS.2.2 dX9_isUp_14
  · have hF := z_pos hF zc1
    refine lv_iconst (v := 1) hx hb dX9_isUp_9 (by decide) ?_
    refine lv_goto (tgt := 14) hx hb dX9_isUp_10 (by decide) ?_
    have ho := (Option.some.inj hF).symm
    exact W.zret (v := 1) hx hb hr rfl (fun t ht hW => ⟨⟨1, (), rfl, ho, z_end ht hP⟩, hS.F ht⟩) hS.2.2 dX9_isUp_14
abbrev w_X9_roundedBy : List Cond := .code yX9_roundedBy cX9_roundedBy 9 (some .long) :: wU
abbrev r_X9_roundedBy : Room := { frames := 1, cells := 0, slots := 0, locals := 21 }
abbrev q_X9_roundedBy (g : GG) (o : Int64) (A : Nat → Prop) := va_Ql (fun (r : Int64) (u : Unit) => o = r) (fun u t => va_P (gD g) zCl [] t.heap) A
set_option maxHeartbeats 4000000 in
set_option maxRecDepth 100000 in
theorem c_X9_roundedBy (l : Launch) (g : GG) (sz : Nat) (p0 : Int32) (p1 : Int32) (p2 : Int64) (p4 : Int32) (o : Int64) (hF : F_X9_roundedBy p0 p1 p2 p4 = some o) : Met l yX9_roundedBy w_X9_roundedBy r_X9_roundedBy (va_Pc [.int p0, .int p1, .long p2, .int p4] (zP g [] sz)) (q_X9_roundedBy g o (va_A [] sz)) 0 0 (va_A [] sz) := by
  refine Met.ofW (cc := cX9_roundedBy) (maxL := 9) (ret := (some .long)) (by decide) rfl ?_
  intro p e s m args below meth c s₁ B hml hv
  obtain ⟨rfl, rfl, hP, hK, hD0, hB⟩ := hv
  have hx := B.exec
  have hb := B.bytes
  have hr := B.returns
  have hts : ∀ w ∈ wU, w.before _ s = true := fun w h => atoms_spec (ws := w_X9_roundedBy) B.pre w (List.mem_cons_of_mem _ h)
  have hown : s.vm.findClass RX9 = some m.cls := findClass_of_methodNamed B.named
  have hlocks := B.notSynchronized
  have hD := hD0.self (sz := s.heap.size)
  generalize hAe : va_A [] s.heap.size = A at hD hB ⊢
  have hA : ∀ q : Nat, s.heap.size ≤ q → A q := fun q h => by rw [← hAe]; exact Or.inr h
  have hS : va_S A s.heap s.heap [] := va_S.rf
  have hl := lv_entry ([.int p0, .int p1, .long p2, .int p4]) (n := 9) (Nat.le_of_ble_eq_true rfl)
  rw [lg_entry_eq]
  generalize (lg_sl ([.int p0, .int p1, .long p2, .int p4]) ++ List.replicate (9 - (lg_sl ([.int p0, .int p1, .long p2, .int p4])).length) Slot.unset).toArray = ls at hl ⊢
  have hl : lv_has ls 9 [(0, .int p0), (1, .int p1), (2, .long p2), (4, .int p4)] := hl
  unfold F_X9_roundedBy at hF
  refine lv_iload hx hb dX9_roundedBy_0 (lv_at hl 3 rfl) ?_
  obtain ⟨zo1, hzo1, hF⟩ := z_bind hF
  refine z_calllE (fun (_ : Unit) => []) (va_runS (As := [.int p4]) (rest := []) ⟨hx, hb, hml, hown, hts⟩ (c_X7_stepOf l g _ p4 _ hzo1) (va_cwS 1 hts (gdS mU_356 mU_343 mU_88 mU_344) rfl rfl rfl (by decide +kernel) ⟨Nat.le_of_ble_eq_true rfl, Nat.le_of_ble_eq_true rfl⟩) ⟨z_blind _ _ _ _, fun U hU hW => z_preE hP hD hK hB hS hA hU hW⟩ rfl rfl hl.1 rfl (lv_room (Nat.le_of_ble_eq_true rfl)) dX9_roundedBy_2 ⟨Nat.le_of_ble_eq_true rfl, Nat.le_of_ble_eq_true rfl⟩) hD hS hA (fun _ => rfl) (fun r u H locs hw hP hD hS => ?_)
  subst hw
  have hP : va_P (gD g) zCl [] H := hP
  have hD : va_D A [] := hD
  refine lv_lstore (lv' := [(5, .long zo1), (0, .int p0), (1, .int p1), (2, .long p2), (4, .int p4)]) hx hb dX9_roundedBy_5 hl (by decide) rfl (fun ls hl => ?_)
  refine lv_lload_n hx hb dX9_roundedBy_7 rfl (lv_at hl 3 rfl) ?_
  refine lv_lload_n hx hb dX9_roundedBy_8 rfl (lv_at hl 3 rfl) ?_
  refine lv_lload hx hb dX9_roundedBy_9 (lv_at hl 0 rfl) ?_
  obtain ⟨zg2, hF⟩ := z_grd hF
  refine lv_lrem hx hb dX9_roundedBy_11 zg2 ?_
  refine lv_lsub hx hb dX9_roundedBy_12 ?_
  obtain ⟨zv3, ezv3, hF⟩ := z_let hF
  refine z_topl ezv3 ?_
  refine lv_lstore (lv' := [(7, .long zv3), (5, .long zo1), (0, .int p0), (1, .int p1), (2, .long p2), (4, .int p4)]) hx hb dX9_roundedBy_13 hl (by decide) rfl (fun ls hl => ?_)
  refine lv_iload_n hx hb dX9_roundedBy_15 rfl (lv_at hl 2 rfl) ?_
  refine lv_iload_n hx hb dX9_roundedBy_16 rfl (lv_at hl 3 rfl) ?_
  obtain ⟨zo4, hzo4, hF⟩ := z_bind hF
  refine z_calliE (fun (_ : Unit) => []) (va_runS (As := [.int p0, .int p1]) (rest := []) ⟨hx, hb, hml, hown, hts⟩ (c_X9_isUp l g _ p0 p1 _ hzo4) (va_cwS 2 hts (gdS mU_368 mU_369 mU_91 mU_370) rfl rfl rfl (by decide +kernel) ⟨Nat.le_of_ble_eq_true rfl, Nat.le_of_ble_eq_true rfl⟩) ⟨z_blind _ _ _ _, fun U hU hW => z_preE hP hD hK hB hS hA hU hW⟩ rfl rfl hl.1 rfl (lv_room (Nat.le_of_ble_eq_true rfl)) dX9_roundedBy_17 ⟨Nat.le_of_ble_eq_true rfl, Nat.le_of_ble_eq_true rfl⟩) hD hS hA (fun _ => rfl) (fun r u H locs hw hP hD hS => ?_)
  subst hw
  have hP : va_P (gD g) zCl [] H := hP
  have hD : va_D A [] := hD
  refine lv_if_eq (tgt := 31) hx hb dX9_roundedBy_20 (by decide) (fun zc5 => ?_) (fun zc5 => ?_)
  · have hF := z_pos hF zc5
    refine lv_lload hx hb dX9_roundedBy_31 (lv_at hl 0 rfl) ?_
    have ho := (Option.some.inj hF).symm
    exact W.lret (v := zv3) hx hb hr (fun t ht hW => ⟨⟨zv3, (), rfl, ho, z_end ht hP⟩, hS.F ht⟩) hS.2.2 dX9_roundedBy_33
  · have hF := z_neg hF zc5
    refine lv_lload hx hb dX9_roundedBy_23 (lv_at hl 0 rfl) ?_
    refine lv_lload hx hb dX9_roundedBy_25 (lv_at hl 1 rfl) ?_
    refine lv_ladd hx hb dX9_roundedBy_27 ?_
    refine lv_goto (tgt := 33) hx hb dX9_roundedBy_28 (by decide) ?_
    have ho := (Option.some.inj hF).symm
    exact W.lret (v := (zv3 + zo1)) hx hb hr (fun t ht hW => ⟨⟨(zv3 + zo1), (), rfl, ho, z_end ht hP⟩, hS.F ht⟩) hS.2.2 dX9_roundedBy_33
abbrev w_X9_sumOf : List Cond := .code yX9_sumOf cX9_sumOf 6 (some .long) :: wU
abbrev r_X9_sumOf : Room := { frames := 2, cells := 0, slots := 0, locals := 49 }
abbrev q_X9_sumOf (g : GG) (a0 a1 a2 a3 a4 : Nat) (st : SS) (o : Int64) (A : Nat → Prop) := va_Ql (fun (r : Int64) (u : Unit) => o = r) (fun u t => va_P (gD g) zCl (wState g a0 a1 a2 a3 a4 st) t.heap) A
set_option maxHeartbeats 4000000 in
set_option maxRecDepth 100000 in
theorem c_X9_sumOf (l : Launch) (g : GG) (a0 a1 a2 a3 a4 : Nat) (st : SS) (sz : Nat) (p1 : Int32) (p2 : Int32) (fu : Nat) (o : Int64) (hF : F_X9_sumOf fu st p1 p2 = some o) : Met l yX9_sumOf w_X9_sumOf r_X9_sumOf (va_Pc [.ref a0, .int p1, .int p2] (zP g (wState g a0 a1 a2 a3 a4 st) sz)) (q_X9_sumOf g a0 a1 a2 a3 a4 st o (va_A (wState g a0 a1 a2 a3 a4 st) sz)) 0 0 (va_A (wState g a0 a1 a2 a3 a4 st) sz) := by
  refine Met.ofW (cc := cX9_sumOf) (maxL := 6) (ret := (some .long)) (by decide) rfl ?_
  intro p e s m args below meth c s₁ B hml hv
  obtain ⟨rfl, rfl, hP, hK, hD0, hB⟩ := hv
  have hx := B.exec
  have hb := B.bytes
  have hr := B.returns
  have hts : ∀ w ∈ wU, w.before _ s = true := fun w h => atoms_spec (ws := w_X9_sumOf) B.pre w (List.mem_cons_of_mem _ h)
  have hown : s.vm.findClass RX9 = some m.cls := findClass_of_methodNamed B.named
  have hlocks := B.notSynchronized
  have hD := hD0.self (sz := s.heap.size)
  generalize hAe : va_A (wState g a0 a1 a2 a3 a4 st) s.heap.size = A at hD hB ⊢
  have hA : ∀ q : Nat, s.heap.size ≤ q → A q := fun q h => by rw [← hAe]; exact Or.inr h
  have hS : va_S A s.heap s.heap [] := va_S.rf
  have hl := lv_entry ([.ref a0, .int p1, .int p2]) (n := 6) (Nat.le_of_ble_eq_true rfl)
  rw [lg_entry_eq]
  generalize (lg_sl ([.ref a0, .int p1, .int p2]) ++ List.replicate (6 - (lg_sl ([.ref a0, .int p1, .int p2])).length) Slot.unset).toArray = ls at hl ⊢
  have hl : lv_has ls 6 [(0, .ref a0), (1, .int p1), (2, .int p2)] := hl
  unfold F_X9_sumOf at hF
  have K5 : ∀ (n5 : Nat) (x3 : Int64) (x5 : Int32), F_X9_sumOf_5 fu n5 st p1 p2 x3 x5 = some o → ∀ (H : Heap) (locs : List Loc) (ls : Array Slot), lv_has ls 6 [(0, .ref a0), (1, .int p1), (2, .int p2), (3, .long x3), (5, .int x5)] → va_P (gD g) zCl (wState g a0 a1 a2 a3 a4 st) H → va_D A (wState g a0 a1 a2 a3 a4 st) → va_S A s.heap H locs → W p l e (headSpec w_X9_sumOf r_X9_sumOf).room s m ([.ref a0, .int p1, .int p2] : List Value).toArray below meth c H locs 0 0 (MQ below (q_X9_sumOf g a0 a1 a2 a3 a4 st o A) ([.ref a0, .int p1, .int p2] : List Value).toArray s 0 0 A) (F0 m 5 ls []) := by
    intro n5
    induction n5 with
    | zero =>
      intro x3 x5 hF
      exact absurd hF (by simp [F_X9_sumOf_5])
    | succ n5 ih5 =>
      intro x3 x5 hF H locs ls hl hP hD hS
      unfold F_X9_sumOf_5 at hF
      refine lv_iload hx hb dX9_sumOf_5 (lv_at hl 4 rfl) ?_
      refine lv_aload_n hx hb dX9_sumOf_7 rfl (lv_at hl 0 rfl) ?_
      refine va_getN (D := gD g) (ci := 5) (v := .int (s_cnt st)) (C := RX8) (T := TX8) (N := 11) hx hb hts inX8 hown hK hP 0 rfl rfl 4 (by decide) (va_Nw.use rfl (hB.2.1.1 _ zn_122)) (fun _ h9 => h9) rfl dX9_sumOf_8 ?_
      refine lv_icmp_ge (tgt := 37) hx hb dX9_sumOf_11 (by decide) (fun zc1 => ?_) (fun zc1 => ?_)
      · have hF := z_pos hF zc1
        refine lv_lload_n hx hb dX9_sumOf_37 rfl (lv_at hl 3 rfl) ?_
        have ho := (Option.some.inj hF).symm
        exact W.lret (v := x3) hx hb hr (fun t ht hW => ⟨⟨x3, (), rfl, ho, z_end ht hP⟩, hS.F ht⟩) hS.2.2 dX9_sumOf_38
      · have hF := z_neg hF zc1
        refine lv_lload_n hx hb dX9_sumOf_14 rfl (lv_at hl 3 rfl) ?_
        refine lv_iload_n hx hb dX9_sumOf_15 rfl (lv_at hl 2 rfl) ?_
        refine lv_iload hx hb dX9_sumOf_16 (lv_at hl 4 rfl) ?_
        refine lv_aload_n hx hb dX9_sumOf_18 rfl (lv_at hl 0 rfl) ?_
        refine va_getN (D := gD g) (ci := 5) (v := .ref a2) (C := RX8) (T := TX8) (N := 11) hx hb hts inX8 hown hK hP 0 rfl rfl 1 (by decide) (va_Nw.use rfl (hB.2.1.1 _ zn_115)) (fun _ h9 => h9) rfl dX9_sumOf_19 ?_
        refine lv_iload hx hb dX9_sumOf_22 (lv_at hl 4 rfl) ?_
        obtain ⟨zg2, hF⟩ := z_grd hF
        refine va_lald hx hb hK hP 2 2 rfl rfl zg2 dX9_sumOf_24 ?_
        refine lv_iload_n hx hb dX9_sumOf_25 rfl (lv_at hl 1 rfl) ?_
        obtain ⟨zo3, hzo3, hF⟩ := z_bind hF
        refine z_calll (fun (_ : Unit) => []) [] (va_runS (As := [.int p2, .int x5, .long ((s_vals st) (Int32.toNatClampNeg x5)), .int p1]) (rest := [.long x3]) ⟨hx, hb, hml, hown, hts⟩ (c_X9_roundedBy l g _ p2 x5 ((s_vals st) (Int32.toNatClampNeg x5)) p1 _ hzo3) (va_cwS 4 hts (gdS mU_374 mU_375 mU_91 mU_376) rfl rfl rfl (by decide +kernel) ⟨Nat.le_of_ble_eq_true rfl, Nat.le_of_ble_eq_true rfl⟩) ⟨z_blind _ _ _ _, fun U hU hW => z_pre [] hP hD hK hB hS hA rfl rfl hU hW⟩ rfl rfl hl.1 rfl (lv_room (Nat.le_of_ble_eq_true rfl)) dX9_sumOf_26 ⟨Nat.le_of_ble_eq_true rfl, Nat.le_of_ble_eq_true rfl⟩) hP hD hS hA rfl (fun _ => rfl) (fun r u H locs hw hP hD hS => ?_)
        subst hw
        have hP : va_P (gD g) zCl (wState g a0 a1 a2 a3 a4 st) H := hP
        have hD : va_D A (wState g a0 a1 a2 a3 a4 st) := hD
        refine lv_ladd hx hb dX9_sumOf_29 ?_
        obtain ⟨zv4, ezv4, hF⟩ := z_let hF
        refine z_topl ezv4 ?_
        refine lv_lstore_n (lv' := [(3, .long zv4), (0, .ref a0), (1, .int p1), (2, .int p2), (5, .int x5)]) hx hb dX9_sumOf_30 rfl hl (by decide) rfl (fun ls hl => ?_)
        obtain ⟨zv5, ezv5, hF⟩ := z_let hF
        refine lv_iinc (v := zv5) (lv' := [(5, .int zv5), (3, .long zv4), (0, .ref a0), (1, .int p1), (2, .int p2)]) hx hb dX9_sumOf_31 hl (k := 4) rfl (by rw [ezv5]; rfl) (by decide) rfl (fun ls hl => ?_)
        refine lv_goto (tgt := 5) hx hb dX9_sumOf_34 (by decide) ?_
        exact ih5 zv4 zv5 hF _ _ _ (lv_sub hl [2, 3, 4, 1, 0] rfl) hP hD hS
  refine lv_lconst (v := 0) hx hb dX9_sumOf_0 (by decide) ?_
  refine lv_lstore_n (lv' := [(3, .long 0), (0, .ref a0), (1, .int p1), (2, .int p2)]) hx hb dX9_sumOf_1 rfl hl (by decide) rfl (fun ls hl => ?_)
  refine lv_iconst (v := 0) hx hb dX9_sumOf_2 (by decide) ?_
  refine lv_istore (lv' := [(5, .int 0), (3, .long 0), (0, .ref a0), (1, .int p1), (2, .int p2)]) hx hb dX9_sumOf_3 hl (by decide) rfl (fun ls hl => ?_)
  exact K5 fu 0 0 hF _ _ _ (lv_sub hl [2, 3, 4, 1, 0] rfl) hP hD hS
abbrev w_X9_errorOf : List Cond := .code yX9_errorOf cX9_errorOf 8 (some .long) :: wU
abbrev r_X9_errorOf : Room := { frames := 2, cells := 0, slots := 0, locals := 49 }
abbrev q_X9_errorOf (g : GG) (a0 a1 a2 a3 a4 : Nat) (st : SS) (o : Int64) (A : Nat → Prop) := va_Ql (fun (r : Int64) (u : Unit) => o = r) (fun u t => va_P (gD g) zCl (wState g a0 a1 a2 a3 a4 st) t.heap) A
set_option maxHeartbeats 4000000 in
set_option maxRecDepth 100000 in
theorem c_X9_errorOf (l : Launch) (g : GG) (a0 a1 a2 a3 a4 : Nat) (st : SS) (sz : Nat) (p1 : Int32) (p2 : Int32) (fu : Nat) (o : Int64) (hF : F_X9_errorOf fu st p1 p2 = some o) : Met l yX9_errorOf w_X9_errorOf r_X9_errorOf (va_Pc [.ref a0, .int p1, .int p2] (zP g (wState g a0 a1 a2 a3 a4 st) sz)) (q_X9_errorOf g a0 a1 a2 a3 a4 st o (va_A (wState g a0 a1 a2 a3 a4 st) sz)) 0 0 (va_A (wState g a0 a1 a2 a3 a4 st) sz) := by
  refine Met.ofW (cc := cX9_errorOf) (maxL := 8) (ret := (some .long)) (by decide) rfl ?_
  intro p e s m args below meth c s₁ B hml hv
  obtain ⟨rfl, rfl, hP, hK, hD0, hB⟩ := hv
  have hx := B.exec
  have hb := B.bytes
  have hr := B.returns
  have hts : ∀ w ∈ wU, w.before _ s = true := fun w h => atoms_spec (ws := w_X9_errorOf) B.pre w (List.mem_cons_of_mem _ h)
  have hown : s.vm.findClass RX9 = some m.cls := findClass_of_methodNamed B.named
  have hlocks := B.notSynchronized
  have hD := hD0.self (sz := s.heap.size)
  generalize hAe : va_A (wState g a0 a1 a2 a3 a4 st) s.heap.size = A at hD hB ⊢
  have hA : ∀ q : Nat, s.heap.size ≤ q → A q := fun q h => by rw [← hAe]; exact Or.inr h
  have hS : va_S A s.heap s.heap [] := va_S.rf
  have hl := lv_entry ([.ref a0, .int p1, .int p2]) (n := 8) (Nat.le_of_ble_eq_true rfl)
  rw [lg_entry_eq]
  generalize (lg_sl ([.ref a0, .int p1, .int p2]) ++ List.replicate (8 - (lg_sl ([.ref a0, .int p1, .int p2])).length) Slot.unset).toArray = ls at hl ⊢
  have hl : lv_has ls 8 [(0, .ref a0), (1, .int p1), (2, .int p2)] := hl
  unfold F_X9_errorOf at hF
  have K5 : ∀ (n5 : Nat) (x3 : Int64) (x5 : Int32), F_X9_errorOf_5 fu n5 st p1 p2 x3 x5 = some o → ∀ (H : Heap) (locs : List Loc) (ls : Array Slot), lv_has ls 8 [(0, .ref a0), (1, .int p1), (2, .int p2), (3, .long x3), (5, .int x5)] → va_P (gD g) zCl (wState g a0 a1 a2 a3 a4 st) H → va_D A (wState g a0 a1 a2 a3 a4 st) → va_S A s.heap H locs → W p l e (headSpec w_X9_errorOf r_X9_errorOf).room s m ([.ref a0, .int p1, .int p2] : List Value).toArray below meth c H locs 0 0 (MQ below (q_X9_errorOf g a0 a1 a2 a3 a4 st o A) ([.ref a0, .int p1, .int p2] : List Value).toArray s 0 0 A) (F0 m 5 ls []) := by
    intro n5
    induction n5 with
    | zero =>
      intro x3 x5 hF
      exact absurd hF (by simp [F_X9_errorOf_5])
    | succ n5 ih5 =>
      intro x3 x5 hF H locs ls hl hP hD hS
      unfold F_X9_errorOf_5 at hF
      refine lv_iload hx hb dX9_errorOf_5 (lv_at hl 4 rfl) ?_
      refine lv_aload_n hx hb dX9_errorOf_7 rfl (lv_at hl 0 rfl) ?_
      refine va_getN (D := gD g) (ci := 5) (v := .int (s_cnt st)) (C := RX8) (T := TX8) (N := 11) hx hb hts inX8 hown hK hP 0 rfl rfl 4 (by decide) (va_Nw.use rfl (hB.2.1.1 _ zn_122)) (fun _ h9 => h9) rfl dX9_errorOf_8 ?_
      refine lv_icmp_ge (tgt := 47) hx hb dX9_errorOf_11 (by decide) (fun zc1 => ?_) (fun zc1 => ?_)
      · have hF := z_pos hF zc1
        refine lv_lload_n hx hb dX9_errorOf_47 rfl (lv_at hl 3 rfl) ?_
        have ho := (Option.some.inj hF).symm
        exact W.lret (v := x3) hx hb hr (fun t ht hW => ⟨⟨x3, (), rfl, ho, z_end ht hP⟩, hS.F ht⟩) hS.2.2 dX9_errorOf_48
      · have hF := z_neg hF zc1
        refine lv_aload_n hx hb dX9_errorOf_14 rfl (lv_at hl 0 rfl) ?_
        refine va_getN (D := gD g) (ci := 5) (v := .ref a2) (C := RX8) (T := TX8) (N := 11) hx hb hts inX8 hown hK hP 0 rfl rfl 1 (by decide) (va_Nw.use rfl (hB.2.1.1 _ zn_115)) (fun _ h9 => h9) rfl dX9_errorOf_15 ?_
        refine lv_iload hx hb dX9_errorOf_18 (lv_at hl 4 rfl) ?_
        obtain ⟨zg2, hF⟩ := z_grd hF
        refine va_lald hx hb hK hP 2 2 rfl rfl zg2 dX9_errorOf_20 ?_
        obtain ⟨zv3, ezv3, hF⟩ := z_let hF
        refine z_topl ezv3 ?_
        refine lv_lstore (lv' := [(6, .long zv3), (0, .ref a0), (1, .int p1), (2, .int p2), (3, .long x3), (5, .int x5)]) hx hb dX9_errorOf_21 hl (by decide) rfl (fun ls hl => ?_)
        refine lv_lload_n hx hb dX9_errorOf_23 rfl (lv_at hl 4 rfl) ?_
        refine lv_iload_n hx hb dX9_errorOf_24 rfl (lv_at hl 3 rfl) ?_
        refine lv_iload hx hb dX9_errorOf_25 (lv_at hl 5 rfl) ?_
        refine lv_lload hx hb dX9_errorOf_27 (lv_at hl 0 rfl) ?_
        refine lv_iload_n hx hb dX9_errorOf_29 rfl (lv_at hl 2 rfl) ?_
        obtain ⟨zo4, hzo4, hF⟩ := z_bind hF
        refine z_calll (fun (_ : Unit) => []) [] (va_runS (As := [.int p2, .int x5, .long zv3, .int p1]) (rest := [.long x3]) ⟨hx, hb, hml, hown, hts⟩ (c_X9_roundedBy l g _ p2 x5 zv3 p1 _ hzo4) (va_cwS 4 hts (gdS mU_374 mU_375 mU_91 mU_376) rfl rfl rfl (by decide +kernel) ⟨Nat.le_of_ble_eq_true rfl, Nat.le_of_ble_eq_true rfl⟩) ⟨z_blind _ _ _ _, fun U hU hW => z_pre [] hP hD hK hB hS hA rfl rfl hU hW⟩ rfl rfl hl.1 rfl (lv_room (Nat.le_of_ble_eq_true rfl)) dX9_errorOf_30 ⟨Nat.le_of_ble_eq_true rfl, Nat.le_of_ble_eq_true rfl⟩) hP hD hS hA rfl (fun _ => rfl) (fun r u H locs hw hP hD hS => ?_)
        subst hw
        have hP : va_P (gD g) zCl (wState g a0 a1 a2 a3 a4 st) H := hP
        have hD : va_D A (wState g a0 a1 a2 a3 a4 st) := hD
        refine lv_lload hx hb dX9_errorOf_33 (lv_at hl 0 rfl) ?_
        refine lv_lsub hx hb dX9_errorOf_35 ?_
        refine va_mabs_long hx hb (hml.trans hl.1.symm) hown (hts _ mU_377) (hts _ mU_378) (hts _ mU_83) (hts _ mU_379) (Nat.le_of_ble_eq_true rfl) (Nat.le_of_ble_eq_true rfl) (Nat.le_of_ble_eq_true rfl) (Nat.le_of_ble_eq_true rfl) dX9_errorOf_36 ?_
        refine lv_ladd hx hb dX9_errorOf_39 ?_
        obtain ⟨zv5, ezv5, hF⟩ := z_let hF
        refine z_topl ezv5 ?_
        refine lv_lstore_n (lv' := [(3, .long zv5), (6, .long zv3), (0, .ref a0), (1, .int p1), (2, .int p2), (5, .int x5)]) hx hb dX9_errorOf_40 rfl hl (by decide) rfl (fun ls hl => ?_)
        obtain ⟨zv6, ezv6, hF⟩ := z_let hF
        refine lv_iinc (v := zv6) (lv' := [(5, .int zv6), (3, .long zv5), (6, .long zv3), (0, .ref a0), (1, .int p1), (2, .int p2)]) hx hb dX9_errorOf_41 hl (k := 5) rfl (by rw [ezv6]; rfl) (by decide) rfl (fun ls hl => ?_)
        refine lv_goto (tgt := 5) hx hb dX9_errorOf_44 (by decide) ?_
        exact ih5 zv5 zv6 hF _ _ _ (lv_sub hl [3, 4, 5, 1, 0] rfl) hP hD hS
  refine lv_lconst (v := 0) hx hb dX9_errorOf_0 (by decide) ?_
  refine lv_lstore_n (lv' := [(3, .long 0), (0, .ref a0), (1, .int p1), (2, .int p2)]) hx hb dX9_errorOf_1 rfl hl (by decide) rfl (fun ls hl => ?_)
  refine lv_iconst (v := 0) hx hb dX9_errorOf_2 (by decide) ?_
  refine lv_istore (lv' := [(5, .int 0), (3, .long 0), (0, .ref a0), (1, .int p1), (2, .int p2)]) hx hb dX9_errorOf_3 hl (by decide) rfl (fun ls hl => ?_)
  exact K5 fu 0 0 hF _ _ _ (lv_sub hl [2, 3, 4, 1, 0] rfl) hP hD hS
abbrev w_X9_nearestToUp : List Cond := .code yX9_nearestToUp cX9_nearestToUp 10 (some .int) :: wU
abbrev r_X9_nearestToUp : Room := { frames := 1, cells := 0, slots := 0, locals := 21 }
abbrev q_X9_nearestToUp (g : GG) (a0 a1 a2 a3 a4 : Nat) (st : SS) (o : Int32) (A : Nat → Prop) := va_Qi (fun (r : Int32) (u : Unit) => o = r) (fun u t => va_P (gD g) zCl (wState g a0 a1 a2 a3 a4 st) t.heap) A
set_option maxHeartbeats 4000000 in
set_option maxRecDepth 100000 in
theorem c_X9_nearestToUp (l : Launch) (g : GG) (a0 a1 a2 a3 a4 : Nat) (st : SS) (sz : Nat) (p1 : Int64) (p3 : Int32) (fu : Nat) (o : Int32) (hF : F_X9_nearestToUp fu st p1 p3 = some o) : Met l yX9_nearestToUp w_X9_nearestToUp r_X9_nearestToUp (va_Pc [.ref a0, .long p1, .int p3] (zP g (wState g a0 a1 a2 a3 a4 st) sz)) (q_X9_nearestToUp g a0 a1 a2 a3 a4 st o (va_A (wState g a0 a1 a2 a3 a4 st) sz)) 0 0 (va_A (wState g a0 a1 a2 a3 a4 st) sz) := by
  refine Met.ofW (cc := cX9_nearestToUp) (maxL := 10) (ret := (some .int)) (by decide) rfl ?_
  intro p e s m args below meth c s₁ B hml hv
  obtain ⟨rfl, rfl, hP, hK, hD0, hB⟩ := hv
  have hx := B.exec
  have hb := B.bytes
  have hr := B.returns
  have hts : ∀ w ∈ wU, w.before _ s = true := fun w h => atoms_spec (ws := w_X9_nearestToUp) B.pre w (List.mem_cons_of_mem _ h)
  have hown : s.vm.findClass RX9 = some m.cls := findClass_of_methodNamed B.named
  have hlocks := B.notSynchronized
  have hD := hD0.self (sz := s.heap.size)
  generalize hAe : va_A (wState g a0 a1 a2 a3 a4 st) s.heap.size = A at hD hB ⊢
  have hA : ∀ q : Nat, s.heap.size ≤ q → A q := fun q h => by rw [← hAe]; exact Or.inr h
  have hS : va_S A s.heap s.heap [] := va_S.rf
  have hl := lv_entry ([.ref a0, .long p1, .int p3]) (n := 10) (Nat.le_of_ble_eq_true rfl)
  rw [lg_entry_eq]
  generalize (lg_sl ([.ref a0, .long p1, .int p3]) ++ List.replicate (10 - (lg_sl ([.ref a0, .long p1, .int p3])).length) Slot.unset).toArray = ls at hl ⊢
  have hl : lv_has ls 10 [(0, .ref a0), (1, .long p1), (3, .int p3)] := hl
  unfold F_X9_nearestToUp at hF
  have K9 : ∀ (n9 : Nat) (x4 : Int64) (x6 : Int32) (x7 : Int32), F_X9_nearestToUp_9 fu n9 st p1 p3 x4 x6 x7 = some o → ∀ (H : Heap) (locs : List Loc) (ls : Array Slot), lv_has ls 10 [(0, .ref a0), (1, .long p1), (3, .int p3), (4, .long x4), (6, .int x6), (7, .int x7)] → va_P (gD g) zCl (wState g a0 a1 a2 a3 a4 st) H → va_D A (wState g a0 a1 a2 a3 a4 st) → va_S A s.heap H locs → W p l e (headSpec w_X9_nearestToUp r_X9_nearestToUp).room s m ([.ref a0, .long p1, .int p3] : List Value).toArray below meth c H locs 0 0 (MQ below (q_X9_nearestToUp g a0 a1 a2 a3 a4 st o A) ([.ref a0, .long p1, .int p3] : List Value).toArray s 0 0 A) (F0 m 9 ls []) := by
    intro n9
    induction n9 with
    | zero =>
      intro x4 x6 x7 hF
      exact absurd hF (by simp [F_X9_nearestToUp_9])
    | succ n9 ih9 =>
      intro x4 x6 x7 hF H locs ls hl hP hD hS
      unfold F_X9_nearestToUp_9 at hF
      refine lv_iload hx hb dX9_nearestToUp_9 (lv_at hl 5 rfl) ?_
      refine lv_aload_n hx hb dX9_nearestToUp_11 rfl (lv_at hl 0 rfl) ?_
      refine va_getN (D := gD g) (ci := 5) (v := .int (s_cnt st)) (C := RX8) (T := TX8) (N := 11) hx hb hts inX8 hown hK hP 0 rfl rfl 4 (by decide) (va_Nw.use rfl (hB.2.1.1 _ zn_122)) (fun _ h9 => h9) rfl dX9_nearestToUp_12 ?_
      refine lv_icmp_ge (tgt := 62) hx hb dX9_nearestToUp_15 (by decide) (fun zc1 => ?_) (fun zc1 => ?_)
      · have hF := z_pos hF zc1
        refine lv_iload hx hb dX9_nearestToUp_62 (lv_at hl 4 rfl) ?_
        have ho := (Option.some.inj hF).symm
        exact W.iret (v := x6) hx hb hr (fun t ht hW => ⟨⟨x6, (), rfl, ho, z_end ht hP⟩, hS.F ht⟩) hS.2.2 dX9_nearestToUp_64
      · have hF := z_neg hF zc1
        refine lv_aload_n hx hb dX9_nearestToUp_18 rfl (lv_at hl 0 rfl) ?_
        refine va_getN (D := gD g) (ci := 5) (v := .ref a2) (C := RX8) (T := TX8) (N := 11) hx hb hts inX8 hown hK hP 0 rfl rfl 1 (by decide) (va_Nw.use rfl (hB.2.1.1 _ zn_115)) (fun _ h9 => h9) rfl dX9_nearestToUp_19 ?_
        refine lv_iload hx hb dX9_nearestToUp_22 (lv_at hl 5 rfl) ?_
        obtain ⟨zg2, hF⟩ := z_grd hF
        refine va_lald hx hb hK hP 2 2 rfl rfl zg2 dX9_nearestToUp_24 ?_
        refine lv_lload_n hx hb dX9_nearestToUp_25 rfl (lv_at hl 1 rfl) ?_
        obtain ⟨zg3, hF⟩ := z_grd hF
        refine lv_lrem hx hb dX9_nearestToUp_26 zg3 ?_
        obtain ⟨zv4, ezv4, hF⟩ := z_let hF
        refine z_topl ezv4 ?_
        refine lv_lstore (lv' := [(8, .long zv4), (0, .ref a0), (1, .long p1), (3, .int p3), (4, .long x4), (6, .int x6), (7, .int x7)]) hx hb dX9_nearestToUp_27 hl (by decide) rfl (fun ls hl => ?_)
        refine lv_lload hx hb dX9_nearestToUp_29 (lv_at hl 0 rfl) ?_
        refine lv_lload hx hb dX9_nearestToUp_31 (lv_at hl 4 rfl) ?_
        refine z_lcmp_le (tgt := 56) hx hb dX9_nearestToUp_33 dX9_nearestToUp_34 (by decide) (fun zc5 => ?_) (fun zc5 => ?_)
        · have hF := z_neg hF zc5
          obtain ⟨zv6, ezv6, hF⟩ := z_let hF
          refine lv_iinc (v := zv6) (lv' := [(7, .int zv6), (8, .long zv4), (0, .ref a0), (1, .long p1), (3, .int p3), (4, .long x4), (6, .int x6)]) hx hb dX9_nearestToUp_56 hl (k := 6) rfl (by rw [ezv6]; rfl) (by decide) rfl (fun ls hl => ?_)
          refine lv_goto (tgt := 9) hx hb dX9_nearestToUp_59 (by decide) ?_
          exact ih9 x4 x6 zv6 hF _ _ _ (lv_sub hl [2, 3, 4, 5, 6, 0] rfl) hP hD hS
        · have hF := z_pos hF zc5
          refine lv_iload_n hx hb dX9_nearestToUp_37 rfl (lv_at hl 3 rfl) ?_
          refine lv_iload hx hb dX9_nearestToUp_38 (lv_at hl 6 rfl) ?_
          obtain ⟨zo7, hzo7, hF⟩ := z_bind hF
          refine z_calli (fun (_ : Unit) => []) [] (va_runS (As := [.int p3, .int x7]) (rest := []) ⟨hx, hb, hml, hown, hts⟩ (c_X9_isUp l g _ p3 x7 _ hzo7) (va_cwS 2 hts (gdS mU_368 mU_369 mU_91 mU_370) rfl rfl rfl (by decide +kernel) ⟨Nat.le_of_ble_eq_true rfl, Nat.le_of_ble_eq_true rfl⟩) ⟨z_blind _ _ _ _, fun U hU hW => z_pre [] hP hD hK hB hS hA rfl rfl hU hW⟩ rfl rfl hl.1 rfl (lv_room (Nat.le_of_ble_eq_true rfl)) dX9_nearestToUp_40 ⟨Nat.le_of_ble_eq_true rfl, Nat.le_of_ble_eq_true rfl⟩) hP hD hS hA rfl (fun _ => rfl) (fun r u H locs hw hP hD hS => ?_)
          subst hw
          have hP : va_P (gD g) zCl (wState g a0 a1 a2 a3 a4 st) H := hP
          have hD : va_D A (wState g a0 a1 a2 a3 a4 st) := hD
          refine lv_if_ne (tgt := 56) hx hb dX9_nearestToUp_43 (by decide) (fun zc8 => ?_) (fun zc8 => ?_)
          · have hF := z_neg hF zc8
            obtain ⟨zv9, ezv9, hF⟩ := z_let hF
            refine lv_iinc (v := zv9) (lv' := [(7, .int zv9), (8, .long zv4), (0, .ref a0), (1, .long p1), (3, .int p3), (4, .long x4), (6, .int x6)]) hx hb dX9_nearestToUp_56 hl (k := 6) rfl (by rw [ezv9]; rfl) (by decide) rfl (fun ls hl => ?_)
            refine lv_goto (tgt := 9) hx hb dX9_nearestToUp_59 (by decide) ?_
            exact ih9 x4 x6 zv9 hF _ _ _ (lv_sub hl [2, 3, 4, 5, 6, 0] rfl) hP hD hS
          · have hF := z_pos hF zc8
            refine lv_lload hx hb dX9_nearestToUp_46 (lv_at hl 0 rfl) ?_
            refine lv_lstore (lv' := [(4, .long zv4), (8, .long zv4), (0, .ref a0), (1, .long p1), (3, .int p3), (6, .int x6), (7, .int x7)]) hx hb dX9_nearestToUp_48 hl (by decide) rfl (fun ls hl => ?_)
            refine lv_iconst (v := 1) hx hb dX9_nearestToUp_50 (by decide) ?_
            refine lv_iload hx hb dX9_nearestToUp_51 (lv_at hl 6 rfl) ?_
            refine lv_ishl hx hb dX9_nearestToUp_53 ?_
            obtain ⟨zv10, ezv10, hF⟩ := z_let hF
            refine z_topi ezv10 ?_
            refine lv_istore (lv' := [(6, .int zv10), (4, .long zv4), (8, .long zv4), (0, .ref a0), (1, .long p1), (3, .int p3), (7, .int x7)]) hx hb dX9_nearestToUp_54 hl (by decide) rfl (fun ls hl => ?_)
            obtain ⟨zv11, ezv11, hF⟩ := z_let hF
            refine lv_iinc (v := zv11) (lv' := [(7, .int zv11), (6, .int zv10), (4, .long zv4), (8, .long zv4), (0, .ref a0), (1, .long p1), (3, .int p3)]) hx hb dX9_nearestToUp_56 hl (k := 6) rfl (by rw [ezv11]; rfl) (by decide) rfl (fun ls hl => ?_)
            refine lv_goto (tgt := 9) hx hb dX9_nearestToUp_59 (by decide) ?_
            exact ih9 zv4 zv10 zv11 hF _ _ _ (lv_sub hl [4, 5, 6, 2, 1, 0] rfl) hP hD hS
  refine lv_lconst (v := 0) hx hb dX9_nearestToUp_0 (by decide) ?_
  refine lv_lstore (lv' := [(4, .long 0), (0, .ref a0), (1, .long p1), (3, .int p3)]) hx hb dX9_nearestToUp_1 hl (by decide) rfl (fun ls hl => ?_)
  refine lv_iconst (v := 0) hx hb dX9_nearestToUp_3 (by decide) ?_
  refine lv_istore (lv' := [(6, .int 0), (4, .long 0), (0, .ref a0), (1, .long p1), (3, .int p3)]) hx hb dX9_nearestToUp_4 hl (by decide) rfl (fun ls hl => ?_)
  refine lv_iconst (v := 0) hx hb dX9_nearestToUp_6 (by decide) ?_
  refine lv_istore (lv' := [(7, .int 0), (6, .int 0), (4, .long 0), (0, .ref a0), (1, .long p1), (3, .int p3)]) hx hb dX9_nearestToUp_7 hl (by decide) rfl (fun ls hl => ?_)
  exact K9 fu 0 0 0 hF _ _ _ (lv_sub hl [3, 4, 5, 2, 1, 0] rfl) hP hD hS
abbrev w_X9_bestChoice : List Cond := .code yX9_bestChoice cX9_bestChoice 10 (some .int) :: wU
abbrev r_X9_bestChoice : Room := { frames := 2, cells := 0, slots := 0, locals := 55 }
abbrev q_X9_bestChoice (g : GG) (a0 a1 a2 a3 a4 : Nat) (st : SS) (o : Int32) (A : Nat → Prop) := va_Qi (fun (r : Int32) (u : Unit) => o = r) (fun u t => va_P (gD g) zCl (wState g a0 a1 a2 a3 a4 st) t.heap) A
set_option maxHeartbeats 4000000 in
set_option maxRecDepth 100000 in
theorem c_X9_bestChoice (l : Launch) (g : GG) (a0 a1 a2 a3 a4 : Nat) (st : SS) (sz : Nat) (p1 : Int32) (fu : Nat) (o : Int32) (hF : F_X9_bestChoice fu st p1 = some o) : Met l yX9_bestChoice w_X9_bestChoice r_X9_bestChoice (va_Pc [.ref a0, .int p1] (zP g (wState g a0 a1 a2 a3 a4 st) sz)) (q_X9_bestChoice g a0 a1 a2 a3 a4 st o (va_A (wState g a0 a1 a2 a3 a4 st) sz)) 0 0 (va_A (wState g a0 a1 a2 a3 a4 st) sz) := by
  refine Met.ofW (cc := cX9_bestChoice) (maxL := 10) (ret := (some .int)) (by decide) rfl ?_
  intro p e s m args below meth c s₁ B hml hv
  obtain ⟨rfl, rfl, hP, hK, hD0, hB⟩ := hv
  have hx := B.exec
  have hb := B.bytes
  have hr := B.returns
  have hts : ∀ w ∈ wU, w.before _ s = true := fun w h => atoms_spec (ws := w_X9_bestChoice) B.pre w (List.mem_cons_of_mem _ h)
  have hown : s.vm.findClass RX9 = some m.cls := findClass_of_methodNamed B.named
  have hlocks := B.notSynchronized
  have hD := hD0.self (sz := s.heap.size)
  generalize hAe : va_A (wState g a0 a1 a2 a3 a4 st) s.heap.size = A at hD hB ⊢
  have hA : ∀ q : Nat, s.heap.size ≤ q → A q := fun q h => by rw [← hAe]; exact Or.inr h
  have hS : va_S A s.heap s.heap [] := va_S.rf
  have hl := lv_entry ([.ref a0, .int p1]) (n := 10) (Nat.le_of_ble_eq_true rfl)
  rw [lg_entry_eq]
  generalize (lg_sl ([.ref a0, .int p1]) ++ List.replicate (10 - (lg_sl ([.ref a0, .int p1])).length) Slot.unset).toArray = ls at hl ⊢
  have hl : lv_has ls 10 [(0, .ref a0), (1, .int p1)] := hl
  unfold F_X9_bestChoice at hF
  have K58 : ∀ (n58 : Nat) (x2 : Int64) (x6 : Int64) (x8 : Int32) (x9 : Int32), F_X9_bestChoice_58 fu n58 st x2 x6 x8 x9 = some o → ∀ (H : Heap) (locs : List Loc) (ls : Array Slot), lv_has ls 10 [(0, .ref a0), (2, .long x2), (6, .long x6), (8, .int x8), (9, .int x9)] → va_P (gD g) zCl (wState g a0 a1 a2 a3 a4 st) H → va_D A (wState g a0 a1 a2 a3 a4 st) → va_S A s.heap H locs → W p l e (headSpec w_X9_bestChoice r_X9_bestChoice).room s m ([.ref a0, .int p1] : List Value).toArray below meth c H locs 0 0 (MQ below (q_X9_bestChoice g a0 a1 a2 a3 a4 st o A) ([.ref a0, .int p1] : List Value).toArray s 0 0 A) (F0 m 58 ls []) := by
    intro n58
    induction n58 with
    | zero =>
      intro x2 x6 x8 x9 hF
      exact absurd hF (by simp [F_X9_bestChoice_58])
    | succ n58 ih58 =>
      intro x2 x6 x8 x9 hF H locs ls hl hP hD hS
      unfold F_X9_bestChoice_58 at hF
      refine lv_iload hx hb dX9_bestChoice_58 (lv_at hl 4 rfl) ?_
      refine lv_i2l (v := (Int32.toInt64 x9)) hx hb dX9_bestChoice_60 rfl ?_
      refine lv_lload hx hb dX9_bestChoice_61 (lv_at hl 2 rfl) ?_
      refine z_lcmp_ge (tgt := 92) hx hb dX9_bestChoice_63 dX9_bestChoice_64 (by decide) (fun zc1 => ?_) (fun zc1 => ?_)
      · have hF := z_neg hF zc1
        refine lv_iload hx hb dX9_bestChoice_92 (lv_at hl 3 rfl) ?_
        have ho := (Option.some.inj hF).symm
        exact W.iret (v := x8) hx hb hr (fun t ht hW => ⟨⟨x8, (), rfl, ho, z_end ht hP⟩, hS.F ht⟩) hS.2.2 dX9_bestChoice_94
      · have hF := z_pos hF zc1
        refine lv_iload hx hb dX9_bestChoice_67 (lv_at hl 4 rfl) ?_
        refine lv_bipush (v := 6) hx hb dX9_bestChoice_69 (by decide) ?_
        refine lv_icmp_ge (tgt := 92) hx hb dX9_bestChoice_71 (by decide) (fun zc2 => ?_) (fun zc2 => ?_)
        · have hF := z_pos hF zc2
          refine lv_iload hx hb dX9_bestChoice_92 (lv_at hl 3 rfl) ?_
          have ho := (Option.some.inj hF).symm
          exact W.iret (v := x8) hx hb hr (fun t ht hW => ⟨⟨x8, (), rfl, ho, z_end ht hP⟩, hS.F ht⟩) hS.2.2 dX9_bestChoice_94
        · have hF := z_neg hF zc2
          refine lv_iload hx hb dX9_bestChoice_74 (lv_at hl 3 rfl) ?_
          refine lv_aload_n hx hb dX9_bestChoice_76 rfl (lv_at hl 0 rfl) ?_
          refine lv_lload_n hx hb dX9_bestChoice_77 rfl (lv_at hl 1 rfl) ?_
          refine lv_iload hx hb dX9_bestChoice_78 (lv_at hl 3 rfl) ?_
          obtain ⟨zo3, hzo3, hF⟩ := z_bind hF
          refine z_calliE (fun (_ : Unit) => (wState g a0 a1 a2 a3 a4 st)) (va_runS (As := [.ref a0, .long x2, .int x8]) (rest := [.int x8]) ⟨hx, hb, hml, hown, hts⟩ (c_X9_nearestToUp l g a0 a1 a2 a3 a4 st _ x2 x8 fu _ hzo3) (va_cwS 3 hts (gdS mU_365 mU_366 mU_91 mU_367) rfl rfl rfl (by decide +kernel) ⟨Nat.le_of_ble_eq_true rfl, Nat.le_of_ble_eq_true rfl⟩) ⟨z_blind _ _ _ _, fun U hU hW => z_preE hP hD hK hB hS hA hU hW⟩ rfl rfl hl.1 rfl (lv_room (Nat.le_of_ble_eq_true rfl)) dX9_bestChoice_80 ⟨Nat.le_of_ble_eq_true rfl, Nat.le_of_ble_eq_true rfl⟩) hD hS hA (fun _ => rfl) (fun r u H locs hw hP hD hS => ?_)
          subst hw
          have hP : va_P (gD g) zCl (wState g a0 a1 a2 a3 a4 st) H := hP
          have hD : va_D A (wState g a0 a1 a2 a3 a4 st) := hD
          refine lv_ior hx hb dX9_bestChoice_83 ?_
          obtain ⟨zv4, ezv4, hF⟩ := z_let hF
          refine z_topi ezv4 ?_
          refine lv_istore (lv' := [(8, .int zv4), (0, .ref a0), (2, .long x2), (6, .long x6), (9, .int x9)]) hx hb dX9_bestChoice_84 hl (by decide) rfl (fun ls hl => ?_)
          obtain ⟨zv5, ezv5, hF⟩ := z_let hF
          refine lv_iinc (v := zv5) (lv' := [(9, .int zv5), (8, .int zv4), (0, .ref a0), (2, .long x2), (6, .long x6)]) hx hb dX9_bestChoice_86 hl (k := 4) rfl (by rw [ezv5]; rfl) (by decide) rfl (fun ls hl => ?_)
          refine lv_goto (tgt := 58) hx hb dX9_bestChoice_89 (by decide) ?_
          exact ih58 x2 x6 zv4 zv5 hF _ _ _ (lv_sub hl [2, 3, 4, 1, 0] rfl) hP hD hS
  have K11 : ∀ (n11 : Nat) (x2 : Int64) (x4 : Int64) (x6 : Int32), F_X9_bestChoice_11 fu n11 st p1 x2 x4 x6 = some o → ∀ (H : Heap) (locs : List Loc) (ls : Array Slot), lv_has ls 10 [(0, .ref a0), (1, .int p1), (2, .long x2), (4, .long x4), (6, .int x6)] → va_P (gD g) zCl (wState g a0 a1 a2 a3 a4 st) H → va_D A (wState g a0 a1 a2 a3 a4 st) → va_S A s.heap H locs → W p l e (headSpec w_X9_bestChoice r_X9_bestChoice).room s m ([.ref a0, .int p1] : List Value).toArray below meth c H locs 0 0 (MQ below (q_X9_bestChoice g a0 a1 a2 a3 a4 st o A) ([.ref a0, .int p1] : List Value).toArray s 0 0 A) (F0 m 11 ls []) := by
    intro n11
    induction n11 with
    | zero =>
      intro x2 x4 x6 hF
      exact absurd hF (by simp [F_X9_bestChoice_11])
    | succ n11 ih11 =>
      intro x2 x4 x6 hF H locs ls hl hP hD hS
      unfold F_X9_bestChoice_11 at hF
      refine lv_iload hx hb dX9_bestChoice_11 (lv_at hl 4 rfl) ?_
      refine lv_aload_n hx hb dX9_bestChoice_13 rfl (lv_at hl 0 rfl) ?_
      refine va_getN (D := gD g) (ci := 5) (v := .int (s_cnt st)) (C := RX8) (T := TX8) (N := 11) hx hb hts inX8 hown hK hP 0 rfl rfl 4 (by decide) (va_Nw.use rfl (hB.2.1.1 _ zn_122)) (fun _ h9 => h9) rfl dX9_bestChoice_14 ?_
      refine lv_icmp_ge (tgt := 40) hx hb dX9_bestChoice_17 (by decide) (fun zc6 => ?_) (fun zc6 => ?_)
      · have hF := z_pos hF zc6
        refine lv_lload hx hb dX9_bestChoice_40 (lv_at hl 3 rfl) ?_
        refine lv_iload_n hx hb dX9_bestChoice_42 rfl (lv_at hl 1 rfl) ?_
        refine lv_bipush (v := 104) hx hb dX9_bestChoice_43 (by decide) ?_
        obtain ⟨zo7, hzo7, hF⟩ := z_bind hF
        refine z_calll (fun (_ : Unit) => []) [] (va_runS (As := [.long x4, .int p1, .int 104]) (rest := []) ⟨hx, hb, hml, hown, hts⟩ (c_X7_ofSum l g _ x4 p1 104 _ hzo7) (va_cwS 3 hts (gdS mU_357 mU_358 mU_88 mU_359) rfl rfl rfl (by decide +kernel) ⟨Nat.le_of_ble_eq_true rfl, Nat.le_of_ble_eq_true rfl⟩) ⟨z_blind _ _ _ _, fun U hU hW => z_pre [] hP hD hK hB hS hA rfl rfl hU hW⟩ rfl rfl hl.1 rfl (lv_room (Nat.le_of_ble_eq_true rfl)) dX9_bestChoice_45 ⟨Nat.le_of_ble_eq_true rfl, Nat.le_of_ble_eq_true rfl⟩) hP hD hS hA rfl (fun _ => rfl) (fun r u H locs hw hP hD hS => ?_)
        subst hw
        have hP : va_P (gD g) zCl (wState g a0 a1 a2 a3 a4 st) H := hP
        have hD : va_D A (wState g a0 a1 a2 a3 a4 st) := hD
        refine lv_lload_n hx hb dX9_bestChoice_48 rfl (lv_at hl 2 rfl) ?_
        obtain ⟨zg8, hF⟩ := z_grd hF
        refine lv_ldiv hx hb dX9_bestChoice_49 zg8 ?_
        obtain ⟨zv9, ezv9, hF⟩ := z_let hF
        refine z_topl ezv9 ?_
        refine lv_lstore (lv' := [(6, .long zv9), (0, .ref a0), (1, .int p1), (2, .long x2), (4, .long x4)]) hx hb dX9_bestChoice_50 hl (by decide) rfl (fun ls hl => ?_)
        refine lv_iconst (v := 0) hx hb dX9_bestChoice_52 (by decide) ?_
        refine lv_istore (lv' := [(8, .int 0), (6, .long zv9), (0, .ref a0), (1, .int p1), (2, .long x2), (4, .long x4)]) hx hb dX9_bestChoice_53 hl (by decide) rfl (fun ls hl => ?_)
        refine lv_iconst (v := 0) hx hb dX9_bestChoice_55 (by decide) ?_
        refine lv_istore (lv' := [(9, .int 0), (8, .int 0), (6, .long zv9), (0, .ref a0), (1, .int p1), (2, .long x2), (4, .long x4)]) hx hb dX9_bestChoice_56 hl (by decide) rfl (fun ls hl => ?_)
        exact K58 fu x2 zv9 0 0 hF _ _ _ (lv_sub hl [3, 5, 2, 1, 0] rfl) hP hD hS
      · have hF := z_neg hF zc6
        refine lv_lload hx hb dX9_bestChoice_20 (lv_at hl 3 rfl) ?_
        refine lv_aload_n hx hb dX9_bestChoice_22 rfl (lv_at hl 0 rfl) ?_
        refine va_getN (D := gD g) (ci := 5) (v := .ref a2) (C := RX8) (T := TX8) (N := 11) hx hb hts inX8 hown hK hP 0 rfl rfl 1 (by decide) (va_Nw.use rfl (hB.2.1.1 _ zn_115)) (fun _ h9 => h9) rfl dX9_bestChoice_23 ?_
        refine lv_iload hx hb dX9_bestChoice_26 (lv_at hl 4 rfl) ?_
        obtain ⟨zg10, hF⟩ := z_grd hF
        refine va_lald hx hb hK hP 2 2 rfl rfl zg10 dX9_bestChoice_28 ?_
        refine lv_lload_n hx hb dX9_bestChoice_29 rfl (lv_at hl 2 rfl) ?_
        obtain ⟨zg11, hF⟩ := z_grd hF
        refine lv_lrem hx hb dX9_bestChoice_30 zg11 ?_
        refine lv_ladd hx hb dX9_bestChoice_31 ?_
        obtain ⟨zv12, ezv12, hF⟩ := z_let hF
        refine z_topl ezv12 ?_
        refine lv_lstore (lv' := [(4, .long zv12), (0, .ref a0), (1, .int p1), (2, .long x2), (6, .int x6)]) hx hb dX9_bestChoice_32 hl (by decide) rfl (fun ls hl => ?_)
        obtain ⟨zv13, ezv13, hF⟩ := z_let hF
        refine lv_iinc (v := zv13) (lv' := [(6, .int zv13), (4, .long zv12), (0, .ref a0), (1, .int p1), (2, .long x2)]) hx hb dX9_bestChoice_34 hl (k := 4) rfl (by rw [ezv13]; rfl) (by decide) rfl (fun ls hl => ?_)
        refine lv_goto (tgt := 11) hx hb dX9_bestChoice_37 (by decide) ?_
        exact ih11 x2 zv12 zv13 hF _ _ _ (lv_sub hl [2, 3, 4, 1, 0] rfl) hP hD hS
  refine lv_iload_n hx hb dX9_bestChoice_0 rfl (lv_at hl 1 rfl) ?_
  obtain ⟨zo14, hzo14, hF⟩ := z_bind hF
  refine z_calll (fun (_ : Unit) => []) [] (va_runS (As := [.int p1]) (rest := []) ⟨hx, hb, hml, hown, hts⟩ (c_X7_stepOf l g _ p1 _ hzo14) (va_cwS 1 hts (gdS mU_356 mU_343 mU_88 mU_344) rfl rfl rfl (by decide +kernel) ⟨Nat.le_of_ble_eq_true rfl, Nat.le_of_ble_eq_true rfl⟩) ⟨z_blind _ _ _ _, fun U hU hW => z_pre [] hP hD hK hB hS hA rfl rfl hU hW⟩ rfl rfl hl.1 rfl (lv_room (Nat.le_of_ble_eq_true rfl)) dX9_bestChoice_1 ⟨Nat.le_of_ble_eq_true rfl, Nat.le_of_ble_eq_true rfl⟩) hP hD hS hA rfl (fun _ => rfl) (fun r u H locs hw hP hD hS => ?_)
  subst hw
  have hP : va_P (gD g) zCl (wState g a0 a1 a2 a3 a4 st) H := hP
  have hD : va_D A (wState g a0 a1 a2 a3 a4 st) := hD
  refine lv_lstore_n (lv' := [(2, .long zo14), (0, .ref a0), (1, .int p1)]) hx hb dX9_bestChoice_4 rfl hl (by decide) rfl (fun ls hl => ?_)
  refine lv_lconst (v := 0) hx hb dX9_bestChoice_5 (by decide) ?_
  refine lv_lstore (lv' := [(4, .long 0), (2, .long zo14), (0, .ref a0), (1, .int p1)]) hx hb dX9_bestChoice_6 hl (by decide) rfl (fun ls hl => ?_)
  refine lv_iconst (v := 0) hx hb dX9_bestChoice_8 (by decide) ?_
  refine lv_istore (lv' := [(6, .int 0), (4, .long 0), (2, .long zo14), (0, .ref a0), (1, .int p1)]) hx hb dX9_bestChoice_9 hl (by decide) rfl (fun ls hl => ?_)
  exact K11 fu zo14 0 0 hF _ _ _ (lv_sub hl [3, 4, 2, 1, 0] rfl) hP hD hS
abbrev w_X9_hasOnlyRests : List Cond := .code yX9_hasOnlyRests cX9_hasOnlyRests 6 (some .boolean) :: wU
abbrev r_X9_hasOnlyRests : Room := { frames := 1, cells := 0, slots := 0, locals := 21 }
abbrev q_X9_hasOnlyRests (g : GG) (a0 a1 a2 a3 a4 : Nat) (st : SS) (o : Int32) (A : Nat → Prop) := va_Qi (fun (r : Int32) (u : Unit) => o = r) (fun u t => va_P (gD g) zCl (wState g a0 a1 a2 a3 a4 st) t.heap) A
set_option maxHeartbeats 4000000 in
set_option maxRecDepth 100000 in
theorem c_X9_hasOnlyRests (l : Launch) (g : GG) (a0 a1 a2 a3 a4 : Nat) (st : SS) (sz : Nat) (p1 : Int32) (p2 : Int32) (fu : Nat) (o : Int32) (hF : F_X9_hasOnlyRests fu st p1 p2 = some o) : Met l yX9_hasOnlyRests w_X9_hasOnlyRests r_X9_hasOnlyRests (va_Pc [.ref a0, .int p1, .int p2] (zP g (wState g a0 a1 a2 a3 a4 st) sz)) (q_X9_hasOnlyRests g a0 a1 a2 a3 a4 st o (va_A (wState g a0 a1 a2 a3 a4 st) sz)) 0 0 (va_A (wState g a0 a1 a2 a3 a4 st) sz) := by
  refine Met.ofW (cc := cX9_hasOnlyRests) (maxL := 6) (ret := (some .boolean)) (by decide) rfl ?_
  intro p e s m args below meth c s₁ B hml hv
  obtain ⟨rfl, rfl, hP, hK, hD0, hB⟩ := hv
  have hx := B.exec
  have hb := B.bytes
  have hr := B.returns
  have hts : ∀ w ∈ wU, w.before _ s = true := fun w h => atoms_spec (ws := w_X9_hasOnlyRests) B.pre w (List.mem_cons_of_mem _ h)
  have hown : s.vm.findClass RX9 = some m.cls := findClass_of_methodNamed B.named
  have hlocks := B.notSynchronized
  have hD := hD0.self (sz := s.heap.size)
  generalize hAe : va_A (wState g a0 a1 a2 a3 a4 st) s.heap.size = A at hD hB ⊢
  have hA : ∀ q : Nat, s.heap.size ≤ q → A q := fun q h => by rw [← hAe]; exact Or.inr h
  have hS : va_S A s.heap s.heap [] := va_S.rf
  have hl := lv_entry ([.ref a0, .int p1, .int p2]) (n := 6) (Nat.le_of_ble_eq_true rfl)
  rw [lg_entry_eq]
  generalize (lg_sl ([.ref a0, .int p1, .int p2]) ++ List.replicate (6 - (lg_sl ([.ref a0, .int p1, .int p2])).length) Slot.unset).toArray = ls at hl ⊢
  have hl : lv_has ls 6 [(0, .ref a0), (1, .int p1), (2, .int p2)] := hl
  unfold F_X9_hasOnlyRests at hF
  have K8 : ∀ (n8 : Nat) (x3 : Int64) (x5 : Int32), F_X9_hasOnlyRests_8 fu n8 st p2 x3 x5 = some o → ∀ (H : Heap) (locs : List Loc) (ls : Array Slot), lv_has ls 6 [(0, .ref a0), (2, .int p2), (3, .long x3), (5, .int x5)] → va_P (gD g) zCl (wState g a0 a1 a2 a3 a4 st) H → va_D A (wState g a0 a1 a2 a3 a4 st) → va_S A s.heap H locs → W p l e (headSpec w_X9_hasOnlyRests r_X9_hasOnlyRests).room s m ([.ref a0, .int p1, .int p2] : List Value).toArray below meth c H locs 0 0 (MQ below (q_X9_hasOnlyRests g a0 a1 a2 a3 a4 st o A) ([.ref a0, .int p1, .int p2] : List Value).toArray s 0 0 A) (F0 m 8 ls []) := by
    intro n8
    induction n8 with
    | zero =>
      intro x3 x5 hF
      exact absurd hF (by simp [F_X9_hasOnlyRests_8])
    | succ n8 ih8 =>
      intro x3 x5 hF H locs ls hl hP hD hS
      unfold F_X9_hasOnlyRests_8 at hF
      refine lv_iload hx hb dX9_hasOnlyRests_8 (lv_at hl 3 rfl) ?_
      refine lv_aload_n hx hb dX9_hasOnlyRests_10 rfl (lv_at hl 0 rfl) ?_
      refine va_getN (D := gD g) (ci := 5) (v := .int (s_cnt st)) (C := RX8) (T := TX8) (N := 11) hx hb hts inX8 hown hK hP 0 rfl rfl 4 (by decide) (va_Nw.use rfl (hB.2.1.1 _ zn_122)) (fun _ h9 => h9) rfl dX9_hasOnlyRests_11 ?_
      refine lv_icmp_ge (tgt := 48) hx hb dX9_hasOnlyRests_14 (by decide) (fun zc1 => ?_) (fun zc1 => ?_)
      · have hF := z_pos hF zc1
        refine lv_iconst (v := 1) hx hb dX9_hasOnlyRests_48 (by decide) ?_
        have ho := (Option.some.inj hF).symm
        exact W.zret (v := 1) hx hb hr rfl (fun t ht hW => ⟨⟨1, (), rfl, ho, z_end ht hP⟩, hS.F ht⟩) hS.2.2 dX9_hasOnlyRests_49
      · have hF := z_neg hF zc1
        refine lv_iload_n hx hb dX9_hasOnlyRests_17 rfl (lv_at hl 1 rfl) ?_
        refine lv_iload hx hb dX9_hasOnlyRests_18 (lv_at hl 3 rfl) ?_
        obtain ⟨zo2, hzo2, hF⟩ := z_bind hF
        refine z_calli (fun (_ : Unit) => []) [] (va_runS (As := [.int p2, .int x5]) (rest := []) ⟨hx, hb, hml, hown, hts⟩ (c_X9_isUp l g _ p2 x5 _ hzo2) (va_cwS 2 hts (gdS mU_368 mU_369 mU_91 mU_370) rfl rfl rfl (by decide +kernel) ⟨Nat.le_of_ble_eq_true rfl, Nat.le_of_ble_eq_true rfl⟩) ⟨z_blind _ _ _ _, fun U hU hW => z_pre [] hP hD hK hB hS hA rfl rfl hU hW⟩ rfl rfl hl.1 rfl (lv_room (Nat.le_of_ble_eq_true rfl)) dX9_hasOnlyRests_20 ⟨Nat.le_of_ble_eq_true rfl, Nat.le_of_ble_eq_true rfl⟩) hP hD hS hA rfl (fun _ => rfl) (fun r u H locs hw hP hD hS => ?_)
        subst hw
        have hP : va_P (gD g) zCl (wState g a0 a1 a2 a3 a4 st) H := hP
        have hD : va_D A (wState g a0 a1 a2 a3 a4 st) := hD
        refine lv_if_eq (tgt := 42) hx hb dX9_hasOnlyRests_23 (by decide) (fun zc3 => ?_) (fun zc3 => ?_)
        · have hF := z_pos hF zc3
          obtain ⟨zv4, ezv4, hF⟩ := z_let hF
          refine lv_iinc (v := zv4) (lv' := [(5, .int zv4), (0, .ref a0), (2, .int p2), (3, .long x3)]) hx hb dX9_hasOnlyRests_42 hl (k := 3) rfl (by rw [ezv4]; rfl) (by decide) rfl (fun ls hl => ?_)
          refine lv_goto (tgt := 8) hx hb dX9_hasOnlyRests_45 (by decide) ?_
          exact ih8 x3 zv4 hF _ _ _ (lv_sub hl [1, 2, 3, 0] rfl) hP hD hS
        · have hF := z_neg hF zc3
          refine lv_aload_n hx hb dX9_hasOnlyRests_26 rfl (lv_at hl 0 rfl) ?_
          refine va_getN (D := gD g) (ci := 5) (v := .ref a2) (C := RX8) (T := TX8) (N := 11) hx hb hts inX8 hown hK hP 0 rfl rfl 1 (by decide) (va_Nw.use rfl (hB.2.1.1 _ zn_115)) (fun _ h9 => h9) rfl dX9_hasOnlyRests_27 ?_
          refine lv_iload hx hb dX9_hasOnlyRests_30 (lv_at hl 3 rfl) ?_
          obtain ⟨zg5, hF⟩ := z_grd hF
          refine va_lald hx hb hK hP 2 2 rfl rfl zg5 dX9_hasOnlyRests_32 ?_
          refine lv_lload_n hx hb dX9_hasOnlyRests_33 rfl (lv_at hl 2 rfl) ?_
          obtain ⟨zg6, hF⟩ := z_grd hF
          refine lv_lrem hx hb dX9_hasOnlyRests_34 zg6 ?_
          refine lv_lconst (v := 0) hx hb dX9_hasOnlyRests_35 (by decide) ?_
          refine z_lcmp_ne (tgt := 42) hx hb dX9_hasOnlyRests_36 dX9_hasOnlyRests_37 (by decide) (fun zc7 => ?_) (fun zc7 => ?_)
          · have hF := z_neg hF zc7
            obtain ⟨zv8, ezv8, hF⟩ := z_let hF
            refine lv_iinc (v := zv8) (lv' := [(5, .int zv8), (0, .ref a0), (2, .int p2), (3, .long x3)]) hx hb dX9_hasOnlyRests_42 hl (k := 3) rfl (by rw [ezv8]; rfl) (by decide) rfl (fun ls hl => ?_)
            refine lv_goto (tgt := 8) hx hb dX9_hasOnlyRests_45 (by decide) ?_
            exact ih8 x3 zv8 hF _ _ _ (lv_sub hl [1, 2, 3, 0] rfl) hP hD hS
          · have hF := z_pos hF zc7
            refine lv_iconst (v := 0) hx hb dX9_hasOnlyRests_40 (by decide) ?_
            have ho := (Option.some.inj hF).symm
            exact W.zret (v := 0) hx hb hr rfl (fun t ht hW => ⟨⟨0, (), rfl, ho, z_end ht hP⟩, hS.F ht⟩) hS.2.2 dX9_hasOnlyRests_41
  refine lv_iload_n hx hb dX9_hasOnlyRests_0 rfl (lv_at hl 1 rfl) ?_
  obtain ⟨zo9, hzo9, hF⟩ := z_bind hF
  refine z_calll (fun (_ : Unit) => []) [] (va_runS (As := [.int p1]) (rest := []) ⟨hx, hb, hml, hown, hts⟩ (c_X7_stepOf l g _ p1 _ hzo9) (va_cwS 1 hts (gdS mU_356 mU_343 mU_88 mU_344) rfl rfl rfl (by decide +kernel) ⟨Nat.le_of_ble_eq_true rfl, Nat.le_of_ble_eq_true rfl⟩) ⟨z_blind _ _ _ _, fun U hU hW => z_pre [] hP hD hK hB hS hA rfl rfl hU hW⟩ rfl rfl hl.1 rfl (lv_room (Nat.le_of_ble_eq_true rfl)) dX9_hasOnlyRests_1 ⟨Nat.le_of_ble_eq_true rfl, Nat.le_of_ble_eq_true rfl⟩) hP hD hS hA rfl (fun _ => rfl) (fun r u H locs hw hP hD hS => ?_)
  subst hw
  have hP : va_P (gD g) zCl (wState g a0 a1 a2 a3 a4 st) H := hP
  have hD : va_D A (wState g a0 a1 a2 a3 a4 st) := hD
  refine lv_lstore_n (lv' := [(3, .long zo9), (0, .ref a0), (1, .int p1), (2, .int p2)]) hx hb dX9_hasOnlyRests_4 rfl hl (by decide) rfl (fun ls hl => ?_)
  refine lv_iconst (v := 0) hx hb dX9_hasOnlyRests_5 (by decide) ?_
  refine lv_istore (lv' := [(5, .int 0), (3, .long zo9), (0, .ref a0), (1, .int p1), (2, .int p2)]) hx hb dX9_hasOnlyRests_6 hl (by decide) rfl (fun ls hl => ?_)
  exact K8 fu zo9 0 hF _ _ _ (lv_sub hl [2, 4, 1, 0] rfl) hP hD hS
abbrev w_X9_leastErrorOfSets : List Cond := .code yX9_leastErrorOfSets cX9_leastErrorOfSets 7 (some .long) :: wU
abbrev r_X9_leastErrorOfSets : Room := { frames := 3, cells := 0, slots := 0, locals := 76 }
abbrev q_X9_leastErrorOfSets (g : GG) (a0 a1 a2 a3 a4 : Nat) (st : SS) (o : Int64) (A : Nat → Prop) := va_Ql (fun (r : Int64) (u : Unit) => o = r) (fun u t => va_P (gD g) zCl (wState g a0 a1 a2 a3 a4 st) t.heap) A
set_option maxHeartbeats 4000000 in
set_option maxRecDepth 100000 in
theorem c_X9_leastErrorOfSets (l : Launch) (g : GG) (a0 a1 a2 a3 a4 : Nat) (st : SS) (sz : Nat) (p1 : Int32) (fu : Nat) (o : Int64) (hF : F_X9_leastErrorOfSets fu st p1 = some o) : Met l yX9_leastErrorOfSets w_X9_leastErrorOfSets r_X9_leastErrorOfSets (va_Pc [.ref a0, .int p1] (zP g (wState g a0 a1 a2 a3 a4 st) sz)) (q_X9_leastErrorOfSets g a0 a1 a2 a3 a4 st o (va_A (wState g a0 a1 a2 a3 a4 st) sz)) 0 0 (va_A (wState g a0 a1 a2 a3 a4 st) sz) := by
  refine Met.ofW (cc := cX9_leastErrorOfSets) (maxL := 7) (ret := (some .long)) (by decide) rfl ?_
  intro p e s m args below meth c s₁ B hml hv
  obtain ⟨rfl, rfl, hP, hK, hD0, hB⟩ := hv
  have hx := B.exec
  have hb := B.bytes
  have hr := B.returns
  have hts : ∀ w ∈ wU, w.before _ s = true := fun w h => atoms_spec (ws := w_X9_leastErrorOfSets) B.pre w (List.mem_cons_of_mem _ h)
  have hown : s.vm.findClass RX9 = some m.cls := findClass_of_methodNamed B.named
  have hlocks := B.notSynchronized
  have hD := hD0.self (sz := s.heap.size)
  generalize hAe : va_A (wState g a0 a1 a2 a3 a4 st) s.heap.size = A at hD hB ⊢
  have hA : ∀ q : Nat, s.heap.size ≤ q → A q := fun q h => by rw [← hAe]; exact Or.inr h
  have hS : va_S A s.heap s.heap [] := va_S.rf
  have hl := lv_entry ([.ref a0, .int p1]) (n := 7) (Nat.le_of_ble_eq_true rfl)
  rw [lg_entry_eq]
  generalize (lg_sl ([.ref a0, .int p1]) ++ List.replicate (7 - (lg_sl ([.ref a0, .int p1])).length) Slot.unset).toArray = ls at hl ⊢
  have hl : lv_has ls 7 [(0, .ref a0), (1, .int p1)] := hl
  unfold F_X9_leastErrorOfSets at hF
  have K19 : ∀ (n19 : Nat) (x2 : Int64) (x4 : Int64) (x6 : Int32), F_X9_leastErrorOfSets_19 fu n19 st p1 x2 x4 x6 = some o → ∀ (H : Heap) (locs : List Loc) (ls : Array Slot), lv_has ls 7 [(0, .ref a0), (1, .int p1), (2, .long x2), (4, .long x4), (6, .int x6)] → va_P (gD g) zCl (wState g a0 a1 a2 a3 a4 st) H → va_D A (wState g a0 a1 a2 a3 a4 st) → va_S A s.heap H locs → W p l e (headSpec w_X9_leastErrorOfSets r_X9_leastErrorOfSets).room s m ([.ref a0, .int p1] : List Value).toArray below meth c H locs 0 0 (MQ below (q_X9_leastErrorOfSets g a0 a1 a2 a3 a4 st o A) ([.ref a0, .int p1] : List Value).toArray s 0 0 A) (F0 m 19 ls []) := by
    intro n19
    induction n19 with
    | zero =>
      intro x2 x4 x6 hF
      exact absurd hF (by simp [F_X9_leastErrorOfSets_19])
    | succ n19 ih19 =>
      intro x2 x4 x6 hF H locs ls hl hP hD hS
      unfold F_X9_leastErrorOfSets_19 at hF
      refine lv_iload hx hb dX9_leastErrorOfSets_19 (lv_at hl 4 rfl) ?_
      refine lv_iconst (v := 1) hx hb dX9_leastErrorOfSets_21 (by decide) ?_
      refine lv_aload_n hx hb dX9_leastErrorOfSets_22 rfl (lv_at hl 0 rfl) ?_
      refine va_getN (D := gD g) (ci := 5) (v := .int (s_cnt st)) (C := RX8) (T := TX8) (N := 11) hx hb hts inX8 hown hK hP 0 rfl rfl 4 (by decide) (va_Nw.use rfl (hB.2.1.1 _ zn_122)) (fun _ h9 => h9) rfl dX9_leastErrorOfSets_23 ?_
      refine lv_ishl hx hb dX9_leastErrorOfSets_26 ?_
      refine lv_icmp_ge (tgt := 72) hx hb dX9_leastErrorOfSets_27 (by decide) (fun zc1 => ?_) (fun zc1 => ?_)
      · have hF := z_pos hF zc1
        refine lv_lload hx hb dX9_leastErrorOfSets_72 (lv_at hl 3 rfl) ?_
        have ho := (Option.some.inj hF).symm
        exact W.lret (v := x4) hx hb hr (fun t ht hW => ⟨⟨x4, (), rfl, ho, z_end ht hP⟩, hS.F ht⟩) hS.2.2 dX9_leastErrorOfSets_74
      · have hF := z_neg hF zc1
        refine lv_aload_n hx hb dX9_leastErrorOfSets_30 rfl (lv_at hl 0 rfl) ?_
        refine lv_iload_n hx hb dX9_leastErrorOfSets_31 rfl (lv_at hl 1 rfl) ?_
        refine lv_iload hx hb dX9_leastErrorOfSets_32 (lv_at hl 4 rfl) ?_
        obtain ⟨zo2, hzo2, hF⟩ := z_bind hF
        refine z_calliE (fun (_ : Unit) => (wState g a0 a1 a2 a3 a4 st)) (va_runS (As := [.ref a0, .int p1, .int x6]) (rest := []) ⟨hx, hb, hml, hown, hts⟩ (c_X9_hasOnlyRests l g a0 a1 a2 a3 a4 st _ p1 x6 fu _ hzo2) (va_cwS 3 hts (gdS mU_385 mU_386 mU_91 mU_387) rfl rfl rfl (by decide +kernel) ⟨Nat.le_of_ble_eq_true rfl, Nat.le_of_ble_eq_true rfl⟩) ⟨z_blind _ _ _ _, fun U hU hW => z_preE hP hD hK hB hS hA hU hW⟩ rfl rfl hl.1 rfl (lv_room (Nat.le_of_ble_eq_true rfl)) dX9_leastErrorOfSets_34 ⟨Nat.le_of_ble_eq_true rfl, Nat.le_of_ble_eq_true rfl⟩) hD hS hA (fun _ => rfl) (fun r u H locs hw hP hD hS => ?_)
        subst hw
        have hP : va_P (gD g) zCl (wState g a0 a1 a2 a3 a4 st) H := hP
        have hD : va_D A (wState g a0 a1 a2 a3 a4 st) := hD
        refine lv_if_eq (tgt := 66) hx hb dX9_leastErrorOfSets_37 (by decide) (fun zc3 => ?_) (fun zc3 => ?_)
        · have hF := z_pos hF zc3
          obtain ⟨zv4, ezv4, hF⟩ := z_let hF
          refine lv_iinc (v := zv4) (lv' := [(6, .int zv4), (0, .ref a0), (1, .int p1), (2, .long x2), (4, .long x4)]) hx hb dX9_leastErrorOfSets_66 hl (k := 4) rfl (by rw [ezv4]; rfl) (by decide) rfl (fun ls hl => ?_)
          refine lv_goto (tgt := 19) hx hb dX9_leastErrorOfSets_69 (by decide) ?_
          exact ih19 x2 x4 zv4 hF _ _ _ (lv_sub hl [1, 2, 3, 4, 0] rfl) hP hD hS
        · have hF := z_neg hF zc3
          refine lv_aload_n hx hb dX9_leastErrorOfSets_40 rfl (lv_at hl 0 rfl) ?_
          refine lv_iload_n hx hb dX9_leastErrorOfSets_41 rfl (lv_at hl 1 rfl) ?_
          refine lv_iload hx hb dX9_leastErrorOfSets_42 (lv_at hl 4 rfl) ?_
          obtain ⟨zo5, hzo5, hF⟩ := z_bind hF
          refine z_calllE (fun (_ : Unit) => (wState g a0 a1 a2 a3 a4 st)) (va_runS (As := [.ref a0, .int p1, .int x6]) (rest := []) ⟨hx, hb, hml, hown, hts⟩ (c_X9_sumOf l g a0 a1 a2 a3 a4 st _ p1 x6 fu _ hzo5) (va_cwS 3 hts (gdS mU_388 mU_389 mU_91 mU_390) rfl rfl rfl (by decide +kernel) ⟨Nat.le_of_ble_eq_true rfl, Nat.le_of_ble_eq_true rfl⟩) ⟨z_blind _ _ _ _, fun U hU hW => z_preE hP hD hK hB hS hA hU hW⟩ rfl rfl hl.1 rfl (lv_room (Nat.le_of_ble_eq_true rfl)) dX9_leastErrorOfSets_44 ⟨Nat.le_of_ble_eq_true rfl, Nat.le_of_ble_eq_true rfl⟩) hD hS hA (fun _ => rfl) (fun r u H locs hw hP hD hS => ?_)
          subst hw
          have hP : va_P (gD g) zCl (wState g a0 a1 a2 a3 a4 st) H := hP
          have hD : va_D A (wState g a0 a1 a2 a3 a4 st) := hD
          refine lv_lload_n hx hb dX9_leastErrorOfSets_47 rfl (lv_at hl 2 rfl) ?_
          refine z_lcmp_ne (tgt := 66) hx hb dX9_leastErrorOfSets_48 dX9_leastErrorOfSets_49 (by decide) (fun zc6 => ?_) (fun zc6 => ?_)
          · have hF := z_neg hF zc6
            obtain ⟨zv7, ezv7, hF⟩ := z_let hF
            refine lv_iinc (v := zv7) (lv' := [(6, .int zv7), (0, .ref a0), (1, .int p1), (2, .long x2), (4, .long x4)]) hx hb dX9_leastErrorOfSets_66 hl (k := 4) rfl (by rw [ezv7]; rfl) (by decide) rfl (fun ls hl => ?_)
            refine lv_goto (tgt := 19) hx hb dX9_leastErrorOfSets_69 (by decide) ?_
            exact ih19 x2 x4 zv7 hF _ _ _ (lv_sub hl [1, 2, 3, 4, 0] rfl) hP hD hS
          · have hF := z_pos hF zc6
            refine lv_lload hx hb dX9_leastErrorOfSets_52 (lv_at hl 3 rfl) ?_
            refine lv_aload_n hx hb dX9_leastErrorOfSets_54 rfl (lv_at hl 0 rfl) ?_
            refine lv_iload_n hx hb dX9_leastErrorOfSets_55 rfl (lv_at hl 1 rfl) ?_
            refine lv_iload hx hb dX9_leastErrorOfSets_56 (lv_at hl 4 rfl) ?_
            obtain ⟨zo8, hzo8, hF⟩ := z_bind hF
            refine z_calllE (fun (_ : Unit) => (wState g a0 a1 a2 a3 a4 st)) (va_runS (As := [.ref a0, .int p1, .int x6]) (rest := [.long x4]) ⟨hx, hb, hml, hown, hts⟩ (c_X9_errorOf l g a0 a1 a2 a3 a4 st _ p1 x6 fu _ hzo8) (va_cwS 3 hts (gdS mU_391 mU_372 mU_91 mU_373) rfl rfl rfl (by decide +kernel) ⟨Nat.le_of_ble_eq_true rfl, Nat.le_of_ble_eq_true rfl⟩) ⟨z_blind _ _ _ _, fun U hU hW => z_preE hP hD hK hB hS hA hU hW⟩ rfl rfl hl.1 rfl (lv_room (Nat.le_of_ble_eq_true rfl)) dX9_leastErrorOfSets_58 ⟨Nat.le_of_ble_eq_true rfl, Nat.le_of_ble_eq_true rfl⟩) hD hS hA (fun _ => rfl) (fun r u H locs hw hP hD hS => ?_)
            subst hw
            have hP : va_P (gD g) zCl (wState g a0 a1 a2 a3 a4 st) H := hP
            have hD : va_D A (wState g a0 a1 a2 a3 a4 st) := hD
            refine va_mmin_long hx hb (hml.trans hl.1.symm) hown (hts _ mU_392) (hts _ mU_393) (hts _ mU_83) (hts _ mU_394) (Nat.le_of_ble_eq_true rfl) (Nat.le_of_ble_eq_true rfl) (Nat.le_of_ble_eq_true rfl) (Nat.le_of_ble_eq_true rfl) dX9_leastErrorOfSets_61 ?_
            obtain ⟨zv9, ezv9, hF⟩ := z_let hF
            refine z_topl ezv9 ?_
            refine lv_lstore (lv' := [(4, .long zv9), (0, .ref a0), (1, .int p1), (2, .long x2), (6, .int x6)]) hx hb dX9_leastErrorOfSets_64 hl (by decide) rfl (fun ls hl => ?_)
            obtain ⟨zv10, ezv10, hF⟩ := z_let hF
            refine lv_iinc (v := zv10) (lv' := [(6, .int zv10), (4, .long zv9), (0, .ref a0), (1, .int p1), (2, .long x2)]) hx hb dX9_leastErrorOfSets_66 hl (k := 4) rfl (by rw [ezv10]; rfl) (by decide) rfl (fun ls hl => ?_)
            refine lv_goto (tgt := 19) hx hb dX9_leastErrorOfSets_69 (by decide) ?_
            exact ih19 x2 zv9 zv10 hF _ _ _ (lv_sub hl [2, 3, 4, 1, 0] rfl) hP hD hS
  refine lv_aload_n hx hb dX9_leastErrorOfSets_0 rfl (lv_at hl 0 rfl) ?_
  obtain ⟨zo11, hzo11, hF⟩ := z_bind hF
  refine z_calllE (fun (_ : Unit) => (wState g a0 a1 a2 a3 a4 st)) (va_runV (As := []) (rest := []) ⟨hx, hb, hml, hown, hts⟩ (c_X8_sumOfValues l g a0 a1 a2 a3 a4 st _ fu _ hzo11) (cwV 0 hts (gdV mU_383 mU_314 mU_315 mU_67 mU_316) rfl rfl rfl (by decide +kernel) ⟨Nat.le_of_ble_eq_true rfl, Nat.le_of_ble_eq_true rfl⟩) ⟨z_blind _ _ _ _, va_recv hK hP (ci := 5) (q0 := 0) rfl rfl, fun U hU hW => z_preE hP hD hK hB hS hA hU hW⟩ rfl rfl hl.1 rfl (lv_room (Nat.le_of_ble_eq_true rfl)) dX9_leastErrorOfSets_1 ⟨Nat.le_of_ble_eq_true rfl, Nat.le_of_ble_eq_true rfl⟩) hD hS hA (fun _ => rfl) (fun r u H locs hw hP hD hS => ?_)
  subst hw
  have hP : va_P (gD g) zCl (wState g a0 a1 a2 a3 a4 st) H := hP
  have hD : va_D A (wState g a0 a1 a2 a3 a4 st) := hD
  refine lv_iload_n hx hb dX9_leastErrorOfSets_4 rfl (lv_at hl 1 rfl) ?_
  refine lv_bipush (v := 104) hx hb dX9_leastErrorOfSets_5 (by decide) ?_
  obtain ⟨zo12, hzo12, hF⟩ := z_bind hF
  refine z_calll (fun (_ : Unit) => []) [] (va_runS (As := [.long zo11, .int p1, .int 104]) (rest := []) ⟨hx, hb, hml, hown, hts⟩ (c_X7_ofSum l g _ zo11 p1 104 _ hzo12) (va_cwS 3 hts (gdS mU_357 mU_358 mU_88 mU_359) rfl rfl rfl (by decide +kernel) ⟨Nat.le_of_ble_eq_true rfl, Nat.le_of_ble_eq_true rfl⟩) ⟨z_blind _ _ _ _, fun U hU hW => z_pre [] hP hD hK hB hS hA rfl rfl hU hW⟩ rfl rfl hl.1 rfl (lv_room (Nat.le_of_ble_eq_true rfl)) dX9_leastErrorOfSets_7 ⟨Nat.le_of_ble_eq_true rfl, Nat.le_of_ble_eq_true rfl⟩) hP hD hS hA rfl (fun _ => rfl) (fun r u H locs hw hP hD hS => ?_)
  subst hw
  have hP : va_P (gD g) zCl (wState g a0 a1 a2 a3 a4 st) H := hP
  have hD : va_D A (wState g a0 a1 a2 a3 a4 st) := hD
  refine lv_lstore_n (lv' := [(2, .long zo12), (0, .ref a0), (1, .int p1)]) hx hb dX9_leastErrorOfSets_10 rfl hl (by decide) rfl (fun ls hl => ?_)
  refine lv_ldc2 (v := 9223372036854775807) hx hb hown (hts _ mU_384) dX9_leastErrorOfSets_11 ?_
  refine lv_lstore (lv' := [(4, .long 9223372036854775807), (2, .long zo12), (0, .ref a0), (1, .int p1)]) hx hb dX9_leastErrorOfSets_14 hl (by decide) rfl (fun ls hl => ?_)
  refine lv_iconst (v := 0) hx hb dX9_leastErrorOfSets_16 (by decide) ?_
  refine lv_istore (lv' := [(6, .int 0), (4, .long 9223372036854775807), (2, .long zo12), (0, .ref a0), (1, .int p1)]) hx hb dX9_leastErrorOfSets_17 hl (by decide) rfl (fun ls hl => ?_)
  exact K19 fu zo12 9223372036854775807 0 hF _ _ _ (lv_sub hl [3, 4, 2, 1, 0] rfl) hP hD hS
