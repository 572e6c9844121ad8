abbrev w_X7_stepOf : List Cond := .code yX7_stepOf cX7_stepOf 1 (some .long) :: wU
abbrev r_X7_stepOf : Room := { frames := 0, cells := 0, slots := 0, locals := 0 }
abbrev q_X7_stepOf (g : GG) (o : Int64) (A : Nat → Prop) := va_Ql (fun (r : Int64) (u : Unit) => o = r) (fun u t => va_P (gD g) zCl [] t.heap) A
set_option maxHeartbeats 4000000 in
set_option maxRecDepth 100000 in
theorem c_X7_stepOf (l : Launch) (g : GG) (sz : Nat) (p0 : Int32) (o : Int64) (hF : F_X7_stepOf p0 = some o) : Met l yX7_stepOf w_X7_stepOf r_X7_stepOf (va_Pc [.int p0] (zP g [] sz)) (q_X7_stepOf g o (va_A [] sz)) 0 0 (va_A [] sz) := by
  refine Met.ofW (cc := cX7_stepOf) (maxL := 1) (ret := (some .long)) (by decide) rfl ?_
  intro p e s m args below meth c s₁ B hml hv
  obtain ⟨rfl, rfl, hP, hK, hD0, hB⟩ := hv
  have hx := B.exec
  have hb := B.bytes
  have hr := B.returns
  have hts : ∀ w ∈ wU, w.before _ s = true := fun w h => atoms_spec (ws := w_X7_stepOf) B.pre w (List.mem_cons_of_mem _ h)
  have hown : s.vm.findClass RX7 = some m.cls := findClass_of_methodNamed B.named
  have hlocks := B.notSynchronized
  have hD := hD0.self (sz := s.heap.size)
  generalize hAe : va_A [] s.heap.size = A at hD hB ⊢
  have hA : ∀ q : Nat, s.heap.size ≤ q → A q := fun q h => by rw [← hAe]; exact Or.inr h
  have hS : va_S A s.heap s.heap [] := va_S.rf
  have hl := lv_entry ([.int p0]) (n := 1) (Nat.le_of_ble_eq_true rfl)
  rw [lg_entry_eq]
  generalize (lg_sl ([.int p0]) ++ List.replicate (1 - (lg_sl ([.int p0])).length) Slot.unset).toArray = ls at hl ⊢
  have hl : lv_has ls 1 [(0, .int p0)] := hl
  unfold F_X7_stepOf at hF
  refine lv_iload_n hx hb dX7_stepOf_0 rfl (lv_at hl 0 rfl) ?_
  by_cases zc1 : p0 = 0
  · have hF := z_pos hF zc1
    refine lv_tableIn (tgt := 32) (off := 31) hx hb dX7_stepOf_1 (by rw [zc1]; decide) (by rw [zc1]; decide) (by rw [zc1]; rfl) (by decide) ?_
    refine lv_ldc2 (v := 10000) hx hb hown (hts _ mU_345) dX7_stepOf_32 ?_
    have ho := (Option.some.inj hF).symm
    exact W.lret (v := 10000) hx hb hr (fun t ht hW => ⟨⟨10000, (), rfl, ho, z_end ht hP⟩, hS.F ht⟩) hS.2.2 dX7_stepOf_35
  have hF := z_neg hF zc1
  by_cases zc2 : p0 = 1
  · have hF := z_pos hF zc2
    refine lv_tableIn (tgt := 36) (off := 35) hx hb dX7_stepOf_1 (by rw [zc2]; decide) (by rw [zc2]; decide) (by rw [zc2]; rfl) (by decide) ?_
    refine lv_ldc2 (v := 1000) hx hb hown (hts _ mU_346) dX7_stepOf_36 ?_
    have ho := (Option.some.inj hF).symm
    exact W.lret (v := 1000) hx hb hr (fun t ht hW => ⟨⟨1000, (), rfl, ho, z_end ht hP⟩, hS.F ht⟩) hS.2.2 dX7_stepOf_39
  have hF := z_neg hF zc2
  by_cases zc3 : p0 = 2
  · have hF := z_pos hF zc3
    refine lv_tableIn (tgt := 40) (off := 39) hx hb dX7_stepOf_1 (by rw [zc3]; decide) (by rw [zc3]; decide) (by rw [zc3]; rfl) (by decide) ?_
    refine lv_ldc2 (v := 100) hx hb hown (hts _ mU_347) dX7_stepOf_40 ?_
    have ho := (Option.some.inj hF).symm
    exact W.lret (v := 100) hx hb hr (fun t ht hW => ⟨⟨100, (), rfl, ho, z_end ht hP⟩, hS.F ht⟩) hS.2.2 dX7_stepOf_43
  have hF := z_neg hF zc3
  by_cases zc4 : p0 = 3
  · have hF := z_pos hF zc4
    refine lv_tableIn (tgt := 44) (off := 43) hx hb dX7_stepOf_1 (by rw [zc4]; decide) (by rw [zc4]; decide) (by rw [zc4]; rfl) (by decide) ?_
    refine lv_ldc2 (v := 10) hx hb hown (hts _ mU_348) dX7_stepOf_44 ?_
    have ho := (Option.some.inj hF).symm
    exact W.lret (v := 10) hx hb hr (fun t ht hW => ⟨⟨10, (), rfl, ho, z_end ht hP⟩, hS.F ht⟩) hS.2.2 dX7_stepOf_47
  have hF := z_neg hF zc4
  refine lv_tableOut (tgt := 48) hx hb dX7_stepOf_1 (by have hzc1 : (p0 : Int32).toInt ≠ 0 := fun h => zc1 (Int32.toInt_inj.mp h); have hzc2 : (p0 : Int32).toInt ≠ 1 := fun h => zc2 (Int32.toInt_inj.mp h); have hzc3 : (p0 : Int32).toInt ≠ 2 := fun h => zc3 (Int32.toInt_inj.mp h); have hzc4 : (p0 : Int32).toInt ≠ 3 := fun h => zc4 (Int32.toInt_inj.mp h); omega) (by decide) ?_
  refine lv_lconst (v := 1) hx hb dX7_stepOf_48 (by decide) ?_
  have ho := (Option.some.inj hF).symm
  exact W.lret (v := 1) hx hb hr (fun t ht hW => ⟨⟨1, (), rfl, ho, z_end ht hP⟩, hS.F ht⟩) hS.2.2 dX7_stepOf_49
abbrev w_X7_goesAbove : List Cond := .code yX7_goesAbove cX7_goesAbove 9 (some .boolean) :: wU
abbrev r_X7_goesAbove : Room := { frames := 0, cells := 0, slots := 0, locals := 0 }
abbrev q_X7_goesAbove (g : GG) (o : Int32) (A : Nat → Prop) := va_Qi (fun (r : Int32) (u : Unit) => o = r) (fun u t => va_P (gD g) zCl [] t.heap) A
set_option maxHeartbeats 4000000 in
set_option maxRecDepth 100000 in
theorem c_X7_goesAbove (l : Launch) (g : GG) (sz : Nat) (p0 : Int64) (p2 : Int64) (p4 : Int64) (p6 : Int32) (o : Int32) (hF : F_X7_goesAbove p0 p2 p4 p6 = some o) : Met l yX7_goesAbove w_X7_goesAbove r_X7_goesAbove (va_Pc [.long p0, .long p2, .long p4, .int p6] (zP g [] sz)) (q_X7_goesAbove g o (va_A [] sz)) 0 0 (va_A [] sz) := by
  refine Met.ofW (cc := cX7_goesAbove) (maxL := 9) (ret := (some .boolean)) (by decide) rfl ?_
  intro p e s m args below meth c s₁ B hml hv
  obtain ⟨rfl, rfl, hP, hK, hD0, hB⟩ := hv
  have hx := B.exec
  have hb := B.bytes
  have hr := B.returns
  have hts : ∀ w ∈ wU, w.before _ s = true := fun w h => atoms_spec (ws := w_X7_goesAbove) B.pre w (List.mem_cons_of_mem _ h)
  have hown : s.vm.findClass RX7 = some m.cls := findClass_of_methodNamed B.named
  have hlocks := B.notSynchronized
  have hD := hD0.self (sz := s.heap.size)
  generalize hAe : va_A [] s.heap.size = A at hD hB ⊢
  have hA : ∀ q : Nat, s.heap.size ≤ q → A q := fun q h => by rw [← hAe]; exact Or.inr h
  have hS : va_S A s.heap s.heap [] := va_S.rf
  have hl := lv_entry ([.long p0, .long p2, .long p4, .int p6]) (n := 9) (Nat.le_of_ble_eq_true rfl)
  rw [lg_entry_eq]
  generalize (lg_sl ([.long p0, .long p2, .long p4, .int p6]) ++ List.replicate (9 - (lg_sl ([.long p0, .long p2, .long p4, .int p6])).length) Slot.unset).toArray = ls at hl ⊢
  have hl : lv_has ls 9 [(0, .long p0), (2, .long p2), (4, .long p4), (6, .int p6)] := hl
  unfold F_X7_goesAbove at hF
  refine lv_lload_n hx hb dX7_goesAbove_0 rfl (lv_at hl 1 rfl) ?_
  refine lv_lconst (v := 0) hx hb dX7_goesAbove_1 (by decide) ?_
  refine z_lcmp_eq (tgt := 13) hx hb dX7_goesAbove_2 dX7_goesAbove_3 (by decide) (fun zc1 => ?_) (fun zc1 => ?_)
  · have hF := z_pos hF zc1
    refine lv_iconst (v := 0) hx hb dX7_goesAbove_13 (by decide) ?_
    have ho := (Option.some.inj hF).symm
    exact W.zret (v := 0) hx hb hr rfl (fun t ht hW => ⟨⟨0, (), rfl, ho, z_end ht hP⟩, hS.F ht⟩) hS.2.2 dX7_goesAbove_14
  · have hF := z_neg hF zc1
    refine lv_iload hx hb dX7_goesAbove_6 (lv_at hl 3 rfl) ?_
    refine lv_bipush (v := 100) hx hb dX7_goesAbove_8 (by decide) ?_
    refine lv_icmp_ne (tgt := 15) hx hb dX7_goesAbove_10 (by decide) (fun zc2 => ?_) (fun zc2 => ?_)
    · have hF := z_neg hF zc2
      refine lv_iload hx hb dX7_goesAbove_15 (lv_at hl 3 rfl) ?_
      refine lv_bipush (v := 117) hx hb dX7_goesAbove_17 (by decide) ?_
      refine lv_icmp_ne (tgt := 24) hx hb dX7_goesAbove_19 (by decide) (fun zc3 => ?_) (fun zc3 => ?_)
      · have hF := z_neg hF zc3
        refine lv_ldc2 (v := 2) hx hb hown (hts _ mU_364) dX7_goesAbove_24 ?_
        refine lv_lload_n hx hb dX7_goesAbove_27 rfl (lv_at hl 1 rfl) ?_
        refine lv_lmul hx hb dX7_goesAbove_28 ?_
        refine lv_lload hx hb dX7_goesAbove_29 (lv_at hl 2 rfl) ?_
        refine lv_lsub hx hb dX7_goesAbove_31 ?_
        obtain ⟨zv4, ezv4, hF⟩ := z_let hF
        refine z_topl ezv4 ?_
        refine lv_lstore (lv' := [(7, .long zv4), (0, .long p0), (2, .long p2), (4, .long p4), (6, .int p6)]) hx hb dX7_goesAbove_32 hl (by decide) rfl (fun ls hl => ?_)
        refine lv_lload hx hb dX7_goesAbove_34 (lv_at hl 0 rfl) ?_
        refine lv_lconst (v := 0) hx hb dX7_goesAbove_36 (by decide) ?_
        refine z_lcmp_eq (tgt := 54) hx hb dX7_goesAbove_37 dX7_goesAbove_38 (by decide) (fun zc5 => ?_) (fun zc5 => ?_)
        · have hF := z_pos hF zc5
          refine lv_iload hx hb dX7_goesAbove_54 (lv_at hl 4 rfl) ?_
          refine lv_bipush (v := 104) hx hb dX7_goesAbove_56 (by decide) ?_
          refine lv_icmp_eq (tgt := 78) hx hb dX7_goesAbove_58 (by decide) (fun zc6 => ?_) (fun zc6 => ?_)
          · have hF := z_pos hF zc6
            refine lv_iconst (v := 1) hx hb dX7_goesAbove_78 (by decide) ?_
            refine lv_goto (tgt := 83) hx hb dX7_goesAbove_79 (by decide) ?_
            have ho := (Option.some.inj hF).symm
            exact W.zret (v := 1) hx hb hr rfl (fun t ht hW => ⟨⟨1, (), rfl, ho, z_end ht hP⟩, hS.F ht⟩) hS.2.2 dX7_goesAbove_83
          · have hF := z_neg hF zc6
            refine lv_iload hx hb dX7_goesAbove_61 (lv_at hl 4 rfl) ?_
            refine lv_bipush (v := 101) hx hb dX7_goesAbove_63 (by decide) ?_
            refine lv_icmp_ne (tgt := 82) hx hb dX7_goesAbove_65 (by decide) (fun zc7 => ?_) (fun zc7 => ?_)
            · have hF := z_neg hF zc7
              refine lv_iconst (v := 0) hx hb dX7_goesAbove_82 (by decide) ?_
              have ho := (Option.some.inj hF).symm
              exact W.zret (v := 0) hx hb hr rfl (fun t ht hW => ⟨⟨0, (), rfl, ho, z_end ht hP⟩, hS.F ht⟩) hS.2.2 dX7_goesAbove_83
            · have hF := z_pos hF zc7
              refine lv_lload_n hx hb dX7_goesAbove_68 rfl (lv_at hl 1 rfl) ?_
              refine lv_ldc2 (v := 2) hx hb hown (hts _ mU_364) dX7_goesAbove_69 ?_
              refine lv_lrem hx hb dX7_goesAbove_72 (by decide) ?_
              refine lv_lconst (v := 0) hx hb dX7_goesAbove_73 (by decide) ?_
              refine z_lcmp_eq (tgt := 82) hx hb dX7_goesAbove_74 dX7_goesAbove_75 (by decide) (fun zc8 => ?_) (fun zc8 => ?_)
              · have hF := z_pos hF zc8
                refine lv_iconst (v := 0) hx hb dX7_goesAbove_82 (by decide) ?_
                have ho := (Option.some.inj hF).symm
                exact W.zret (v := 0) hx hb hr rfl (fun t ht hW => ⟨⟨0, (), rfl, ho, z_end ht hP⟩, hS.F ht⟩) hS.2.2 dX7_goesAbove_83
              · have hF := z_neg hF zc8
                refine lv_iconst (v := 1) hx hb dX7_goesAbove_78 (by decide) ?_
                refine lv_goto (tgt := 83) hx hb dX7_goesAbove_79 (by decide) ?_
                have ho := (Option.some.inj hF).symm
                exact W.zret (v := 1) hx hb hr rfl (fun t ht hW => ⟨⟨1, (), rfl, ho, z_end ht hP⟩, hS.F ht⟩) hS.2.2 dX7_goesAbove_83
        · have hF := z_neg hF zc5
          refine lv_lload hx hb dX7_goesAbove_41 (lv_at hl 0 rfl) ?_
          refine lv_lconst (v := 0) hx hb dX7_goesAbove_43 (by decide) ?_
          refine z_lcmp_le (tgt := 52) hx hb dX7_goesAbove_44 dX7_goesAbove_45 (by decide) (fun zc9 => ?_) (fun zc9 => ?_)
          · have hF := z_neg hF zc9
            refine lv_iconst (v := 0) hx hb dX7_goesAbove_52 (by decide) ?_
            have ho := (Option.some.inj hF).symm
            exact W.zret (v := 0) hx hb hr rfl (fun t ht hW => ⟨⟨0, (), rfl, ho, z_end ht hP⟩, hS.F ht⟩) hS.2.2 dX7_goesAbove_53
          · have hF := z_pos hF zc9
            refine lv_iconst (v := 1) hx hb dX7_goesAbove_48 (by decide) ?_
            refine lv_goto (tgt := 53) hx hb dX7_goesAbove_49 (by decide) ?_
            have ho := (Option.some.inj hF).symm
            exact W.zret (v := 1) hx hb hr rfl (fun t ht hW => ⟨⟨1, (), rfl, ho, z_end ht hP⟩, hS.F ht⟩) hS.2.2 dX7_goesAbove_53
      · have hF := z_pos hF zc3
        refine lv_iconst (v := 1) hx hb dX7_goesAbove_22 (by decide) ?_
        have ho := (Option.some.inj hF).symm
        exact W.zret (v := 1) hx hb hr rfl (fun t ht hW => ⟨⟨1, (), rfl, ho, z_end ht hP⟩, hS.F ht⟩) hS.2.2 dX7_goesAbove_23
    · have hF := z_pos hF zc2
      refine lv_iconst (v := 0) hx hb dX7_goesAbove_13 (by decide) ?_
      have ho := (Option.some.inj hF).symm
      exact W.zret (v := 0) hx hb hr rfl (fun t ht hW => ⟨⟨0, (), rfl, ho, z_end ht hP⟩, hS.F ht⟩) hS.2.2 dX7_goesAbove_14
abbrev w_X7_ofSum : List Cond := .code yX7_ofSum cX7_ofSum 8 (some .long) :: wU
abbrev r_X7_ofSum : Room := { frames := 1, cells := 0, slots := 0, locals := 28 }
abbrev q_X7_ofSum (g : GG) (o : Int64) (A : Nat → Prop) := va_Ql (fun (r : Int64) (u : Unit) => o = r) (fun u t => va_P (gD g) zCl [] t.heap) A
set_option maxHeartbeats 4000000 in
set_option maxRecDepth 100000 in
theorem c_X7_ofSum (l : Launch) (g : GG) (sz : Nat) (p0 : Int64) (p2 : Int32) (p3 : Int32) (o : Int64) (hF : F_X7_ofSum p0 p2 p3 = some o) : Met l yX7_ofSum w_X7_ofSum r_X7_ofSum (va_Pc [.long p0, .int p2, .int p3] (zP g [] sz)) (q_X7_ofSum g o (va_A [] sz)) 0 0 (va_A [] sz) := by
  refine Met.ofW (cc := cX7_ofSum) (maxL := 8) (ret := (some .long)) (by decide) rfl ?_
  intro p e s m args below meth c s₁ B hml hv
  obtain ⟨rfl, rfl, hP, hK, hD0, hB⟩ := hv
  have hx := B.exec
  have hb := B.bytes
  have hr := B.returns
  have hts : ∀ w ∈ wU, w.before _ s = true := fun w h => atoms_spec (ws := w_X7_ofSum) B.pre w (List.mem_cons_of_mem _ h)
  have hown : s.vm.findClass RX7 = some m.cls := findClass_of_methodNamed B.named
  have hlocks := B.notSynchronized
  have hD := hD0.self (sz := s.heap.size)
  generalize hAe : va_A [] s.heap.size = A at hD hB ⊢
  have hA : ∀ q : Nat, s.heap.size ≤ q → A q := fun q h => by rw [← hAe]; exact Or.inr h
  have hS : va_S A s.heap s.heap [] := va_S.rf
  have hl := lv_entry ([.long p0, .int p2, .int p3]) (n := 8) (Nat.le_of_ble_eq_true rfl)
  rw [lg_entry_eq]
  generalize (lg_sl ([.long p0, .int p2, .int p3]) ++ List.replicate (8 - (lg_sl ([.long p0, .int p2, .int p3])).length) Slot.unset).toArray = ls at hl ⊢
  have hl : lv_has ls 8 [(0, .long p0), (2, .int p2), (3, .int p3)] := hl
  unfold F_X7_ofSum at hF
  refine lv_iload_n hx hb dX7_ofSum_0 rfl (lv_at hl 1 rfl) ?_
  obtain ⟨zo1, hzo1, hF⟩ := z_bind hF
  refine z_calllE (fun (_ : Unit) => []) (va_runS (As := [.int p2]) (rest := []) ⟨hx, hb, hml, hown, hts⟩ (c_X7_stepOf l g _ p2 _ hzo1) (va_cwS 1 hts (gdS mU_360 mU_343 mU_88 mU_344) rfl rfl rfl (by decide +kernel) ⟨Nat.le_of_ble_eq_true rfl, Nat.le_of_ble_eq_true rfl⟩) ⟨z_blind _ _ _ _, fun U hU hW => z_preE hP hD hK hB hS hA hU hW⟩ rfl rfl hl.1 rfl (lv_room (Nat.le_of_ble_eq_true rfl)) dX7_ofSum_1 ⟨Nat.le_of_ble_eq_true rfl, Nat.le_of_ble_eq_true rfl⟩) hD hS hA (fun _ => rfl) (fun r u H locs hw hP hD hS => ?_)
  subst hw
  have hP : va_P (gD g) zCl [] H := hP
  have hD : va_D A [] := hD
  refine lv_lstore (lv' := [(4, .long zo1), (0, .long p0), (2, .int p2), (3, .int p3)]) hx hb dX7_ofSum_4 hl (by decide) rfl (fun ls hl => ?_)
  refine lv_lload_n hx hb dX7_ofSum_6 rfl (lv_at hl 1 rfl) ?_
  refine lv_lload hx hb dX7_ofSum_7 (lv_at hl 0 rfl) ?_
  obtain ⟨zg2, hF⟩ := z_grd hF
  refine lv_ldiv hx hb dX7_ofSum_9 zg2 ?_
  obtain ⟨zv3, ezv3, hF⟩ := z_let hF
  refine z_topl ezv3 ?_
  refine lv_lstore (lv' := [(6, .long zv3), (4, .long zo1), (0, .long p0), (2, .int p2), (3, .int p3)]) hx hb dX7_ofSum_10 hl (by decide) rfl (fun ls hl => ?_)
  refine lv_lload hx hb dX7_ofSum_12 (lv_at hl 0 rfl) ?_
  refine lv_lload_n hx hb dX7_ofSum_14 rfl (lv_at hl 2 rfl) ?_
  refine lv_lload hx hb dX7_ofSum_15 (lv_at hl 1 rfl) ?_
  obtain ⟨zg4, hF⟩ := z_grd hF
  refine lv_lrem hx hb dX7_ofSum_17 zg4 ?_
  refine lv_lload hx hb dX7_ofSum_18 (lv_at hl 1 rfl) ?_
  refine lv_iload_n hx hb dX7_ofSum_20 rfl (lv_at hl 4 rfl) ?_
  obtain ⟨zo5, hzo5, hF⟩ := z_bind hF
  refine z_calliE (fun (_ : Unit) => []) (va_runS (As := [.long zv3, .long (p0 - p0 / zo1 * zo1), .long zo1, .int p3]) (rest := []) ⟨hx, hb, hml, hown, hts⟩ (c_X7_goesAbove l g _ zv3 (p0 - p0 / zo1 * zo1) zo1 p3 _ hzo5) (va_cwS 4 hts (gdS mU_361 mU_362 mU_88 mU_363) rfl rfl rfl (by decide +kernel) ⟨Nat.le_of_ble_eq_true rfl, Nat.le_of_ble_eq_true rfl⟩) ⟨z_blind _ _ _ _, fun U hU hW => z_preE hP hD hK hB hS hA hU hW⟩ rfl rfl hl.1 rfl (lv_room (Nat.le_of_ble_eq_true rfl)) dX7_ofSum_21 ⟨Nat.le_of_ble_eq_true rfl, Nat.le_of_ble_eq_true rfl⟩) hD hS hA (fun _ => rfl) (fun r u H locs hw hP hD hS => ?_)
  subst hw
  have hP : va_P (gD g) zCl [] H := hP
  have hD : va_D A [] := hD
  refine lv_if_eq (tgt := 34) hx hb dX7_ofSum_24 (by decide) (fun zc6 => ?_) (fun zc6 => ?_)
  · have hF := z_pos hF zc6
    refine lv_lload hx hb dX7_ofSum_34 (lv_at hl 0 rfl) ?_
    refine lv_lload hx hb dX7_ofSum_36 (lv_at hl 1 rfl) ?_
    refine lv_lmul hx hb dX7_ofSum_38 ?_
    have ho := (Option.some.inj hF).symm
    exact W.lret (v := (zv3 * zo1)) hx hb hr (fun t ht hW => ⟨⟨(zv3 * zo1), (), rfl, ho, z_end ht hP⟩, hS.F ht⟩) hS.2.2 dX7_ofSum_39
  · have hF := z_neg hF zc6
    refine lv_lload hx hb dX7_ofSum_27 (lv_at hl 0 rfl) ?_
    refine lv_lconst (v := 1) hx hb dX7_ofSum_29 (by decide) ?_
    refine lv_ladd hx hb dX7_ofSum_30 ?_
    refine lv_goto (tgt := 36) hx hb dX7_ofSum_31 (by decide) ?_
    refine lv_lload hx hb dX7_ofSum_36 (lv_at hl 1 rfl) ?_
    refine lv_lmul hx hb dX7_ofSum_38 ?_
    have ho := (Option.some.inj hF).symm
    exact W.lret (v := ((zv3 + 1) * zo1)) hx hb hr (fun t ht hW => ⟨⟨((zv3 + 1) * zo1), (), rfl, ho, z_end ht hP⟩, hS.F ht⟩) hS.2.2 dX7_ofSum_39
abbrev w_X7_ofQuotient : List Cond := .code yX7_ofQuotient cX7_ofQuotient 12 (some .long) :: wU
abbrev r_X7_ofQuotient : Room := { frames := 1, cells := 0, slots := 0, locals := 28 }
abbrev q_X7_ofQuotient (g : GG) (o : Int64) (A : Nat → Prop) := va_Ql (fun (r : Int64) (u : Unit) => o = r) (fun u t => va_P (gD g) zCl [] t.heap) A
set_option maxHeartbeats 4000000 in
set_option maxRecDepth 100000 in
theorem c_X7_ofQuotient (l : Launch) (g : GG) (sz : Nat) (p0 : Int32) (p1 : Int32) (p2 : Int32) (p3 : Int32) (o : Int64) (hF : F_X7_ofQuotient p0 p1 p2 p3 = some o) : Met l yX7_ofQuotient w_X7_ofQuotient r_X7_ofQuotient (va_Pc [.int p0, .int p1, .int p2, .int p3] (zP g [] sz)) (q_X7_ofQuotient g o (va_A [] sz)) 0 0 (va_A [] sz) := by
  refine Met.ofW (cc := cX7_ofQuotient) (maxL := 12) (ret := (some .long)) (by decide) rfl ?_
  intro p e s m args below meth c s₁ B hml hv
  obtain ⟨rfl, rfl, hP, hK, hD0, hB⟩ := hv
  have hx := B.exec
  have hb := B.bytes
  have hr := B.returns
  have hts : ∀ w ∈ wU, w.before _ s = true := fun w h => atoms_spec (ws := w_X7_ofQuotient) B.pre w (List.mem_cons_of_mem _ h)
  have hown : s.vm.findClass RX7 = some m.cls := findClass_of_methodNamed B.named
  have hlocks := B.notSynchronized
  have hD := hD0.self (sz := s.heap.size)
  generalize hAe : va_A [] s.heap.size = A at hD hB ⊢
  have hA : ∀ q : Nat, s.heap.size ≤ q → A q := fun q h => by rw [← hAe]; exact Or.inr h
  have hS : va_S A s.heap s.heap [] := va_S.rf
  have hl := lv_entry ([.int p0, .int p1, .int p2, .int p3]) (n := 12) (Nat.le_of_ble_eq_true rfl)
  rw [lg_entry_eq]
  generalize (lg_sl ([.int p0, .int p1, .int p2, .int p3]) ++ List.replicate (12 - (lg_sl ([.int p0, .int p1, .int p2, .int p3])).length) Slot.unset).toArray = ls at hl ⊢
  have hl : lv_has ls 12 [(0, .int p0), (1, .int p1), (2, .int p2), (3, .int p3)] := hl
  unfold F_X7_ofQuotient at hF
  refine lv_iload_n hx hb dX7_ofQuotient_0 rfl (lv_at hl 2 rfl) ?_
  obtain ⟨zo1, hzo1, hF⟩ := z_bind hF
  refine z_calllE (fun (_ : Unit) => []) (va_runS (As := [.int p2]) (rest := []) ⟨hx, hb, hml, hown, hts⟩ (c_X7_stepOf l g _ p2 _ hzo1) (va_cwS 1 hts (gdS mU_360 mU_343 mU_88 mU_344) rfl rfl rfl (by decide +kernel) ⟨Nat.le_of_ble_eq_true rfl, Nat.le_of_ble_eq_true rfl⟩) ⟨z_blind _ _ _ _, fun U hU hW => z_preE hP hD hK hB hS hA hU hW⟩ rfl rfl hl.1 rfl (lv_room (Nat.le_of_ble_eq_true rfl)) dX7_ofQuotient_1 ⟨Nat.le_of_ble_eq_true rfl, Nat.le_of_ble_eq_true rfl⟩) hD hS hA (fun _ => rfl) (fun r u H locs hw hP hD hS => ?_)
  subst hw
  have hP : va_P (gD g) zCl [] H := hP
  have hD : va_D A [] := hD
  refine lv_lstore (lv' := [(4, .long zo1), (0, .int p0), (1, .int p1), (2, .int p2), (3, .int p3)]) hx hb dX7_ofQuotient_4 hl (by decide) rfl (fun ls hl => ?_)
  refine lv_iload_n hx hb dX7_ofQuotient_6 rfl (lv_at hl 1 rfl) ?_
  refine lv_i2l (v := (Int32.toInt64 p0)) hx hb dX7_ofQuotient_7 rfl ?_
  refine lv_ldc2 (v := 10000) hx hb hown (hts _ mU_345) dX7_ofQuotient_8 ?_
  refine lv_lmul hx hb dX7_ofQuotient_11 ?_
  obtain ⟨zv2, ezv2, hF⟩ := z_let hF
  refine z_topl ezv2 ?_
  refine lv_lstore (lv' := [(6, .long zv2), (4, .long zo1), (0, .int p0), (1, .int p1), (2, .int p2), (3, .int p3)]) hx hb dX7_ofQuotient_12 hl (by decide) rfl (fun ls hl => ?_)
  refine lv_iload_n hx hb dX7_ofQuotient_14 rfl (lv_at hl 3 rfl) ?_
  refine lv_i2l (v := (Int32.toInt64 p1)) hx hb dX7_ofQuotient_15 rfl ?_
  refine lv_lload hx hb dX7_ofQuotient_16 (lv_at hl 1 rfl) ?_
  refine lv_lmul hx hb dX7_ofQuotient_18 ?_
  obtain ⟨zv3, ezv3, hF⟩ := z_let hF
  refine z_topl ezv3 ?_
  refine lv_lstore (lv' := [(8, .long zv3), (6, .long zv2), (4, .long zo1), (0, .int p0), (1, .int p1), (2, .int p2), (3, .int p3)]) hx hb dX7_ofQuotient_19 hl (by decide) rfl (fun ls hl => ?_)
  refine lv_lload hx hb dX7_ofQuotient_21 (lv_at hl 0 rfl) ?_
  refine lv_lconst (v := 1) hx hb dX7_ofQuotient_23 (by decide) ?_
  refine z_lcmp_ge (tgt := 30) hx hb dX7_ofQuotient_24 dX7_ofQuotient_25 (by decide) (fun zc4 => ?_) (fun zc4 => ?_)
  · have hF := z_neg hF zc4
    refine lv_lload hx hb dX7_ofQuotient_30 (lv_at hl 1 rfl) ?_
    refine lv_lload hx hb dX7_ofQuotient_32 (lv_at hl 0 rfl) ?_
    obtain ⟨zg5, hF⟩ := z_grd hF
    refine lv_ldiv hx hb dX7_ofQuotient_34 zg5 ?_
    obtain ⟨zv6, ezv6, hF⟩ := z_let hF
    refine z_topl ezv6 ?_
    refine lv_lstore (lv' := [(10, .long zv6), (8, .long zv3), (6, .long zv2), (4, .long zo1), (0, .int p0), (1, .int p1), (2, .int p2), (3, .int p3)]) hx hb dX7_ofQuotient_35 hl (by decide) rfl (fun ls hl => ?_)
    refine lv_lload hx hb dX7_ofQuotient_37 (lv_at hl 0 rfl) ?_
    refine lv_lload hx hb dX7_ofQuotient_39 (lv_at hl 2 rfl) ?_
    refine lv_lload hx hb dX7_ofQuotient_41 (lv_at hl 1 rfl) ?_
    obtain ⟨zg7, hF⟩ := z_grd hF
    refine lv_lrem hx hb dX7_ofQuotient_43 zg7 ?_
    refine lv_lload hx hb dX7_ofQuotient_44 (lv_at hl 1 rfl) ?_
    refine lv_iload_n hx hb dX7_ofQuotient_46 rfl (lv_at hl 7 rfl) ?_
    obtain ⟨zo8, hzo8, hF⟩ := z_bind hF
    refine z_calliE (fun (_ : Unit) => []) (va_runS (As := [.long zv6, .long (zv2 - zv2 / zv3 * zv3), .long zv3, .int p3]) (rest := []) ⟨hx, hb, hml, hown, hts⟩ (c_X7_goesAbove l g _ zv6 (zv2 - zv2 / zv3 * zv3) zv3 p3 _ hzo8) (va_cwS 4 hts (gdS mU_361 mU_362 mU_88 mU_363) rfl rfl rfl (by decide +kernel) ⟨Nat.le_of_ble_eq_true rfl, Nat.le_of_ble_eq_true rfl⟩) ⟨z_blind _ _ _ _, fun U hU hW => z_preE hP hD hK hB hS hA hU hW⟩ rfl rfl hl.1 rfl (lv_room (Nat.le_of_ble_eq_true rfl)) dX7_ofQuotient_47 ⟨Nat.le_of_ble_eq_true rfl, Nat.le_of_ble_eq_true rfl⟩) hD hS hA (fun _ => rfl) (fun r u H locs hw hP hD hS => ?_)
    subst hw
    have hP : va_P (gD g) zCl [] H := hP
    have hD : va_D A [] := hD
    refine lv_if_eq (tgt := 60) hx hb dX7_ofQuotient_50 (by decide) (fun zc9 => ?_) (fun zc9 => ?_)
    · have hF := z_pos hF zc9
      refine lv_lload hx hb dX7_ofQuotient_60 (lv_at hl 0 rfl) ?_
      refine lv_lload hx hb dX7_ofQuotient_62 (lv_at hl 3 rfl) ?_
      refine lv_lmul hx hb dX7_ofQuotient_64 ?_
      have ho := (Option.some.inj hF).symm
      exact W.lret (v := (zv6 * zo1)) hx hb hr (fun t ht hW => ⟨⟨(zv6 * zo1), (), rfl, ho, z_end ht hP⟩, hS.F ht⟩) hS.2.2 dX7_ofQuotient_65
    · have hF := z_neg hF zc9
      refine lv_lload hx hb dX7_ofQuotient_53 (lv_at hl 0 rfl) ?_
      refine lv_lconst (v := 1) hx hb dX7_ofQuotient_55 (by decide) ?_
      refine lv_ladd hx hb dX7_ofQuotient_56 ?_
      refine lv_goto (tgt := 62) hx hb dX7_ofQuotient_57 (by decide) ?_
      refine lv_lload hx hb dX7_ofQuotient_62 (lv_at hl 3 rfl) ?_
      refine lv_lmul hx hb dX7_ofQuotient_64 ?_
      have ho := (Option.some.inj hF).symm
      exact W.lret (v := ((zv6 + 1) * zo1)) hx hb hr (fun t ht hW => ⟨⟨((zv6 + 1) * zo1), (), rfl, ho, z_end ht hP⟩, hS.F ht⟩) hS.2.2 dX7_ofQuotient_65
  · have hF := z_pos hF zc4
    refine lv_lconst (v := 0) hx hb dX7_ofQuotient_28 (by decide) ?_
    have ho := (Option.some.inj hF).symm
    exact W.lret (v := 0) hx hb hr (fun t ht hW => ⟨⟨0, (), rfl, ho, z_end ht hP⟩, hS.F ht⟩) hS.2.2 dX7_ofQuotient_29
