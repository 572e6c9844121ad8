abbrev w_X5_commonDivisor : List Cond := .code yX5_commonDivisor cX5_commonDivisor 6 (some .int) :: wU
abbrev r_X5_commonDivisor : Room := { frames := 0, cells := 0, slots := 0, locals := 0 }
abbrev q_X5_commonDivisor (g : GG) (o : Int32) (A : Nat → Prop) := va_Qi (fun (r : Int32) (u : Unit) => o = r) (fun u t => va_P (gD g) zCl [] t.heap) A
set_option maxHeartbeats 4000000 in
set_option maxRecDepth 100000 in
theorem c_X5_commonDivisor (l : Launch) (g : GG) (sz : Nat) (p0 : Int32) (p1 : Int32) (fu : Nat) (o : Int32) (hF : F_X5_commonDivisor fu p0 p1 = some o) : Met l yX5_commonDivisor w_X5_commonDivisor r_X5_commonDivisor (va_Pc [.int p0, .int p1] (zP g [] sz)) (q_X5_commonDivisor g o (va_A [] sz)) 0 0 (va_A [] sz) := by
  refine Met.ofW (cc := cX5_commonDivisor) (maxL := 6) (ret := (some .int)) (by decide) rfl ?_
  intro p e s m args below meth c s₁ B hml hv
  obtain ⟨rfl, rfl, hP, hK, hD0, hB⟩ := hv
  have hx := B.exec
  have hb := B.bytes
  have hr := B.returns
  have hts : ∀ w ∈ wU, w.before _ s = true := fun w h => atoms_spec (ws := w_X5_commonDivisor) B.pre w (List.mem_cons_of_mem _ h)
  have hown : s.vm.findClass RX5 = some m.cls := findClass_of_methodNamed B.named
  have hlocks := B.notSynchronized
  have hD := hD0.self (sz := s.heap.size)
  generalize hAe : va_A [] s.heap.size = A at hD hB ⊢
  have hA : ∀ q : Nat, s.heap.size ≤ q → A q := fun q h => by rw [← hAe]; exact Or.inr h
  have hS : va_S A s.heap s.heap [] := va_S.rf
  have hl := lv_entry ([.int p0, .int p1]) (n := 6) (Nat.le_of_ble_eq_true rfl)
  rw [lg_entry_eq]
  generalize (lg_sl ([.int p0, .int p1]) ++ List.replicate (6 - (lg_sl ([.int p0, .int p1])).length) Slot.unset).toArray = ls at hl ⊢
  have hl : lv_has ls 6 [(0, .int p0), (1, .int p1)] := hl
  unfold F_X5_commonDivisor at hF
  have K7 : ∀ (n7 : Nat) (x2 : Int32) (x3 : Int32) (x4 : Int32), F_X5_commonDivisor_7 fu n7 x2 x3 x4 = some o → ∀ (H : Heap) (locs : List Loc) (ls : Array Slot), lv_has ls 6 [(2, .int x2), (3, .int x3), (4, .int x4)] → va_P (gD g) zCl [] H → va_D A [] → va_S A s.heap H locs → W p l e (headSpec w_X5_commonDivisor r_X5_commonDivisor).room s m ([.int p0, .int p1] : List Value).toArray below meth c H locs 0 0 (MQ below (q_X5_commonDivisor g o A) ([.int p0, .int p1] : List Value).toArray s 0 0 A) (F0 m 7 ls []) := by
    intro n7
    induction n7 with
    | zero =>
      intro x2 x3 x4 hF
      exact absurd hF (by simp [F_X5_commonDivisor_7])
    | succ n7 ih7 =>
      intro x2 x3 x4 hF H locs ls hl hP hD hS
      unfold F_X5_commonDivisor_7 at hF
      refine lv_iload hx hb dX5_commonDivisor_7 (lv_at hl 2 rfl) ?_
      refine lv_bipush (v := 100) hx hb dX5_commonDivisor_9 (by decide) ?_
      refine lv_icmp_ge (tgt := 34) hx hb dX5_commonDivisor_11 (by decide) (fun zc1 => ?_) (fun zc1 => ?_)
      · have hF := z_pos hF zc1
        refine lv_iload_n hx hb dX5_commonDivisor_34 rfl (lv_at hl 0 rfl) ?_
        have ho := (Option.some.inj hF).symm
        exact W.iret (v := x2) hx hb hr (fun t ht hW => ⟨⟨x2, (), rfl, ho, z_end ht hP⟩, hS.F ht⟩) hS.2.2 dX5_commonDivisor_35
      · have hF := z_neg hF zc1
        refine lv_iload_n hx hb dX5_commonDivisor_14 rfl (lv_at hl 1 rfl) ?_
        refine lv_if_eq (tgt := 34) hx hb dX5_commonDivisor_15 (by decide) (fun zc2 => ?_) (fun zc2 => ?_)
        · have hF := z_pos hF zc2
          refine lv_iload_n hx hb dX5_commonDivisor_34 rfl (lv_at hl 0 rfl) ?_
          have ho := (Option.some.inj hF).symm
          exact W.iret (v := x2) hx hb hr (fun t ht hW => ⟨⟨x2, (), rfl, ho, z_end ht hP⟩, hS.F ht⟩) hS.2.2 dX5_commonDivisor_35
        · have hF := z_neg hF zc2
          refine lv_iload_n hx hb dX5_commonDivisor_18 rfl (lv_at hl 0 rfl) ?_
          refine lv_iload_n hx hb dX5_commonDivisor_19 rfl (lv_at hl 1 rfl) ?_
          obtain ⟨zg3, hF⟩ := z_grd hF
          refine lv_irem hx hb dX5_commonDivisor_20 zg3 ?_
          obtain ⟨zv4, ezv4, hF⟩ := z_let hF
          refine z_topi ezv4 ?_
          refine lv_istore (lv' := [(5, .int zv4), (2, .int x2), (3, .int x3), (4, .int x4)]) hx hb dX5_commonDivisor_21 hl (by decide) rfl (fun ls hl => ?_)
          refine lv_iload_n hx hb dX5_commonDivisor_23 rfl (lv_at hl 2 rfl) ?_
          refine lv_istore_n (lv' := [(2, .int x3), (5, .int zv4), (3, .int x3), (4, .int x4)]) hx hb dX5_commonDivisor_24 rfl hl (by decide) rfl (fun ls hl => ?_)
          refine lv_iload hx hb dX5_commonDivisor_25 (lv_at hl 1 rfl) ?_
          refine lv_istore_n (lv' := [(3, .int zv4), (2, .int x3), (5, .int zv4), (4, .int x4)]) hx hb dX5_commonDivisor_27 rfl hl (by decide) rfl (fun ls hl => ?_)
          obtain ⟨zv5, ezv5, hF⟩ := z_let hF
          refine lv_iinc (v := zv5) (lv' := [(4, .int zv5), (3, .int zv4), (2, .int x3), (5, .int zv4)]) hx hb dX5_commonDivisor_28 hl (k := 3) rfl (by rw [ezv5]; rfl) (by decide) rfl (fun ls hl => ?_)
          refine lv_goto (tgt := 7) hx hb dX5_commonDivisor_31 (by decide) ?_
          exact ih7 x3 zv4 zv5 hF _ _ _ (lv_sub hl [2, 1, 0] rfl) hP hD hS
  refine lv_iload_n hx hb dX5_commonDivisor_0 rfl (lv_at hl 0 rfl) ?_
  refine lv_istore_n (lv' := [(2, .int p0), (0, .int p0), (1, .int p1)]) hx hb dX5_commonDivisor_1 rfl hl (by decide) rfl (fun ls hl => ?_)
  refine lv_iload_n hx hb dX5_commonDivisor_2 rfl (lv_at hl 2 rfl) ?_
  refine lv_istore_n (lv' := [(3, .int p1), (2, .int p0), (0, .int p0), (1, .int p1)]) hx hb dX5_commonDivisor_3 rfl hl (by decide) rfl (fun ls hl => ?_)
  refine lv_iconst (v := 0) hx hb dX5_commonDivisor_4 (by decide) ?_
  refine lv_istore (lv' := [(4, .int 0), (3, .int p1), (2, .int p0), (0, .int p0), (1, .int p1)]) hx hb dX5_commonDivisor_5 hl (by decide) rfl (fun ls hl => ?_)
  exact K7 fu p0 p1 0 hF _ _ _ (lv_sub hl [2, 1, 0] rfl) hP hD hS
abbrev w_X5_without : List Cond := .code yX5_without cX5_without 4 (some .int) :: wU
abbrev r_X5_without : Room := { frames := 0, cells := 0, slots := 0, locals := 0 }
abbrev q_X5_without (g : GG) (o : Int32) (A : Nat → Prop) := va_Qi (fun (r : Int32) (u : Unit) => o = r) (fun u t => va_P (gD g) zCl [] t.heap) A
set_option maxHeartbeats 4000000 in
set_option maxRecDepth 100000 in
theorem c_X5_without (l : Launch) (g : GG) (sz : Nat) (p0 : Int32) (p1 : Int32) (fu : Nat) (o : Int32) (hF : F_X5_without fu p0 p1 = some o) : Met l yX5_without w_X5_without r_X5_without (va_Pc [.int p0, .int p1] (zP g [] sz)) (q_X5_without g o (va_A [] sz)) 0 0 (va_A [] sz) := by
  refine Met.ofW (cc := cX5_without) (maxL := 4) (ret := (some .int)) (by decide) rfl ?_
  intro p e s m args below meth c s₁ B hml hv
  obtain ⟨rfl, rfl, hP, hK, hD0, hB⟩ := hv
  have hx := B.exec
  have hb := B.bytes
  have hr := B.returns
  have hts : ∀ w ∈ wU, w.before _ s = true := fun w h => atoms_spec (ws := w_X5_without) B.pre w (List.mem_cons_of_mem _ h)
  have hown : s.vm.findClass RX5 = some m.cls := findClass_of_methodNamed B.named
  have hlocks := B.notSynchronized
  have hD := hD0.self (sz := s.heap.size)
  generalize hAe : va_A [] s.heap.size = A at hD hB ⊢
  have hA : ∀ q : Nat, s.heap.size ≤ q → A q := fun q h => by rw [← hAe]; exact Or.inr h
  have hS : va_S A s.heap s.heap [] := va_S.rf
  have hl := lv_entry ([.int p0, .int p1]) (n := 4) (Nat.le_of_ble_eq_true rfl)
  rw [lg_entry_eq]
  generalize (lg_sl ([.int p0, .int p1]) ++ List.replicate (4 - (lg_sl ([.int p0, .int p1])).length) Slot.unset).toArray = ls at hl ⊢
  have hl : lv_has ls 4 [(0, .int p0), (1, .int p1)] := hl
  unfold F_X5_without at hF
  have K4 : ∀ (n4 : Nat) (x2 : Int32) (x3 : Int32), F_X5_without_4 fu n4 p0 x2 x3 = some o → ∀ (H : Heap) (locs : List Loc) (ls : Array Slot), lv_has ls 4 [(0, .int p0), (2, .int x2), (3, .int x3)] → va_P (gD g) zCl [] H → va_D A [] → va_S A s.heap H locs → W p l e (headSpec w_X5_without r_X5_without).room s m ([.int p0, .int p1] : List Value).toArray below meth c H locs 0 0 (MQ below (q_X5_without g o A) ([.int p0, .int p1] : List Value).toArray s 0 0 A) (F0 m 4 ls []) := by
    intro n4
    induction n4 with
    | zero =>
      intro x2 x3 hF
      exact absurd hF (by simp [F_X5_without_4])
    | succ n4 ih4 =>
      intro x2 x3 hF H locs ls hl hP hD hS
      unfold F_X5_without_4 at hF
      refine lv_iload_n hx hb dX5_without_4 rfl (lv_at hl 2 rfl) ?_
      refine lv_bipush (v := 10) hx hb dX5_without_5 (by decide) ?_
      refine lv_icmp_ge (tgt := 26) hx hb dX5_without_7 (by decide) (fun zc1 => ?_) (fun zc1 => ?_)
      · have hF := z_pos hF zc1
        refine lv_iload_n hx hb dX5_without_26 rfl (lv_at hl 1 rfl) ?_
        have ho := (Option.some.inj hF).symm
        exact W.iret (v := x2) hx hb hr (fun t ht hW => ⟨⟨x2, (), rfl, ho, z_end ht hP⟩, hS.F ht⟩) hS.2.2 dX5_without_27
      · have hF := z_neg hF zc1
        refine lv_iload_n hx hb dX5_without_10 rfl (lv_at hl 1 rfl) ?_
        refine lv_iload_n hx hb dX5_without_11 rfl (lv_at hl 0 rfl) ?_
        obtain ⟨zg2, hF⟩ := z_grd hF
        refine lv_irem hx hb dX5_without_12 zg2 ?_
        refine lv_if_ne (tgt := 26) hx hb dX5_without_13 (by decide) (fun zc3 => ?_) (fun zc3 => ?_)
        · have hF := z_neg hF zc3
          refine lv_iload_n hx hb dX5_without_26 rfl (lv_at hl 1 rfl) ?_
          have ho := (Option.some.inj hF).symm
          exact W.iret (v := x2) hx hb hr (fun t ht hW => ⟨⟨x2, (), rfl, ho, z_end ht hP⟩, hS.F ht⟩) hS.2.2 dX5_without_27
        · have hF := z_pos hF zc3
          refine lv_iload_n hx hb dX5_without_16 rfl (lv_at hl 1 rfl) ?_
          refine lv_iload_n hx hb dX5_without_17 rfl (lv_at hl 0 rfl) ?_
          obtain ⟨zg4, hF⟩ := z_grd hF
          refine lv_idiv hx hb dX5_without_18 zg4 ?_
          obtain ⟨zv5, ezv5, hF⟩ := z_let hF
          refine z_topi ezv5 ?_
          refine lv_istore_n (lv' := [(2, .int zv5), (0, .int p0), (3, .int x3)]) hx hb dX5_without_19 rfl hl (by decide) rfl (fun ls hl => ?_)
          obtain ⟨zv6, ezv6, hF⟩ := z_let hF
          refine lv_iinc (v := zv6) (lv' := [(3, .int zv6), (2, .int zv5), (0, .int p0)]) hx hb dX5_without_20 hl (k := 2) rfl (by rw [ezv6]; rfl) (by decide) rfl (fun ls hl => ?_)
          refine lv_goto (tgt := 4) hx hb dX5_without_23 (by decide) ?_
          exact ih4 zv5 zv6 hF _ _ _ (lv_sub hl [2, 1, 0] rfl) hP hD hS
  refine lv_iload_n hx hb dX5_without_0 rfl (lv_at hl 1 rfl) ?_
  refine lv_istore_n (lv' := [(2, .int p1), (0, .int p0), (1, .int p1)]) hx hb dX5_without_1 rfl hl (by decide) rfl (fun ls hl => ?_)
  refine lv_iconst (v := 0) hx hb dX5_without_2 (by decide) ?_
  refine lv_istore_n (lv' := [(3, .int 0), (2, .int p1), (0, .int p0), (1, .int p1)]) hx hb dX5_without_3 rfl hl (by decide) rfl (fun ls hl => ?_)
  exact K4 fu p1 0 hF _ _ _ (lv_sub hl [2, 1, 0] rfl) hP hD hS
abbrev w_X5_recurringFactor : List Cond := .code yX5_recurringFactor cX5_recurringFactor 4 (some .int) :: wU
abbrev r_X5_recurringFactor : Room := { frames := 1, cells := 0, slots := 0, locals := 25 }
abbrev q_X5_recurringFactor (g : GG) (o : Int32) (A : Nat → Prop) := va_Qi (fun (r : Int32) (u : Unit) => o = r) (fun u t => va_P (gD g) zCl [] t.heap) A
set_option maxHeartbeats 4000000 in
set_option maxRecDepth 100000 in
theorem c_X5_recurringFactor (l : Launch) (g : GG) (sz : Nat) (p0 : Int32) (p1 : Int32) (fu : Nat) (o : Int32) (hF : F_X5_recurringFactor fu p0 p1 = some o) : Met l yX5_recurringFactor w_X5_recurringFactor r_X5_recurringFactor (va_Pc [.int p0, .int p1] (zP g [] sz)) (q_X5_recurringFactor g o (va_A [] sz)) 0 0 (va_A [] sz) := by
  refine Met.ofW (cc := cX5_recurringFactor) (maxL := 4) (ret := (some .int)) (by decide) rfl ?_
  intro p e s m args below meth c s₁ B hml hv
  obtain ⟨rfl, rfl, hP, hK, hD0, hB⟩ := hv
  have hx := B.exec
  have hb := B.bytes
  have hr := B.returns
  have hts : ∀ w ∈ wU, w.before _ s = true := fun w h => atoms_spec (ws := w_X5_recurringFactor) B.pre w (List.mem_cons_of_mem _ h)
  have hown : s.vm.findClass RX5 = some m.cls := findClass_of_methodNamed B.named
  have hlocks := B.notSynchronized
  have hD := hD0.self (sz := s.heap.size)
  generalize hAe : va_A [] s.heap.size = A at hD hB ⊢
  have hA : ∀ q : Nat, s.heap.size ≤ q → A q := fun q h => by rw [← hAe]; exact Or.inr h
  have hS : va_S A s.heap s.heap [] := va_S.rf
  have hl := lv_entry ([.int p0, .int p1]) (n := 4) (Nat.le_of_ble_eq_true rfl)
  rw [lg_entry_eq]
  generalize (lg_sl ([.int p0, .int p1]) ++ List.replicate (4 - (lg_sl ([.int p0, .int p1])).length) Slot.unset).toArray = ls at hl ⊢
  have hl : lv_has ls 4 [(0, .int p0), (1, .int p1)] := hl
  unfold F_X5_recurringFactor at hF
  refine lv_iload_n hx hb dX5_recurringFactor_0 rfl (lv_at hl 0 rfl) ?_
  refine lv_iload_n hx hb dX5_recurringFactor_1 rfl (lv_at hl 1 rfl) ?_
  obtain ⟨zo1, hzo1, hF⟩ := z_bind hF
  refine z_calliE (fun (_ : Unit) => []) (va_runS (As := [.int p0, .int p1]) (rest := []) ⟨hx, hb, hml, hown, hts⟩ (c_X5_commonDivisor l g _ p0 p1 fu _ hzo1) (va_cwS 2 hts (gdS mU_989 mU_990 mU_69 mU_991) rfl rfl rfl (by decide +kernel) ⟨Nat.le_of_ble_eq_true rfl, Nat.le_of_ble_eq_true rfl⟩) ⟨z_blind _ _ _ _, fun U hU hW => z_preE hP hD hK hB hS hA hU hW⟩ rfl rfl hl.1 rfl (lv_room (Nat.le_of_ble_eq_true rfl)) dX5_recurringFactor_2 ⟨Nat.le_of_ble_eq_true rfl, Nat.le_of_ble_eq_true rfl⟩) hD hS hA (fun _ => rfl) (fun r u H locs hw hP hD hS => ?_)
  subst hw
  have hP : va_P (gD g) zCl [] H := hP
  have hD : va_D A [] := hD
  refine lv_istore_n (lv' := [(2, .int zo1), (0, .int p0), (1, .int p1)]) hx hb dX5_recurringFactor_5 rfl hl (by decide) rfl (fun ls hl => ?_)
  refine lv_iload_n hx hb dX5_recurringFactor_6 rfl (lv_at hl 0 rfl) ?_
  refine lv_iconst (v := 1) hx hb dX5_recurringFactor_7 (by decide) ?_
  refine lv_icmp_ge (tgt := 15) hx hb dX5_recurringFactor_8 (by decide) (fun zc2 => ?_) (fun zc2 => ?_)
  · have hF := z_pos hF zc2
    refine lv_iload_n hx hb dX5_recurringFactor_15 rfl (lv_at hl 2 rfl) ?_
    refine lv_iload_n hx hb dX5_recurringFactor_16 rfl (lv_at hl 0 rfl) ?_
    obtain ⟨zg3, hF⟩ := z_grd hF
    refine lv_idiv hx hb dX5_recurringFactor_17 zg3 ?_
    obtain ⟨zv4, ezv4, hF⟩ := z_let hF
    refine z_topi ezv4 ?_
    refine lv_istore_n (lv' := [(3, .int zv4), (2, .int zo1), (0, .int p0), (1, .int p1)]) hx hb dX5_recurringFactor_18 rfl hl (by decide) rfl (fun ls hl => ?_)
    refine lv_iconst (v := 5) hx hb dX5_recurringFactor_19 (by decide) ?_
    refine lv_iconst (v := 2) hx hb dX5_recurringFactor_20 (by decide) ?_
    refine lv_iload_n hx hb dX5_recurringFactor_21 rfl (lv_at hl 0 rfl) ?_
    obtain ⟨zo5, hzo5, hF⟩ := z_bind hF
    refine z_calliE (fun (_ : Unit) => []) (va_runS (As := [.int 2, .int zv4]) (rest := [.int 5]) ⟨hx, hb, hml, hown, hts⟩ (c_X5_without l g _ 2 zv4 fu _ hzo5) (va_cwS 2 hts (gdS mU_992 mU_993 mU_69 mU_994) rfl rfl rfl (by decide +kernel) ⟨Nat.le_of_ble_eq_true rfl, Nat.le_of_ble_eq_true rfl⟩) ⟨z_blind _ _ _ _, fun U hU hW => z_preE hP hD hK hB hS hA hU hW⟩ rfl rfl hl.1 rfl (lv_room (Nat.le_of_ble_eq_true rfl)) dX5_recurringFactor_22 ⟨Nat.le_of_ble_eq_true rfl, Nat.le_of_ble_eq_true rfl⟩) hD hS hA (fun _ => rfl) (fun r u H locs hw hP hD hS => ?_)
    subst hw
    have hP : va_P (gD g) zCl [] H := hP
    have hD : va_D A [] := hD
    obtain ⟨zo6, hzo6, hF⟩ := z_bind hF
    refine z_calliE (fun (_ : Unit) => []) (va_runS (As := [.int 5, .int zo5]) (rest := []) ⟨hx, hb, hml, hown, hts⟩ (c_X5_without l g _ 5 zo5 fu _ hzo6) (va_cwS 2 hts (gdS mU_992 mU_993 mU_69 mU_994) rfl rfl rfl (by decide +kernel) ⟨Nat.le_of_ble_eq_true rfl, Nat.le_of_ble_eq_true rfl⟩) ⟨z_blind _ _ _ _, fun U hU hW => z_preE hP hD hK hB hS hA hU hW⟩ rfl rfl hl.1 rfl (lv_room (Nat.le_of_ble_eq_true rfl)) dX5_recurringFactor_25 ⟨Nat.le_of_ble_eq_true rfl, Nat.le_of_ble_eq_true rfl⟩) hD hS hA (fun _ => rfl) (fun r u H locs hw hP hD hS => ?_)
    subst hw
    have hP : va_P (gD g) zCl [] H := hP
    have hD : va_D A [] := hD
    have ho := (Option.some.inj hF).symm
    exact W.iret (v := zo6) hx hb hr (fun t ht hW => ⟨⟨zo6, (), rfl, ho, z_end ht hP⟩, hS.F ht⟩) hS.2.2 dX5_recurringFactor_28
  · have hF := z_neg hF zc2
    refine lv_iload_n hx hb dX5_recurringFactor_11 rfl (lv_at hl 2 rfl) ?_
    refine lv_goto (tgt := 18) hx hb dX5_recurringFactor_12 (by decide) ?_
    refine lv_istore_n (lv' := [(3, .int p1), (2, .int zo1), (0, .int p0), (1, .int p1)]) hx hb dX5_recurringFactor_18 rfl hl (by decide) rfl (fun ls hl => ?_)
    refine lv_iconst (v := 5) hx hb dX5_recurringFactor_19 (by decide) ?_
    refine lv_iconst (v := 2) hx hb dX5_recurringFactor_20 (by decide) ?_
    refine lv_iload_n hx hb dX5_recurringFactor_21 rfl (lv_at hl 0 rfl) ?_
    obtain ⟨zo7, hzo7, hF⟩ := z_bind hF
    refine z_calliE (fun (_ : Unit) => []) (va_runS (As := [.int 2, .int p1]) (rest := [.int 5]) ⟨hx, hb, hml, hown, hts⟩ (c_X5_without l g _ 2 p1 fu _ hzo7) (va_cwS 2 hts (gdS mU_992 mU_993 mU_69 mU_994) rfl rfl rfl (by decide +kernel) ⟨Nat.le_of_ble_eq_true rfl, Nat.le_of_ble_eq_true rfl⟩) ⟨z_blind _ _ _ _, fun U hU hW => z_preE hP hD hK hB hS hA hU hW⟩ rfl rfl hl.1 rfl (lv_room (Nat.le_of_ble_eq_true rfl)) dX5_recurringFactor_22 ⟨Nat.le_of_ble_eq_true rfl, Nat.le_of_ble_eq_true rfl⟩) hD hS hA (fun _ => rfl) (fun r u H locs hw hP hD hS => ?_)
    subst hw
    have hP : va_P (gD g) zCl [] H := hP
    have hD : va_D A [] := hD
    obtain ⟨zo8, hzo8, hF⟩ := z_bind hF
    refine z_calliE (fun (_ : Unit) => []) (va_runS (As := [.int 5, .int zo7]) (rest := []) ⟨hx, hb, hml, hown, hts⟩ (c_X5_without l g _ 5 zo7 fu _ hzo8) (va_cwS 2 hts (gdS mU_992 mU_993 mU_69 mU_994) rfl rfl rfl (by decide +kernel) ⟨Nat.le_of_ble_eq_true rfl, Nat.le_of_ble_eq_true rfl⟩) ⟨z_blind _ _ _ _, fun U hU hW => z_preE hP hD hK hB hS hA hU hW⟩ rfl rfl hl.1 rfl (lv_room (Nat.le_of_ble_eq_true rfl)) dX5_recurringFactor_25 ⟨Nat.le_of_ble_eq_true rfl, Nat.le_of_ble_eq_true rfl⟩) hD hS hA (fun _ => rfl) (fun r u H locs hw hP hD hS => ?_)
    subst hw
    have hP : va_P (gD g) zCl [] H := hP
    have hD : va_D A [] := hD
    have ho := (Option.some.inj hF).symm
    exact W.iret (v := zo8) hx hb hr (fun t ht hW => ⟨⟨zo8, (), rfl, ho, z_end ht hP⟩, hS.F ht⟩) hS.2.2 dX5_recurringFactor_28
abbrev w_X5_orderOfTen : List Cond := .code yX5_orderOfTen cX5_orderOfTen 3 (some .int) :: wU
abbrev r_X5_orderOfTen : Room := { frames := 0, cells := 0, slots := 0, locals := 0 }
abbrev q_X5_orderOfTen (g : GG) (o : Int32) (A : Nat → Prop) := va_Qi (fun (r : Int32) (u : Unit) => o = r) (fun u t => va_P (gD g) zCl [] t.heap) A
set_option maxHeartbeats 4000000 in
set_option maxRecDepth 100000 in
theorem c_X5_orderOfTen (l : Launch) (g : GG) (sz : Nat) (p0 : Int32) (fu : Nat) (o : Int32) (hF : F_X5_orderOfTen fu p0 = some o) : Met l yX5_orderOfTen w_X5_orderOfTen r_X5_orderOfTen (va_Pc [.int p0] (zP g [] sz)) (q_X5_orderOfTen g o (va_A [] sz)) 0 0 (va_A [] sz) := by
  refine Met.ofW (cc := cX5_orderOfTen) (maxL := 3) (ret := (some .int)) (by decide) rfl ?_
  intro p e s m args below meth c s₁ B hml hv
  obtain ⟨rfl, rfl, hP, hK, hD0, hB⟩ := hv
  have hx := B.exec
  have hb := B.bytes
  have hr := B.returns
  have hts : ∀ w ∈ wU, w.before _ s = true := fun w h => atoms_spec (ws := w_X5_orderOfTen) B.pre w (List.mem_cons_of_mem _ h)
  have hown : s.vm.findClass RX5 = some m.cls := findClass_of_methodNamed B.named
  have hlocks := B.notSynchronized
  have hD := hD0.self (sz := s.heap.size)
  generalize hAe : va_A [] s.heap.size = A at hD hB ⊢
  have hA : ∀ q : Nat, s.heap.size ≤ q → A q := fun q h => by rw [← hAe]; exact Or.inr h
  have hS : va_S A s.heap s.heap [] := va_S.rf
  have hl := lv_entry ([.int p0]) (n := 3) (Nat.le_of_ble_eq_true rfl)
  rw [lg_entry_eq]
  generalize (lg_sl ([.int p0]) ++ List.replicate (3 - (lg_sl ([.int p0])).length) Slot.unset).toArray = ls at hl ⊢
  have hl : lv_has ls 3 [(0, .int p0)] := hl
  unfold F_X5_orderOfTen at hF
  have K14 : ∀ (n14 : Nat) (x1 : Int32) (x2 : Int32), F_X5_orderOfTen_14 fu n14 p0 x1 x2 = some o → ∀ (H : Heap) (locs : List Loc) (ls : Array Slot), lv_has ls 3 [(0, .int p0), (1, .int x1), (2, .int x2)] → va_P (gD g) zCl [] H → va_D A [] → va_S A s.heap H locs → W p l e (headSpec w_X5_orderOfTen r_X5_orderOfTen).room s m ([.int p0] : List Value).toArray below meth c H locs 0 0 (MQ below (q_X5_orderOfTen g o A) ([.int p0] : List Value).toArray s 0 0 A) (F0 m 14 ls []) := by
    intro n14
    induction n14 with
    | zero =>
      intro x1 x2 hF
      exact absurd hF (by simp [F_X5_orderOfTen_14])
    | succ n14 ih14 =>
      intro x1 x2 hF H locs ls hl hP hD hS
      unfold F_X5_orderOfTen_14 at hF
      refine lv_iload_n hx hb dX5_orderOfTen_14 rfl (lv_at hl 2 rfl) ?_
      refine lv_iload_n hx hb dX5_orderOfTen_15 rfl (lv_at hl 0 rfl) ?_
      refine lv_icmp_ge (tgt := 39) hx hb dX5_orderOfTen_16 (by decide) (fun zc1 => ?_) (fun zc1 => ?_)
      · have hF := z_pos hF zc1
        refine lv_iload_n hx hb dX5_orderOfTen_39 rfl (lv_at hl 2 rfl) ?_
        have ho := (Option.some.inj hF).symm
        exact W.iret (v := x2) hx hb hr (fun t ht hW => ⟨⟨x2, (), rfl, ho, z_end ht hP⟩, hS.F ht⟩) hS.2.2 dX5_orderOfTen_40
      · have hF := z_neg hF zc1
        refine lv_iload_n hx hb dX5_orderOfTen_19 rfl (lv_at hl 1 rfl) ?_
        refine lv_iconst (v := 1) hx hb dX5_orderOfTen_20 (by decide) ?_
        refine lv_iload_n hx hb dX5_orderOfTen_21 rfl (lv_at hl 0 rfl) ?_
        obtain ⟨zg2, hF⟩ := z_grd hF
        refine lv_irem hx hb dX5_orderOfTen_22 zg2 ?_
        refine lv_icmp_eq (tgt := 39) hx hb dX5_orderOfTen_23 (by decide) (fun zc3 => ?_) (fun zc3 => ?_)
        · have hF := z_pos hF zc3
          refine lv_iload_n hx hb dX5_orderOfTen_39 rfl (lv_at hl 2 rfl) ?_
          have ho := (Option.some.inj hF).symm
          exact W.iret (v := x2) hx hb hr (fun t ht hW => ⟨⟨x2, (), rfl, ho, z_end ht hP⟩, hS.F ht⟩) hS.2.2 dX5_orderOfTen_40
        · have hF := z_neg hF zc3
          refine lv_iload_n hx hb dX5_orderOfTen_26 rfl (lv_at hl 1 rfl) ?_
          refine lv_bipush (v := 10) hx hb dX5_orderOfTen_27 (by decide) ?_
          refine lv_imul hx hb dX5_orderOfTen_29 ?_
          refine lv_iload_n hx hb dX5_orderOfTen_30 rfl (lv_at hl 0 rfl) ?_
          obtain ⟨zg4, hF⟩ := z_grd hF
          refine lv_irem hx hb dX5_orderOfTen_31 zg4 ?_
          obtain ⟨zv5, ezv5, hF⟩ := z_let hF
          refine z_topi ezv5 ?_
          refine lv_istore_n (lv' := [(1, .int zv5), (0, .int p0), (2, .int x2)]) hx hb dX5_orderOfTen_32 rfl hl (by decide) rfl (fun ls hl => ?_)
          obtain ⟨zv6, ezv6, hF⟩ := z_let hF
          refine lv_iinc (v := zv6) (lv' := [(2, .int zv6), (1, .int zv5), (0, .int p0)]) hx hb dX5_orderOfTen_33 hl (k := 2) rfl (by rw [ezv6]; rfl) (by decide) rfl (fun ls hl => ?_)
          refine lv_goto (tgt := 14) hx hb dX5_orderOfTen_36 (by decide) ?_
          exact ih14 zv5 zv6 hF _ _ _ (lv_sub hl [2, 1, 0] rfl) hP hD hS
  refine lv_iload_n hx hb dX5_orderOfTen_0 rfl (lv_at hl 0 rfl) ?_
  refine lv_iconst (v := 1) hx hb dX5_orderOfTen_1 (by decide) ?_
  refine lv_icmp_ge (tgt := 7) hx hb dX5_orderOfTen_2 (by decide) (fun zc7 => ?_) (fun zc7 => ?_)
  · have hF := z_pos hF zc7
    refine lv_bipush (v := 10) hx hb dX5_orderOfTen_7 (by decide) ?_
    refine lv_iload_n hx hb dX5_orderOfTen_9 rfl (lv_at hl 0 rfl) ?_
    obtain ⟨zg8, hF⟩ := z_grd hF
    refine lv_irem hx hb dX5_orderOfTen_10 zg8 ?_
    obtain ⟨zv9, ezv9, hF⟩ := z_let hF
    refine z_topi ezv9 ?_
    refine lv_istore_n (lv' := [(1, .int zv9), (0, .int p0)]) hx hb dX5_orderOfTen_11 rfl hl (by decide) rfl (fun ls hl => ?_)
    refine lv_iconst (v := 1) hx hb dX5_orderOfTen_12 (by decide) ?_
    refine lv_istore_n (lv' := [(2, .int 1), (1, .int zv9), (0, .int p0)]) hx hb dX5_orderOfTen_13 rfl hl (by decide) rfl (fun ls hl => ?_)
    exact K14 fu zv9 1 hF _ _ _ (lv_sub hl [2, 1, 0] rfl) hP hD hS
  · have hF := z_neg hF zc7
    refine lv_iconst (v := 1) hx hb dX5_orderOfTen_5 (by decide) ?_
    have ho := (Option.some.inj hF).symm
    exact W.iret (v := 1) hx hb hr (fun t ht hW => ⟨⟨1, (), rfl, ho, z_end ht hP⟩, hS.F ht⟩) hS.2.2 dX5_orderOfTen_6
abbrev w_X5_divide : List Cond := .code yX5_divide cX5_divide 5 none :: wU
abbrev r_X5_divide : Room := { frames := 1, cells := 0, slots := 0, locals := 23 }
abbrev q_X5_divide (g : GG) (d0 d1 : Nat) (seen : Nat → Int32) (dbef : Int32) (drec : Int32) (o : (Nat → Int32) × Int32 × Int32) (A : Nat → Prop) := va_Qv (fun (u : (Nat → Int32) × Int32 × Int32) => o = u) (fun u t => va_P (gD g) zCl (wLD g d0 d1 u.1 u.2.1 u.2.2) t.heap) A
set_option maxHeartbeats 4000000 in
set_option maxRecDepth 100000 in
theorem c_X5_divide (l : Launch) (g : GG) (d0 d1 : Nat) (seen : Nat → Int32) (dbef : Int32) (drec : Int32) (sz : Nat) (p1 : Int32) (p2 : Int32) (fu : Nat) (o : (Nat → Int32) × Int32 × Int32) (hF : F_X5_divide fu seen dbef drec p1 p2 = some o) : Met l yX5_divide w_X5_divide r_X5_divide (va_Pc [.ref d0, .int p1, .int p2] (zP g (wLD g d0 d1 seen dbef drec) sz)) (q_X5_divide g d0 d1 seen dbef drec o (va_A (wLD g d0 d1 seen dbef drec) sz)) 0 0 (va_A (wLD g d0 d1 seen dbef drec) sz) := by
  refine Met.ofW (cc := cX5_divide) (maxL := 5) (ret := none) (by decide) rfl ?_
  intro p e s m args below meth c s₁ B hml hv
  obtain ⟨rfl, rfl, hP, hK, hD0, hB⟩ := hv
  have hx := B.exec
  have hb := B.bytes
  have hr := B.returns
  have hts : ∀ w ∈ wU, w.before _ s = true := fun w h => atoms_spec (ws := w_X5_divide) B.pre w (List.mem_cons_of_mem _ h)
  have hown : s.vm.findClass RX5 = some m.cls := findClass_of_methodNamed B.named
  have hlocks := B.notSynchronized
  have hD := hD0.self (sz := s.heap.size)
  generalize hAe : va_A (wLD g d0 d1 seen dbef drec) s.heap.size = A at hD hB ⊢
  have hA : ∀ q : Nat, s.heap.size ≤ q → A q := fun q h => by rw [← hAe]; exact Or.inr h
  have hS : va_S A s.heap s.heap [] := va_S.rf
  have hl := lv_entry ([.ref d0, .int p1, .int p2]) (n := 5) (Nat.le_of_ble_eq_true rfl)
  rw [lg_entry_eq]
  generalize (lg_sl ([.ref d0, .int p1, .int p2]) ++ List.replicate (5 - (lg_sl ([.ref d0, .int p1, .int p2])).length) Slot.unset).toArray = ls at hl ⊢
  have hl : lv_has ls 5 [(0, .ref d0), (1, .int p1), (2, .int p2)] := hl
  unfold F_X5_divide at hF
  have K52 : ∀ (_ : Unit) (seen : Nat → Int32) (dbef : Int32) (drec : Int32) (x3 : Int32) (x4 : Int32), F_X5_divide_52 fu seen dbef drec x3 x4 = some o → ∀ (H : Heap) (locs : List Loc) (ls : Array Slot), lv_has ls 5 [(0, .ref d0), (3, .int x3), (4, .int x4)] → va_P (gD g) zCl (wLD g d0 d1 seen dbef drec) H → va_D A (wLD g d0 d1 seen dbef drec) → va_S A s.heap H locs → W p l e (headSpec w_X5_divide r_X5_divide).room s m ([.ref d0, .int p1, .int p2] : List Value).toArray below meth c H locs 0 0 (MQ below (q_X5_divide g d0 d1 seen dbef drec o A) ([.ref d0, .int p1, .int p2] : List Value).toArray s 0 0 A) (F0 m 52 ls []) := by
    intro _ seen dbef drec x3 x4 hF H locs ls hl hP hD hS
    unfold F_X5_divide_52 at hF
    refine lv_aload_n hx hb dX5_divide_52 rfl (lv_at hl 0 rfl) ?_
    refine lv_aload_n hx hb dX5_divide_53 rfl (lv_at hl 0 rfl) ?_
    refine va_get (D := gD g) (ci := 3) (v := .ref d1) (C := RX5) (T := TX5) (N := 3) hx hb hts inX5 hown hK hP 0 rfl rfl 0 (by decide) (hts _ mU_185) (fun _ h9 => h9) rfl dX5_divide_54 ?_
    refine lv_iload_n hx hb dX5_divide_57 rfl (lv_at hl 1 rfl) ?_
    obtain ⟨zg1, hF⟩ := z_grd hF
    refine va_iald hx hb hK hP 1 1 rfl rfl zg1 dX5_divide_58 ?_
    refine va_put (D := gD g) (ci := 3) (v := .int (seen (Int32.toNatClampNeg x3))) (ty := .int) (C := RX5) (T := TX5) (N := 3) hx hb hts inX5 tyX5 tyX5_ok nmX5 hown hK hP hD hS 0 rfl rfl 1 (by decide) (hts _ mU_186) (fun _ h9 => h9) rfl (by decide +kernel) rfl rfl (Nat.le_of_ble_eq_true rfl) dX5_divide_59 (fun H locs hP hD hS => ?_)
    have hP : va_P (gD g) zCl (wLD g d0 d1 seen (seen (Int32.toNatClampNeg x3)) drec) H := hP
    have hD : va_D A (wLD g d0 d1 seen (seen (Int32.toNatClampNeg x3)) drec) := hD
    refine lv_aload_n hx hb dX5_divide_62 rfl (lv_at hl 0 rfl) ?_
    refine lv_iload hx hb dX5_divide_63 (lv_at hl 2 rfl) ?_
    refine lv_aload_n hx hb dX5_divide_65 rfl (lv_at hl 0 rfl) ?_
    refine va_get (D := gD g) (ci := 3) (v := .int (seen (Int32.toNatClampNeg x3))) (C := RX5) (T := TX5) (N := 3) hx hb hts inX5 hown hK hP 0 rfl rfl 1 (by decide) (hts _ mU_186) (fun _ h9 => h9) rfl dX5_divide_66 ?_
    refine lv_isub hx hb dX5_divide_69 ?_
    refine va_put (D := gD g) (ci := 3) (v := .int (x4 - (seen (Int32.toNatClampNeg x3)))) (ty := .int) (C := RX5) (T := TX5) (N := 3) hx hb hts inX5 tyX5 tyX5_ok nmX5 hown hK hP hD hS 0 rfl rfl 2 (by decide) (hts _ mU_188) (fun _ h9 => h9) rfl (by decide +kernel) rfl rfl (Nat.le_of_ble_eq_true rfl) dX5_divide_70 (fun H locs hP hD hS => ?_)
    have hP : va_P (gD g) zCl (wLD g d0 d1 seen (seen (Int32.toNatClampNeg x3)) (x4 - (seen (Int32.toNatClampNeg x3)))) H := hP
    have hD : va_D A (wLD g d0 d1 seen (seen (Int32.toNatClampNeg x3)) (x4 - (seen (Int32.toNatClampNeg x3)))) := hD
    have ho := (Option.some.inj hF).symm
    exact W.vret hx hb hr (fun t ht hW => ⟨⟨(seen, (seen (Int32.toNatClampNeg x3)), (x4 - (seen (Int32.toNatClampNeg x3)))), rfl, ho, z_end ht hP⟩, hS.F ht⟩) hS.2.2 dX5_divide_73
  have K15 : ∀ (n15 : Nat) (seen : Nat → Int32) (dbef : Int32) (drec : Int32) (x3 : Int32) (x4 : Int32), F_X5_divide_15 fu n15 seen dbef drec p2 x3 x4 = some o → ∀ (H : Heap) (locs : List Loc) (ls : Array Slot), lv_has ls 5 [(0, .ref d0), (2, .int p2), (3, .int x3), (4, .int x4)] → va_P (gD g) zCl (wLD g d0 d1 seen dbef drec) H → va_D A (wLD g d0 d1 seen dbef drec) → va_S A s.heap H locs → W p l e (headSpec w_X5_divide r_X5_divide).room s m ([.ref d0, .int p1, .int p2] : List Value).toArray below meth c H locs 0 0 (MQ below (q_X5_divide g d0 d1 seen dbef drec o A) ([.ref d0, .int p1, .int p2] : List Value).toArray s 0 0 A) (F0 m 15 ls []) := by
    intro n15
    induction n15 with
    | zero =>
      intro seen dbef drec x3 x4 hF
      exact absurd hF (by simp [F_X5_divide_15])
    | succ n15 ih15 =>
      intro seen dbef drec x3 x4 hF H locs ls hl hP hD hS
      unfold F_X5_divide_15 at hF
      refine lv_iload hx hb dX5_divide_15 (lv_at hl 3 rfl) ?_
      refine lv_iload_n hx hb dX5_divide_17 rfl (lv_at hl 1 rfl) ?_
      refine lv_icmp_gt (tgt := 52) hx hb dX5_divide_18 (by decide) (fun zc2 => ?_) (fun zc2 => ?_)
      · have hF := z_pos hF zc2
        exact K52 () seen dbef drec x3 x4 hF _ _ _ (lv_sub hl [0, 2, 3] rfl) hP hD hS
      · have hF := z_neg hF zc2
        refine lv_aload_n hx hb dX5_divide_21 rfl (lv_at hl 0 rfl) ?_
        refine va_get (D := gD g) (ci := 3) (v := .ref d1) (C := RX5) (T := TX5) (N := 3) hx hb hts inX5 hown hK hP 0 rfl rfl 0 (by decide) (hts _ mU_185) (fun _ h9 => h9) rfl dX5_divide_22 ?_
        refine lv_iload_n hx hb dX5_divide_25 rfl (lv_at hl 2 rfl) ?_
        obtain ⟨zg3, hF⟩ := z_grd hF
        refine va_iald hx hb hK hP 1 1 rfl rfl zg3 dX5_divide_26 ?_
        refine lv_iconst (v := (-1)) hx hb dX5_divide_27 (by decide) ?_
        refine lv_icmp_ne (tgt := 52) hx hb dX5_divide_28 (by decide) (fun zc4 => ?_) (fun zc4 => ?_)
        · have hF := z_neg hF zc4
          exact K52 () seen dbef drec x3 x4 hF _ _ _ (lv_sub hl [0, 2, 3] rfl) hP hD hS
        · have hF := z_pos hF zc4
          refine lv_aload_n hx hb dX5_divide_31 rfl (lv_at hl 0 rfl) ?_
          refine va_get (D := gD g) (ci := 3) (v := .ref d1) (C := RX5) (T := TX5) (N := 3) hx hb hts inX5 hown hK hP 0 rfl rfl 0 (by decide) (hts _ mU_185) (fun _ h9 => h9) rfl dX5_divide_32 ?_
          refine lv_iload_n hx hb dX5_divide_35 rfl (lv_at hl 2 rfl) ?_
          refine lv_iload hx hb dX5_divide_36 (lv_at hl 3 rfl) ?_
          obtain ⟨zg5, hF⟩ := z_grd hF
          refine va_iast hx hb hK hP hD hS 1 1 rfl rfl zg5 dX5_divide_38 (fun H locs hP hD hS => ?_)
          have hP : va_P (gD g) zCl (wLD g d0 d1 (upd seen (Int32.toNatClampNeg x3) x4) dbef drec) H := hP
          have hD : va_D A (wLD g d0 d1 (upd seen (Int32.toNatClampNeg x3) x4) dbef drec) := hD
          refine lv_iload_n hx hb dX5_divide_39 rfl (lv_at hl 2 rfl) ?_
          refine lv_bipush (v := 10) hx hb dX5_divide_40 (by decide) ?_
          refine lv_imul hx hb dX5_divide_42 ?_
          refine lv_iload_n hx hb dX5_divide_43 rfl (lv_at hl 1 rfl) ?_
          obtain ⟨zg6, hF⟩ := z_grd hF
          refine lv_irem hx hb dX5_divide_44 zg6 ?_
          obtain ⟨zv7, ezv7, hF⟩ := z_let hF
          refine z_topi ezv7 ?_
          refine lv_istore_n (lv' := [(3, .int zv7), (0, .ref d0), (2, .int p2), (4, .int x4)]) hx hb dX5_divide_45 rfl hl (by decide) rfl (fun ls hl => ?_)
          obtain ⟨zv8, ezv8, hF⟩ := z_let hF
          refine lv_iinc (v := zv8) (lv' := [(4, .int zv8), (3, .int zv7), (0, .ref d0), (2, .int p2)]) hx hb dX5_divide_46 hl (k := 3) rfl (by rw [ezv8]; rfl) (by decide) rfl (fun ls hl => ?_)
          refine lv_goto (tgt := 15) hx hb dX5_divide_49 (by decide) ?_
          exact ih15 (upd seen (Int32.toNatClampNeg x3) x4) dbef drec zv7 zv8 hF _ _ _ (lv_sub hl [2, 3, 1, 0] rfl) hP hD hS
  refine lv_aload_n hx hb dX5_divide_0 rfl (lv_at hl 0 rfl) ?_
  refine va_get (D := gD g) (ci := 3) (v := .ref d1) (C := RX5) (T := TX5) (N := 3) hx hb hts inX5 hown hK hP 0 rfl rfl 0 (by decide) (hts _ mU_185) (fun _ h9 => h9) rfl dX5_divide_1 ?_
  refine lv_iconst (v := (-1)) hx hb dX5_divide_4 (by decide) ?_
  obtain ⟨zo9, hzo9, hF⟩ := z_bind hF
  refine z_callv (fun (u : (Nat → Int32)) => (wArr g d1 u)) [1] (va_runS (As := [.ref d1, .int (-1)]) (rest := []) ⟨hx, hb, hml, hown, hts⟩ (c_J7_fill_53178 l g d1 seen _ (-1) fu _ hzo9) (va_cwS 2 hts (gdS mU_969 mU_970 mU_95 mU_971) rfl rfl rfl (by decide +kernel) ⟨Nat.le_of_ble_eq_true rfl, Nat.le_of_ble_eq_true rfl⟩) ⟨z_blind _ _ _ _, fun U hU hW => z_pre [1] hP hD hK hB hS hA rfl rfl hU hW⟩ rfl rfl hl.1 rfl (lv_room (Nat.le_of_ble_eq_true rfl)) dX5_divide_5 ⟨Nat.le_of_ble_eq_true rfl, Nat.le_of_ble_eq_true rfl⟩) hP hD hS hA rfl (fun _ => rfl) (fun u H locs hw hP hD hS => ?_)
  subst hw
  have hP : va_P (gD g) zCl (wLD g d0 d1 zo9 dbef drec) H := hP
  have hD : va_D A (wLD g d0 d1 zo9 dbef drec) := hD
  refine lv_iload_n hx hb dX5_divide_8 rfl (lv_at hl 1 rfl) ?_
  refine lv_iload_n hx hb dX5_divide_9 rfl (lv_at hl 2 rfl) ?_
  obtain ⟨zg10, hF⟩ := z_grd hF
  refine lv_irem hx hb dX5_divide_10 zg10 ?_
  obtain ⟨zv11, ezv11, hF⟩ := z_let hF
  refine z_topi ezv11 ?_
  refine lv_istore_n (lv' := [(3, .int zv11), (0, .ref d0), (1, .int p1), (2, .int p2)]) hx hb dX5_divide_11 rfl hl (by decide) rfl (fun ls hl => ?_)
  refine lv_iconst (v := 0) hx hb dX5_divide_12 (by decide) ?_
  refine lv_istore (lv' := [(4, .int 0), (3, .int zv11), (0, .ref d0), (1, .int p1), (2, .int p2)]) hx hb dX5_divide_13 hl (by decide) rfl (fun ls hl => ?_)
  exact K15 fu zo9 dbef drec zv11 0 hF _ _ _ (lv_sub hl [2, 4, 1, 0] rfl) hP hD hS
abbrev w_X10_requireAmount : List Cond := .code yX10_requireAmount cX10_requireAmount 2 none :: wU
abbrev r_X10_requireAmount : Room := { frames := 6, cells := 1, slots := 6, locals := 82 }
abbrev q_X10_requireAmount (g : GG) (o : Except (Nat × (Unit)) (Unit)) (A : Nat → Prop) := va_Qv (fun (u : Unit) => ∃ a : Unit, o = .ok a ∧ () = u) (fun u t => va_P (gD g) zCl [] t.heap) A
abbrev x_X10_requireAmount (g : GG) (o : Except (Nat × (Unit)) (Unit)) (A : Nat → Prop) := vx_X (fun (x : Nat × (Unit)) => o = .error x) (fun E x t => E = xN x.1 ∧ va_P (gD g) zCl [] t.heap) A
set_option maxHeartbeats 4000000 in
set_option maxRecDepth 100000 in
theorem c_X10_requireAmount (l : Launch) (hl0 : l.stackTraces = false) (g : GG) (sz : Nat) (p0 : Int32) (p1 : Int32) (o : Except (Nat × (Unit)) (Unit)) (hF : F_X10_requireAmount p0 p1 = some o) : vx_Met l yX10_requireAmount w_X10_requireAmount r_X10_requireAmount (va_Pc [.int p0, .int p1] (zP g [] sz)) (q_X10_requireAmount g o (va_A [] sz)) (x_X10_requireAmount g o (va_A [] sz)) 1 6 (va_A [] sz) := by
  refine vx_ofW (cc := cX10_requireAmount) (maxL := 2) (ret := none) (by decide) rfl ?_
  intro p e s m args below meth c s₁ B hml hnx hv
  obtain ⟨rfl, rfl, hP, hK, hD0, hB⟩ := hv
  have hx := B.exec
  have hb := B.bytes
  have hr := B.returns
  have hts : ∀ w ∈ wU, w.before _ s = true := fun w h => atoms_spec (ws := w_X10_requireAmount) B.pre w (List.mem_cons_of_mem _ h)
  have hown : s.vm.findClass RX10 = some m.cls := findClass_of_methodNamed B.named
  have hlocks := B.notSynchronized
  have hD := hD0.self (sz := s.heap.size)
  generalize hAe : va_A [] s.heap.size = A at hD hB ⊢
  have hA : ∀ q : Nat, s.heap.size ≤ q → A q := fun q h => by rw [← hAe]; exact Or.inr h
  have hS : va_S A s.heap s.heap [] := va_S.rf
  have hl := lv_entry ([.int p0, .int p1]) (n := 2) (Nat.le_of_ble_eq_true rfl)
  rw [lg_entry_eq]
  generalize (lg_sl ([.int p0, .int p1]) ++ List.replicate (2 - (lg_sl ([.int p0, .int p1])).length) Slot.unset).toArray = ls at hl ⊢
  have hl : lv_has ls 2 [(0, .int p0), (1, .int p1)] := hl
  unfold F_X10_requireAmount at hF
  refine lv_iload_n hx hb dX10_requireAmount_0 rfl (lv_at hl 0 rfl) ?_
  refine lv_if_lt (tgt := 22) hx hb dX10_requireAmount_1 (by decide) (fun zc1 => ?_) (fun zc1 => ?_)
  · have hF := z_pos hF zc1
    have ho := (Option.some.inj hF).symm
    obtain ⟨sa, hsa⟩ := hB.2.1.2.2.1 (425, "the whole part or the fraction is out of range") (by decide +kernel)
    exact vx_throwSW hx hb hl0 (own := RX10) (cls := "java/lang/IllegalArgumentException") (text := "the whole part or the fraction is out of range") (names := ["java/lang/RuntimeException", "java/lang/Exception"]) hown (by decide +kernel) (by decide +kernel) (hts _ mU_456) (hts _ mU_80) hsa (zat_156 hts hB) zgo_156 hB.1.1 hB.1.2 hS (hl.1.trans hml.symm) dX10_requireAmount_22 dX10_requireAmount_25 dX10_requireAmount_26 dX10_requireAmount_29 dX10_requireAmount_32 (fun x hx => (hnx x hx).elim) (Nat.le_of_ble_eq_true rfl) (Nat.le_of_ble_eq_true rfl) (Nat.le_of_ble_eq_true rfl) (Nat.le_of_ble_eq_true rfl) hlocks (fun t ha hz hk => ⟨(0, ()), ho, ⟨rfl, (z_thr hP hS hz hk).1⟩, (z_thr hP hS hz hk).2⟩) hS.2.2 (Nat.le_of_ble_eq_true rfl) (Nat.le_of_ble_eq_true rfl)
  · have hF := z_neg hF zc1
    refine lv_iload_n hx hb dX10_requireAmount_4 rfl (lv_at hl 0 rfl) ?_
    refine lv_ldcw (v := 999999) hx hb hown (hts _ mU_455) dX10_requireAmount_5 ?_
    refine lv_icmp_gt (tgt := 22) hx hb dX10_requireAmount_8 (by decide) (fun zc2 => ?_) (fun zc2 => ?_)
    · have hF := z_pos hF zc2
      have ho := (Option.some.inj hF).symm
      obtain ⟨sa, hsa⟩ := hB.2.1.2.2.1 (425, "the whole part or the fraction is out of range") (by decide +kernel)
      exact vx_throwSW hx hb hl0 (own := RX10) (cls := "java/lang/IllegalArgumentException") (text := "the whole part or the fraction is out of range") (names := ["java/lang/RuntimeException", "java/lang/Exception"]) hown (by decide +kernel) (by decide +kernel) (hts _ mU_456) (hts _ mU_80) hsa (zat_156 hts hB) zgo_156 hB.1.1 hB.1.2 hS (hl.1.trans hml.symm) dX10_requireAmount_22 dX10_requireAmount_25 dX10_requireAmount_26 dX10_requireAmount_29 dX10_requireAmount_32 (fun x hx => (hnx x hx).elim) (Nat.le_of_ble_eq_true rfl) (Nat.le_of_ble_eq_true rfl) (Nat.le_of_ble_eq_true rfl) (Nat.le_of_ble_eq_true rfl) hlocks (fun t ha hz hk => ⟨(0, ()), ho, ⟨rfl, (z_thr hP hS hz hk).1⟩, (z_thr hP hS hz hk).2⟩) hS.2.2 (Nat.le_of_ble_eq_true rfl) (Nat.le_of_ble_eq_true rfl)
    · have hF := z_neg hF zc2
      refine lv_iload_n hx hb dX10_requireAmount_11 rfl (lv_at hl 1 rfl) ?_
      refine lv_if_lt (tgt := 22) hx hb dX10_requireAmount_12 (by decide) (fun zc3 => ?_) (fun zc3 => ?_)
      · have hF := z_pos hF zc3
        have ho := (Option.some.inj hF).symm
        obtain ⟨sa, hsa⟩ := hB.2.1.2.2.1 (425, "the whole part or the fraction is out of range") (by decide +kernel)
        exact vx_throwSW hx hb hl0 (own := RX10) (cls := "java/lang/IllegalArgumentException") (text := "the whole part or the fraction is out of range") (names := ["java/lang/RuntimeException", "java/lang/Exception"]) hown (by decide +kernel) (by decide +kernel) (hts _ mU_456) (hts _ mU_80) hsa (zat_156 hts hB) zgo_156 hB.1.1 hB.1.2 hS (hl.1.trans hml.symm) dX10_requireAmount_22 dX10_requireAmount_25 dX10_requireAmount_26 dX10_requireAmount_29 dX10_requireAmount_32 (fun x hx => (hnx x hx).elim) (Nat.le_of_ble_eq_true rfl) (Nat.le_of_ble_eq_true rfl) (Nat.le_of_ble_eq_true rfl) (Nat.le_of_ble_eq_true rfl) hlocks (fun t ha hz hk => ⟨(0, ()), ho, ⟨rfl, (z_thr hP hS hz hk).1⟩, (z_thr hP hS hz hk).2⟩) hS.2.2 (Nat.le_of_ble_eq_true rfl) (Nat.le_of_ble_eq_true rfl)
      · have hF := z_neg hF zc3
        refine lv_iload_n hx hb dX10_requireAmount_15 rfl (lv_at hl 1 rfl) ?_
        refine lv_sipush (v := 9999) hx hb dX10_requireAmount_16 (by decide) ?_
        refine lv_icmp_le (tgt := 33) hx hb dX10_requireAmount_19 (by decide) (fun zc4 => ?_) (fun zc4 => ?_)
        · have hF := z_pos hF zc4
          have ho := (Option.some.inj hF).symm
          refine vx_ret ?_
          refine W.widen (k := 1) (n := 6) (Nat.le_of_ble_eq_true rfl) (Nat.le_of_ble_eq_true rfl) ?_
          exact W.vret hx hb hr (fun t ht hW => ⟨⟨(), rfl, ⟨_, ho, rfl⟩, z_end ht hP⟩, hS.F ht⟩) hS.2.2 dX10_requireAmount_33
        · have hF := z_neg hF zc4
          have ho := (Option.some.inj hF).symm
          obtain ⟨sa, hsa⟩ := hB.2.1.2.2.1 (425, "the whole part or the fraction is out of range") (by decide +kernel)
          exact vx_throwSW hx hb hl0 (own := RX10) (cls := "java/lang/IllegalArgumentException") (text := "the whole part or the fraction is out of range") (names := ["java/lang/RuntimeException", "java/lang/Exception"]) hown (by decide +kernel) (by decide +kernel) (hts _ mU_456) (hts _ mU_80) hsa (zat_156 hts hB) zgo_156 hB.1.1 hB.1.2 hS (hl.1.trans hml.symm) dX10_requireAmount_22 dX10_requireAmount_25 dX10_requireAmount_26 dX10_requireAmount_29 dX10_requireAmount_32 (fun x hx => (hnx x hx).elim) (Nat.le_of_ble_eq_true rfl) (Nat.le_of_ble_eq_true rfl) (Nat.le_of_ble_eq_true rfl) (Nat.le_of_ble_eq_true rfl) hlocks (fun t ha hz hk => ⟨(0, ()), ho, ⟨rfl, (z_thr hP hS hz hk).1⟩, (z_thr hP hS hz hk).2⟩) hS.2.2 (Nat.le_of_ble_eq_true rfl) (Nat.le_of_ble_eq_true rfl)
abbrev w_X10_requireScale : List Cond := .code yX10_requireScale cX10_requireScale 1 none :: wU
abbrev r_X10_requireScale : Room := { frames := 6, cells := 1, slots := 6, locals := 82 }
abbrev q_X10_requireScale (g : GG) (o : Except (Nat × (Unit)) (Unit)) (A : Nat → Prop) := va_Qv (fun (u : Unit) => ∃ a : Unit, o = .ok a ∧ () = u) (fun u t => va_P (gD g) zCl [] t.heap) A
abbrev x_X10_requireScale (g : GG) (o : Except (Nat × (Unit)) (Unit)) (A : Nat → Prop) := vx_X (fun (x : Nat × (Unit)) => o = .error x) (fun E x t => E = xN x.1 ∧ va_P (gD g) zCl [] t.heap) A
set_option maxHeartbeats 4000000 in
set_option maxRecDepth 100000 in
theorem c_X10_requireScale (l : Launch) (hl0 : l.stackTraces = false) (g : GG) (sz : Nat) (p0 : Int32) (o : Except (Nat × (Unit)) (Unit)) (hF : F_X10_requireScale p0 = some o) : vx_Met l yX10_requireScale w_X10_requireScale r_X10_requireScale (va_Pc [.int p0] (zP g [] sz)) (q_X10_requireScale g o (va_A [] sz)) (x_X10_requireScale g o (va_A [] sz)) 1 6 (va_A [] sz) := by
  refine vx_ofW (cc := cX10_requireScale) (maxL := 1) (ret := none) (by decide) rfl ?_
  intro p e s m args below meth c s₁ B hml hnx hv
  obtain ⟨rfl, rfl, hP, hK, hD0, hB⟩ := hv
  have hx := B.exec
  have hb := B.bytes
  have hr := B.returns
  have hts : ∀ w ∈ wU, w.before _ s = true := fun w h => atoms_spec (ws := w_X10_requireScale) B.pre w (List.mem_cons_of_mem _ h)
  have hown : s.vm.findClass RX10 = some m.cls := findClass_of_methodNamed B.named
  have hlocks := B.notSynchronized
  have hD := hD0.self (sz := s.heap.size)
  generalize hAe : va_A [] s.heap.size = A at hD hB ⊢
  have hA : ∀ q : Nat, s.heap.size ≤ q → A q := fun q h => by rw [← hAe]; exact Or.inr h
  have hS : va_S A s.heap s.heap [] := va_S.rf
  have hl := lv_entry ([.int p0]) (n := 1) (Nat.le_of_ble_eq_true rfl)
  rw [lg_entry_eq]
  generalize (lg_sl ([.int p0]) ++ List.replicate (1 - (lg_sl ([.int p0])).length) Slot.unset).toArray = ls at hl ⊢
  have hl : lv_has ls 1 [(0, .int p0)] := hl
  unfold F_X10_requireScale at hF
  refine lv_iload_n hx hb dX10_requireScale_0 rfl (lv_at hl 0 rfl) ?_
  refine lv_if_lt (tgt := 9) hx hb dX10_requireScale_1 (by decide) (fun zc1 => ?_) (fun zc1 => ?_)
  · have hF := z_pos hF zc1
    have ho := (Option.some.inj hF).symm
    obtain ⟨sa, hsa⟩ := hB.2.1.2.2.1 (427, "the scale is out of range") (by decide +kernel)
    exact vx_throwSW hx hb hl0 (own := RX10) (cls := "java/lang/IllegalArgumentException") (text := "the scale is out of range") (names := ["java/lang/RuntimeException", "java/lang/Exception"]) hown (by decide +kernel) (by decide +kernel) (hts _ mU_456) (hts _ mU_80) hsa (zat_156 hts hB) zgo_156 hB.1.1 hB.1.2 hS (hl.1.trans hml.symm) dX10_requireScale_9 dX10_requireScale_12 dX10_requireScale_13 dX10_requireScale_16 dX10_requireScale_19 (fun x hx => (hnx x hx).elim) (Nat.le_of_ble_eq_true rfl) (Nat.le_of_ble_eq_true rfl) (Nat.le_of_ble_eq_true rfl) (Nat.le_of_ble_eq_true rfl) hlocks (fun t ha hz hk => ⟨(0, ()), ho, ⟨rfl, (z_thr hP hS hz hk).1⟩, (z_thr hP hS hz hk).2⟩) hS.2.2 (Nat.le_of_ble_eq_true rfl) (Nat.le_of_ble_eq_true rfl)
  · have hF := z_neg hF zc1
    refine lv_iload_n hx hb dX10_requireScale_4 rfl (lv_at hl 0 rfl) ?_
    refine lv_iconst (v := 4) hx hb dX10_requireScale_5 (by decide) ?_
    refine lv_icmp_le (tgt := 20) hx hb dX10_requireScale_6 (by decide) (fun zc2 => ?_) (fun zc2 => ?_)
    · have hF := z_pos hF zc2
      have ho := (Option.some.inj hF).symm
      refine vx_ret ?_
      refine W.widen (k := 1) (n := 6) (Nat.le_of_ble_eq_true rfl) (Nat.le_of_ble_eq_true rfl) ?_
      exact W.vret hx hb hr (fun t ht hW => ⟨⟨(), rfl, ⟨_, ho, rfl⟩, z_end ht hP⟩, hS.F ht⟩) hS.2.2 dX10_requireScale_20
    · have hF := z_neg hF zc2
      have ho := (Option.some.inj hF).symm
      obtain ⟨sa, hsa⟩ := hB.2.1.2.2.1 (427, "the scale is out of range") (by decide +kernel)
      exact vx_throwSW hx hb hl0 (own := RX10) (cls := "java/lang/IllegalArgumentException") (text := "the scale is out of range") (names := ["java/lang/RuntimeException", "java/lang/Exception"]) hown (by decide +kernel) (by decide +kernel) (hts _ mU_456) (hts _ mU_80) hsa (zat_156 hts hB) zgo_156 hB.1.1 hB.1.2 hS (hl.1.trans hml.symm) dX10_requireScale_9 dX10_requireScale_12 dX10_requireScale_13 dX10_requireScale_16 dX10_requireScale_19 (fun x hx => (hnx x hx).elim) (Nat.le_of_ble_eq_true rfl) (Nat.le_of_ble_eq_true rfl) (Nat.le_of_ble_eq_true rfl) (Nat.le_of_ble_eq_true rfl) hlocks (fun t ha hz hk => ⟨(0, ()), ho, ⟨rfl, (z_thr hP hS hz hk).1⟩, (z_thr hP hS hz hk).2⟩) hS.2.2 (Nat.le_of_ble_eq_true rfl) (Nat.le_of_ble_eq_true rfl)
abbrev w_X10_requireMode : List Cond := .code yX10_requireMode cX10_requireMode 1 none :: wU
abbrev r_X10_requireMode : Room := { frames := 6, cells := 1, slots := 6, locals := 106 }
abbrev q_X10_requireMode (g : GG) (o : Except (Nat × (Unit)) (Unit)) (A : Nat → Prop) := va_Qv (fun (u : Unit) => ∃ a : Unit, o = .ok a ∧ () = u) (fun u t => va_P (gD g) zCl [] t.heap) A
abbrev x_X10_requireMode (g : GG) (o : Except (Nat × (Unit)) (Unit)) (A : Nat → Prop) := vx_X (fun (x : Nat × (Unit)) => o = .error x) (fun E x t => E = xN x.1 ∧ va_P (gD g) zCl [] t.heap) A
set_option maxHeartbeats 4000000 in
set_option maxRecDepth 100000 in
theorem c_X10_requireMode (l : Launch) (hl0 : l.stackTraces = false) (g : GG) (sz : Nat) (p0 : Int32) (fu : Nat) (o : Except (Nat × (Unit)) (Unit)) (hF : F_X10_requireMode fu p0 = some o) : vx_Met l yX10_requireMode w_X10_requireMode r_X10_requireMode (va_Pc [.int p0] (zP g [] sz)) (q_X10_requireMode g o (va_A [] sz)) (x_X10_requireMode g o (va_A [] sz)) 1 6 (va_A [] sz) := by
  refine vx_ofW (cc := cX10_requireMode) (maxL := 1) (ret := none) (by decide) rfl ?_
  intro p e s m args below meth c s₁ B hml hnx hv
  obtain ⟨rfl, rfl, hP, hK, hD0, hB⟩ := hv
  have hx := B.exec
  have hb := B.bytes
  have hr := B.returns
  have hts : ∀ w ∈ wU, w.before _ s = true := fun w h => atoms_spec (ws := w_X10_requireMode) B.pre w (List.mem_cons_of_mem _ h)
  have hown : s.vm.findClass RX10 = some m.cls := findClass_of_methodNamed B.named
  have hlocks := B.notSynchronized
  have hD := hD0.self (sz := s.heap.size)
  generalize hAe : va_A [] s.heap.size = A at hD hB ⊢
  have hA : ∀ q : Nat, s.heap.size ≤ q → A q := fun q h => by rw [← hAe]; exact Or.inr h
  have hS : va_S A s.heap s.heap [] := va_S.rf
  have hl := lv_entry ([.int p0]) (n := 1) (Nat.le_of_ble_eq_true rfl)
  rw [lg_entry_eq]
  generalize (lg_sl ([.int p0]) ++ List.replicate (1 - (lg_sl ([.int p0])).length) Slot.unset).toArray = ls at hl ⊢
  have hl : lv_has ls 1 [(0, .int p0)] := hl
  unfold F_X10_requireMode at hF
  refine z_ldcSW hx hb hown hB.2.1.2.2.2.1 dX10_requireMode_0 ?_
  refine lv_iload_n hx hb dX10_requireMode_3 rfl (lv_at hl 0 rfl) ?_
  obtain ⟨zo1, hzo1, hF⟩ := z_bind hF
  refine z_calliE (fun (_ : Unit) => []) (va_runV (As := [.int p0]) (rest := []) ⟨hx, hb, hml, hown, hts⟩ (c_J0_indexOf_0f7a4 l g _ 0 (by decide) p0 fu _ hzo1) (cwV 1 hts (gdV mU_536 mU_537 mU_538 mU_81 mU_539) rfl rfl rfl (by decide +kernel) ⟨Nat.le_of_ble_eq_true rfl, Nat.le_of_ble_eq_true rfl⟩) ⟨z_blind _ _ _ _, vk_recv hB.2.2.1.1 (by decide) hS, fun U hU hW => z_preE hP hD hK hB hS hA hU hW⟩ rfl rfl hl.1 rfl (lv_room (Nat.le_of_ble_eq_true rfl)) dX10_requireMode_4 ⟨Nat.le_of_ble_eq_true rfl, Nat.le_of_ble_eq_true rfl⟩) hD hS hA (fun _ => rfl) (fun r u H locs hw hP hD hS => ?_)
  subst hw
  have hP : va_P (gD g) zCl [] H := hP
  have hD : va_D A [] := hD
  refine lv_if_ge (tgt := 21) hx hb dX10_requireMode_7 (by decide) (fun zc2 => ?_) (fun zc2 => ?_)
  · have hF := z_pos hF zc2
    have ho := (Option.some.inj hF).symm
    refine vx_ret ?_
    refine W.widen (k := 1) (n := 6) (Nat.le_of_ble_eq_true rfl) (Nat.le_of_ble_eq_true rfl) ?_
    exact W.vret hx hb hr (fun t ht hW => ⟨⟨(), rfl, ⟨_, ho, rfl⟩, z_end ht hP⟩, hS.F ht⟩) hS.2.2 dX10_requireMode_21
  · have hF := z_neg hF zc2
    have ho := (Option.some.inj hF).symm
    obtain ⟨sa, hsa⟩ := hB.2.1.2.2.1 (436, "no such mode") (by decide +kernel)
    exact vx_throwSW hx hb hl0 (own := RX10) (cls := "java/lang/IllegalArgumentException") (text := "no such mode") (names := ["java/lang/RuntimeException", "java/lang/Exception"]) hown (by decide +kernel) (by decide +kernel) (hts _ mU_456) (hts _ mU_80) hsa (zat_156 hts hB) zgo_156 hB.1.1 hB.1.2 hS (hl.1.trans hml.symm) dX10_requireMode_10 dX10_requireMode_13 dX10_requireMode_14 dX10_requireMode_17 dX10_requireMode_20 (fun x hx => (hnx x hx).elim) (Nat.le_of_ble_eq_true rfl) (Nat.le_of_ble_eq_true rfl) (Nat.le_of_ble_eq_true rfl) (Nat.le_of_ble_eq_true rfl) hlocks (fun t ha hz hk => ⟨(0, ()), ho, ⟨rfl, (z_thr hP hS hz hk).1⟩, (z_thr hP hS hz hk).2⟩) hS.2.2 (Nat.le_of_ble_eq_true rfl) (Nat.le_of_ble_eq_true rfl)
abbrev w_X10_requireQuotient : List Cond := .code yX10_requireQuotient cX10_requireQuotient 2 none :: wU
abbrev r_X10_requireQuotient : Room := { frames := 6, cells := 1, slots := 6, locals := 82 }
abbrev q_X10_requireQuotient (g : GG) (o : Except (Nat × (Unit)) (Unit)) (A : Nat → Prop) := va_Qv (fun (u : Unit) => ∃ a : Unit, o = .ok a ∧ () = u) (fun u t => va_P (gD g) zCl [] t.heap) A
abbrev x_X10_requireQuotient (g : GG) (o : Except (Nat × (Unit)) (Unit)) (A : Nat → Prop) := vx_X (fun (x : Nat × (Unit)) => o = .error x) (fun E x t => E = xN x.1 ∧ va_P (gD g) zCl [] t.heap) A
set_option maxHeartbeats 4000000 in
set_option maxRecDepth 100000 in
theorem c_X10_requireQuotient (l : Launch) (hl0 : l.stackTraces = false) (g : GG) (sz : Nat) (p0 : Int32) (p1 : Int32) (o : Except (Nat × (Unit)) (Unit)) (hF : F_X10_requireQuotient p0 p1 = some o) : vx_Met l yX10_requireQuotient w_X10_requireQuotient r_X10_requireQuotient (va_Pc [.int p0, .int p1] (zP g [] sz)) (q_X10_requireQuotient g o (va_A [] sz)) (x_X10_requireQuotient g o (va_A [] sz)) 1 6 (va_A [] sz) := by
  refine vx_ofW (cc := cX10_requireQuotient) (maxL := 2) (ret := none) (by decide) rfl ?_
  intro p e s m args below meth c s₁ B hml hnx hv
  obtain ⟨rfl, rfl, hP, hK, hD0, hB⟩ := hv
  have hx := B.exec
  have hb := B.bytes
  have hr := B.returns
  have hts : ∀ w ∈ wU, w.before _ s = true := fun w h => atoms_spec (ws := w_X10_requireQuotient) B.pre w (List.mem_cons_of_mem _ h)
  have hown : s.vm.findClass RX10 = some m.cls := findClass_of_methodNamed B.named
  have hlocks := B.notSynchronized
  have hD := hD0.self (sz := s.heap.size)
  generalize hAe : va_A [] s.heap.size = A at hD hB ⊢
  have hA : ∀ q : Nat, s.heap.size ≤ q → A q := fun q h => by rw [← hAe]; exact Or.inr h
  have hS : va_S A s.heap s.heap [] := va_S.rf
  have hl := lv_entry ([.int p0, .int p1]) (n := 2) (Nat.le_of_ble_eq_true rfl)
  rw [lg_entry_eq]
  generalize (lg_sl ([.int p0, .int p1]) ++ List.replicate (2 - (lg_sl ([.int p0, .int p1])).length) Slot.unset).toArray = ls at hl ⊢
  have hl : lv_has ls 2 [(0, .int p0), (1, .int p1)] := hl
  unfold F_X10_requireQuotient at hF
  refine lv_iload_n hx hb dX10_requireQuotient_0 rfl (lv_at hl 0 rfl) ?_
  refine lv_if_lt (tgt := 23) hx hb dX10_requireQuotient_1 (by decide) (fun zc1 => ?_) (fun zc1 => ?_)
  · have hF := z_pos hF zc1
    have ho := (Option.some.inj hF).symm
    obtain ⟨sa, hsa⟩ := hB.2.1.2.2.1 (438, "the dividend or the divisor is out of range") (by decide +kernel)
    exact vx_throwSW hx hb hl0 (own := RX10) (cls := "java/lang/IllegalArgumentException") (text := "the dividend or the divisor is out of range") (names := ["java/lang/RuntimeException", "java/lang/Exception"]) hown (by decide +kernel) (by decide +kernel) (hts _ mU_456) (hts _ mU_80) hsa (zat_156 hts hB) zgo_156 hB.1.1 hB.1.2 hS (hl.1.trans hml.symm) dX10_requireQuotient_23 dX10_requireQuotient_26 dX10_requireQuotient_27 dX10_requireQuotient_30 dX10_requireQuotient_33 (fun x hx => (hnx x hx).elim) (Nat.le_of_ble_eq_true rfl) (Nat.le_of_ble_eq_true rfl) (Nat.le_of_ble_eq_true rfl) (Nat.le_of_ble_eq_true rfl) hlocks (fun t ha hz hk => ⟨(0, ()), ho, ⟨rfl, (z_thr hP hS hz hk).1⟩, (z_thr hP hS hz hk).2⟩) hS.2.2 (Nat.le_of_ble_eq_true rfl) (Nat.le_of_ble_eq_true rfl)
  · have hF := z_neg hF zc1
    refine lv_iload_n hx hb dX10_requireQuotient_4 rfl (lv_at hl 0 rfl) ?_
    refine lv_sipush (v := 9999) hx hb dX10_requireQuotient_5 (by decide) ?_
    refine lv_icmp_gt (tgt := 23) hx hb dX10_requireQuotient_8 (by decide) (fun zc2 => ?_) (fun zc2 => ?_)
    · have hF := z_pos hF zc2
      have ho := (Option.some.inj hF).symm
      obtain ⟨sa, hsa⟩ := hB.2.1.2.2.1 (438, "the dividend or the divisor is out of range") (by decide +kernel)
      exact vx_throwSW hx hb hl0 (own := RX10) (cls := "java/lang/IllegalArgumentException") (text := "the dividend or the divisor is out of range") (names := ["java/lang/RuntimeException", "java/lang/Exception"]) hown (by decide +kernel) (by decide +kernel) (hts _ mU_456) (hts _ mU_80) hsa (zat_156 hts hB) zgo_156 hB.1.1 hB.1.2 hS (hl.1.trans hml.symm) dX10_requireQuotient_23 dX10_requireQuotient_26 dX10_requireQuotient_27 dX10_requireQuotient_30 dX10_requireQuotient_33 (fun x hx => (hnx x hx).elim) (Nat.le_of_ble_eq_true rfl) (Nat.le_of_ble_eq_true rfl) (Nat.le_of_ble_eq_true rfl) (Nat.le_of_ble_eq_true rfl) hlocks (fun t ha hz hk => ⟨(0, ()), ho, ⟨rfl, (z_thr hP hS hz hk).1⟩, (z_thr hP hS hz hk).2⟩) hS.2.2 (Nat.le_of_ble_eq_true rfl) (Nat.le_of_ble_eq_true rfl)
    · have hF := z_neg hF zc2
      refine lv_iload_n hx hb dX10_requireQuotient_11 rfl (lv_at hl 1 rfl) ?_
      refine lv_iconst (v := 1) hx hb dX10_requireQuotient_12 (by decide) ?_
      refine lv_icmp_lt (tgt := 23) hx hb dX10_requireQuotient_13 (by decide) (fun zc3 => ?_) (fun zc3 => ?_)
      · have hF := z_pos hF zc3
        have ho := (Option.some.inj hF).symm
        obtain ⟨sa, hsa⟩ := hB.2.1.2.2.1 (438, "the dividend or the divisor is out of range") (by decide +kernel)
        exact vx_throwSW hx hb hl0 (own := RX10) (cls := "java/lang/IllegalArgumentException") (text := "the dividend or the divisor is out of range") (names := ["java/lang/RuntimeException", "java/lang/Exception"]) hown (by decide +kernel) (by decide +kernel) (hts _ mU_456) (hts _ mU_80) hsa (zat_156 hts hB) zgo_156 hB.1.1 hB.1.2 hS (hl.1.trans hml.symm) dX10_requireQuotient_23 dX10_requireQuotient_26 dX10_requireQuotient_27 dX10_requireQuotient_30 dX10_requireQuotient_33 (fun x hx => (hnx x hx).elim) (Nat.le_of_ble_eq_true rfl) (Nat.le_of_ble_eq_true rfl) (Nat.le_of_ble_eq_true rfl) (Nat.le_of_ble_eq_true rfl) hlocks (fun t ha hz hk => ⟨(0, ()), ho, ⟨rfl, (z_thr hP hS hz hk).1⟩, (z_thr hP hS hz hk).2⟩) hS.2.2 (Nat.le_of_ble_eq_true rfl) (Nat.le_of_ble_eq_true rfl)
      · have hF := z_neg hF zc3
        refine lv_iload_n hx hb dX10_requireQuotient_16 rfl (lv_at hl 1 rfl) ?_
        refine lv_sipush (v := 999) hx hb dX10_requireQuotient_17 (by decide) ?_
        refine lv_icmp_le (tgt := 34) hx hb dX10_requireQuotient_20 (by decide) (fun zc4 => ?_) (fun zc4 => ?_)
        · have hF := z_pos hF zc4
          have ho := (Option.some.inj hF).symm
          refine vx_ret ?_
          refine W.widen (k := 1) (n := 6) (Nat.le_of_ble_eq_true rfl) (Nat.le_of_ble_eq_true rfl) ?_
          exact W.vret hx hb hr (fun t ht hW => ⟨⟨(), rfl, ⟨_, ho, rfl⟩, z_end ht hP⟩, hS.F ht⟩) hS.2.2 dX10_requireQuotient_34
        · have hF := z_neg hF zc4
          have ho := (Option.some.inj hF).symm
          obtain ⟨sa, hsa⟩ := hB.2.1.2.2.1 (438, "the dividend or the divisor is out of range") (by decide +kernel)
          exact vx_throwSW hx hb hl0 (own := RX10) (cls := "java/lang/IllegalArgumentException") (text := "the dividend or the divisor is out of range") (names := ["java/lang/RuntimeException", "java/lang/Exception"]) hown (by decide +kernel) (by decide +kernel) (hts _ mU_456) (hts _ mU_80) hsa (zat_156 hts hB) zgo_156 hB.1.1 hB.1.2 hS (hl.1.trans hml.symm) dX10_requireQuotient_23 dX10_requireQuotient_26 dX10_requireQuotient_27 dX10_requireQuotient_30 dX10_requireQuotient_33 (fun x hx => (hnx x hx).elim) (Nat.le_of_ble_eq_true rfl) (Nat.le_of_ble_eq_true rfl) (Nat.le_of_ble_eq_true rfl) (Nat.le_of_ble_eq_true rfl) hlocks (fun t ha hz hk => ⟨(0, ()), ho, ⟨rfl, (z_thr hP hS hz hk).1⟩, (z_thr hP hS hz hk).2⟩) hS.2.2 (Nat.le_of_ble_eq_true rfl) (Nat.le_of_ble_eq_true rfl)
abbrev w_X10_unitsOf : List Cond := .code yX10_unitsOf cX10_unitsOf 2 (some .long) :: wU
abbrev r_X10_unitsOf : Room := { frames := 0, cells := 0, slots := 0, locals := 0 }
abbrev q_X10_unitsOf (g : GG) (o : Int64) (A : Nat → Prop) := va_Ql (fun (r : Int64) (u : Unit) => o = r) (fun u t => va_P (gD g) zCl [] t.heap) A
set_option maxHeartbeats 4000000 in
set_option maxRecDepth 100000 in
theorem c_X10_unitsOf (l : Launch) (g : GG) (sz : Nat) (p0 : Int32) (p1 : Int32) (o : Int64) (hF : F_X10_unitsOf p0 p1 = some o) : Met l yX10_unitsOf w_X10_unitsOf r_X10_unitsOf (va_Pc [.int p0, .int p1] (zP g [] sz)) (q_X10_unitsOf g o (va_A [] sz)) 0 0 (va_A [] sz) := by
  refine Met.ofW (cc := cX10_unitsOf) (maxL := 2) (ret := (some .long)) (by decide) rfl ?_
  intro p e s m args below meth c s₁ B hml hv
  obtain ⟨rfl, rfl, hP, hK, hD0, hB⟩ := hv
  have hx := B.exec
  have hb := B.bytes
  have hr := B.returns
  have hts : ∀ w ∈ wU, w.before _ s = true := fun w h => atoms_spec (ws := w_X10_unitsOf) B.pre w (List.mem_cons_of_mem _ h)
  have hown : s.vm.findClass RX10 = some m.cls := findClass_of_methodNamed B.named
  have hlocks := B.notSynchronized
  have hD := hD0.self (sz := s.heap.size)
  generalize hAe : va_A [] s.heap.size = A at hD hB ⊢
  have hA : ∀ q : Nat, s.heap.size ≤ q → A q := fun q h => by rw [← hAe]; exact Or.inr h
  have hS : va_S A s.heap s.heap [] := va_S.rf
  have hl := lv_entry ([.int p0, .int p1]) (n := 2) (Nat.le_of_ble_eq_true rfl)
  rw [lg_entry_eq]
  generalize (lg_sl ([.int p0, .int p1]) ++ List.replicate (2 - (lg_sl ([.int p0, .int p1])).length) Slot.unset).toArray = ls at hl ⊢
  have hl : lv_has ls 2 [(0, .int p0), (1, .int p1)] := hl
  unfold F_X10_unitsOf at hF
  refine lv_iload_n hx hb dX10_unitsOf_0 rfl (lv_at hl 0 rfl) ?_
  refine lv_i2l (v := (Int32.toInt64 p0)) hx hb dX10_unitsOf_1 rfl ?_
  refine lv_ldc2 (v := 10000) hx hb hown (hts _ mU_402) dX10_unitsOf_2 ?_
  refine lv_lmul hx hb dX10_unitsOf_5 ?_
  refine lv_iload_n hx hb dX10_unitsOf_6 rfl (lv_at hl 1 rfl) ?_
  refine lv_i2l (v := (Int32.toInt64 p1)) hx hb dX10_unitsOf_7 rfl ?_
  refine lv_ladd hx hb dX10_unitsOf_8 ?_
  have ho := (Option.some.inj hF).symm
  exact W.lret (v := (((Int32.toInt64 p0) * 10000) + (Int32.toInt64 p1))) hx hb hr (fun t ht hW => ⟨⟨(((Int32.toInt64 p0) * 10000) + (Int32.toInt64 p1)), (), rfl, ho, z_end ht hP⟩, hS.F ht⟩) hS.2.2 dX10_unitsOf_9
abbrev w_X10_digitAt : List Cond := .code yX10_digitAt cX10_digitAt 6 (some .int) :: wU
abbrev r_X10_digitAt : Room := { frames := 0, cells := 0, slots := 0, locals := 0 }
abbrev q_X10_digitAt (g : GG) (o : Int32) (A : Nat → Prop) := va_Qi (fun (r : Int32) (u : Unit) => o = r) (fun u t => va_P (gD g) zCl [] t.heap) A
set_option maxHeartbeats 4000000 in
set_option maxRecDepth 100000 in
theorem c_X10_digitAt (l : Launch) (g : GG) (sz : Nat) (p0 : Int64) (p2 : Int32) (fu : Nat) (o : Int32) (hF : F_X10_digitAt fu p0 p2 = some o) : Met l yX10_digitAt w_X10_digitAt r_X10_digitAt (va_Pc [.long p0, .int p2] (zP g [] sz)) (q_X10_digitAt g o (va_A [] sz)) 0 0 (va_A [] sz) := by
  refine Met.ofW (cc := cX10_digitAt) (maxL := 6) (ret := (some .int)) (by decide) rfl ?_
  intro p e s m args below meth c s₁ B hml hv
  obtain ⟨rfl, rfl, hP, hK, hD0, hB⟩ := hv
  have hx := B.exec
  have hb := B.bytes
  have hr := B.returns
  have hts : ∀ w ∈ wU, w.before _ s = true := fun w h => atoms_spec (ws := w_X10_digitAt) B.pre w (List.mem_cons_of_mem _ h)
  have hown : s.vm.findClass RX10 = some m.cls := findClass_of_methodNamed B.named
  have hlocks := B.notSynchronized
  have hD := hD0.self (sz := s.heap.size)
  generalize hAe : va_A [] s.heap.size = A at hD hB ⊢
  have hA : ∀ q : Nat, s.heap.size ≤ q → A q := fun q h => by rw [← hAe]; exact Or.inr h
  have hS : va_S A s.heap s.heap [] := va_S.rf
  have hl := lv_entry ([.long p0, .int p2]) (n := 6) (Nat.le_of_ble_eq_true rfl)
  rw [lg_entry_eq]
  generalize (lg_sl ([.long p0, .int p2]) ++ List.replicate (6 - (lg_sl ([.long p0, .int p2])).length) Slot.unset).toArray = ls at hl ⊢
  have hl : lv_has ls 6 [(0, .long p0), (2, .int p2)] := hl
  unfold F_X10_digitAt at hF
  have K5 : ∀ (n5 : Nat) (x3 : Int64) (x5 : Int32), F_X10_digitAt_5 fu n5 p2 x3 x5 = some o → ∀ (H : Heap) (locs : List Loc) (ls : Array Slot), lv_has ls 6 [(2, .int p2), (3, .long x3), (5, .int x5)] → va_P (gD g) zCl [] H → va_D A [] → va_S A s.heap H locs → W p l e (headSpec w_X10_digitAt r_X10_digitAt).room s m ([.long p0, .int p2] : List Value).toArray below meth c H locs 0 0 (MQ below (q_X10_digitAt g o A) ([.long p0, .int p2] : List Value).toArray s 0 0 A) (F0 m 5 ls []) := by
    intro n5
    induction n5 with
    | zero =>
      intro x3 x5 hF
      exact absurd hF (by simp [F_X10_digitAt_5])
    | succ n5 ih5 =>
      intro x3 x5 hF H locs ls hl hP hD hS
      unfold F_X10_digitAt_5 at hF
      refine lv_iload hx hb dX10_digitAt_5 (lv_at hl 2 rfl) ?_
      refine lv_iload_n hx hb dX10_digitAt_7 rfl (lv_at hl 0 rfl) ?_
      refine lv_icmp_ge (tgt := 23) hx hb dX10_digitAt_8 (by decide) (fun zc1 => ?_) (fun zc1 => ?_)
      · have hF := z_pos hF zc1
        refine lv_lload_n hx hb dX10_digitAt_23 rfl (lv_at hl 1 rfl) ?_
        refine lv_ldc2 (v := 10) hx hb hown (hts _ mU_409) dX10_digitAt_24 ?_
        refine lv_lrem hx hb dX10_digitAt_27 (by decide) ?_
        refine lv_l2i (v := (Int64.toInt32 (x3 - x3 / 10 * 10))) hx hb dX10_digitAt_28 rfl ?_
        have ho := (Option.some.inj hF).symm
        exact W.iret (v := (Int64.toInt32 (x3 - x3 / 10 * 10))) hx hb hr (fun t ht hW => ⟨⟨(Int64.toInt32 (x3 - x3 / 10 * 10)), (), rfl, ho, z_end ht hP⟩, hS.F ht⟩) hS.2.2 dX10_digitAt_29
      · have hF := z_neg hF zc1
        refine lv_lload_n hx hb dX10_digitAt_11 rfl (lv_at hl 1 rfl) ?_
        refine lv_ldc2 (v := 10) hx hb hown (hts _ mU_409) dX10_digitAt_12 ?_
        refine lv_ldiv hx hb dX10_digitAt_15 (by decide) ?_
        obtain ⟨zv2, ezv2, hF⟩ := z_let hF
        refine z_topl ezv2 ?_
        refine lv_lstore_n (lv' := [(3, .long zv2), (2, .int p2), (5, .int x5)]) hx hb dX10_digitAt_16 rfl hl (by decide) rfl (fun ls hl => ?_)
        obtain ⟨zv3, ezv3, hF⟩ := z_let hF
        refine lv_iinc (v := zv3) (lv' := [(5, .int zv3), (3, .long zv2), (2, .int p2)]) hx hb dX10_digitAt_17 hl (k := 2) rfl (by rw [ezv3]; rfl) (by decide) rfl (fun ls hl => ?_)
        refine lv_goto (tgt := 5) hx hb dX10_digitAt_20 (by decide) ?_
        exact ih5 zv2 zv3 hF _ _ _ (lv_sub hl [2, 1, 0] rfl) hP hD hS
  refine lv_lload_n hx hb dX10_digitAt_0 rfl (lv_at hl 0 rfl) ?_
  refine lv_lstore_n (lv' := [(3, .long p0), (0, .long p0), (2, .int p2)]) hx hb dX10_digitAt_1 rfl hl (by decide) rfl (fun ls hl => ?_)
  refine lv_iconst (v := 0) hx hb dX10_digitAt_2 (by decide) ?_
  refine lv_istore (lv' := [(5, .int 0), (3, .long p0), (0, .long p0), (2, .int p2)]) hx hb dX10_digitAt_3 hl (by decide) rfl (fun ls hl => ?_)
  exact K5 fu p0 0 hF _ _ _ (lv_sub hl [3, 1, 0] rfl) hP hD hS
abbrev w_X10_sumOfDigits : List Cond := .code yX10_sumOfDigits cX10_sumOfDigits 4 (some .int) :: wU
abbrev r_X10_sumOfDigits : Room := { frames := 1, cells := 0, slots := 0, locals := 25 }
abbrev q_X10_sumOfDigits (g : GG) (o : Int32) (A : Nat → Prop) := va_Qi (fun (r : Int32) (u : Unit) => o = r) (fun u t => va_P (gD g) zCl [] t.heap) A
set_option maxHeartbeats 4000000 in
set_option maxRecDepth 100000 in
theorem c_X10_sumOfDigits (l : Launch) (g : GG) (sz : Nat) (p0 : Int64) (fu : Nat) (o : Int32) (hF : F_X10_sumOfDigits fu p0 = some o) : Met l yX10_sumOfDigits w_X10_sumOfDigits r_X10_sumOfDigits (va_Pc [.long p0] (zP g [] sz)) (q_X10_sumOfDigits g o (va_A [] sz)) 0 0 (va_A [] sz) := by
  refine Met.ofW (cc := cX10_sumOfDigits) (maxL := 4) (ret := (some .int)) (by decide) rfl ?_
  intro p e s m args below meth c s₁ B hml hv
  obtain ⟨rfl, rfl, hP, hK, hD0, hB⟩ := hv
  have hx := B.exec
  have hb := B.bytes
  have hr := B.returns
  have hts : ∀ w ∈ wU, w.before _ s = true := fun w h => atoms_spec (ws := w_X10_sumOfDigits) B.pre w (List.mem_cons_of_mem _ h)
  have hown : s.vm.findClass RX10 = some m.cls := findClass_of_methodNamed B.named
  have hlocks := B.notSynchronized
  have hD := hD0.self (sz := s.heap.size)
  generalize hAe : va_A [] s.heap.size = A at hD hB ⊢
  have hA : ∀ q : Nat, s.heap.size ≤ q → A q := fun q h => by rw [← hAe]; exact Or.inr h
  have hS : va_S A s.heap s.heap [] := va_S.rf
  have hl := lv_entry ([.long p0]) (n := 4) (Nat.le_of_ble_eq_true rfl)
  rw [lg_entry_eq]
  generalize (lg_sl ([.long p0]) ++ List.replicate (4 - (lg_sl ([.long p0])).length) Slot.unset).toArray = ls at hl ⊢
  have hl : lv_has ls 4 [(0, .long p0)] := hl
  unfold F_X10_sumOfDigits at hF
  have K4 : ∀ (n4 : Nat) (x2 : Int32) (x3 : Int32), F_X10_sumOfDigits_4 fu n4 p0 x2 x3 = some o → ∀ (H : Heap) (locs : List Loc) (ls : Array Slot), lv_has ls 4 [(0, .long p0), (2, .int x2), (3, .int x3)] → va_P (gD g) zCl [] H → va_D A [] → va_S A s.heap H locs → W p l e (headSpec w_X10_sumOfDigits r_X10_sumOfDigits).room s m ([.long p0] : List Value).toArray below meth c H locs 0 0 (MQ below (q_X10_sumOfDigits g o A) ([.long p0] : List Value).toArray s 0 0 A) (F0 m 4 ls []) := by
    intro n4
    induction n4 with
    | zero =>
      intro x2 x3 hF
      exact absurd hF (by simp [F_X10_sumOfDigits_4])
    | succ n4 ih4 =>
      intro x2 x3 hF H locs ls hl hP hD hS
      unfold F_X10_sumOfDigits_4 at hF
      refine lv_iload_n hx hb dX10_sumOfDigits_4 rfl (lv_at hl 2 rfl) ?_
      refine lv_bipush (v := 10) hx hb dX10_sumOfDigits_5 (by decide) ?_
      refine lv_icmp_gt (tgt := 24) hx hb dX10_sumOfDigits_7 (by decide) (fun zc1 => ?_) (fun zc1 => ?_)
      · have hF := z_pos hF zc1
        refine lv_iload_n hx hb dX10_sumOfDigits_24 rfl (lv_at hl 1 rfl) ?_
        have ho := (Option.some.inj hF).symm
        exact W.iret (v := x2) hx hb hr (fun t ht hW => ⟨⟨x2, (), rfl, ho, z_end ht hP⟩, hS.F ht⟩) hS.2.2 dX10_sumOfDigits_25
      · have hF := z_neg hF zc1
        refine lv_iload_n hx hb dX10_sumOfDigits_10 rfl (lv_at hl 1 rfl) ?_
        refine lv_lload_n hx hb dX10_sumOfDigits_11 rfl (lv_at hl 0 rfl) ?_
        refine lv_iload_n hx hb dX10_sumOfDigits_12 rfl (lv_at hl 2 rfl) ?_
        obtain ⟨zo2, hzo2, hF⟩ := z_bind hF
        refine z_calliE (fun (_ : Unit) => []) (va_runS (As := [.long p0, .int x3]) (rest := [.int x2]) ⟨hx, hb, hml, hown, hts⟩ (c_X10_digitAt l g _ p0 x3 fu _ hzo2) (va_cwS 2 hts (gdS mU_406 mU_407 mU_66 mU_408) rfl rfl rfl (by decide +kernel) ⟨Nat.le_of_ble_eq_true rfl, Nat.le_of_ble_eq_true rfl⟩) ⟨z_blind _ _ _ _, fun U hU hW => z_preE hP hD hK hB hS hA hU hW⟩ rfl rfl hl.1 rfl (lv_room (Nat.le_of_ble_eq_true rfl)) dX10_sumOfDigits_13 ⟨Nat.le_of_ble_eq_true rfl, Nat.le_of_ble_eq_true rfl⟩) hD hS hA (fun _ => rfl) (fun r u H locs hw hP hD hS => ?_)
        subst hw
        have hP : va_P (gD g) zCl [] H := hP
        have hD : va_D A [] := hD
        refine lv_iadd hx hb dX10_sumOfDigits_16 ?_
        obtain ⟨zv3, ezv3, hF⟩ := z_let hF
        refine z_topi ezv3 ?_
        refine lv_istore_n (lv' := [(2, .int zv3), (0, .long p0), (3, .int x3)]) hx hb dX10_sumOfDigits_17 rfl hl (by decide) rfl (fun ls hl => ?_)
        obtain ⟨zv4, ezv4, hF⟩ := z_let hF
        refine lv_iinc (v := zv4) (lv' := [(3, .int zv4), (2, .int zv3), (0, .long p0)]) hx hb dX10_sumOfDigits_18 hl (k := 2) rfl (by rw [ezv4]; rfl) (by decide) rfl (fun ls hl => ?_)
        refine lv_goto (tgt := 4) hx hb dX10_sumOfDigits_21 (by decide) ?_
        exact ih4 zv3 zv4 hF _ _ _ (lv_sub hl [2, 1, 0] rfl) hP hD hS
  refine lv_iconst (v := 0) hx hb dX10_sumOfDigits_0 (by decide) ?_
  refine lv_istore_n (lv' := [(2, .int 0), (0, .long p0)]) hx hb dX10_sumOfDigits_1 rfl hl (by decide) rfl (fun ls hl => ?_)
  refine lv_iconst (v := 0) hx hb dX10_sumOfDigits_2 (by decide) ?_
  refine lv_istore_n (lv' := [(3, .int 0), (2, .int 0), (0, .long p0)]) hx hb dX10_sumOfDigits_3 rfl hl (by decide) rfl (fun ls hl => ?_)
  exact K4 fu 0 0 hF _ _ _ (lv_sub hl [2, 1, 0] rfl) hP hD hS
abbrev w_X10_carryingPlaces : List Cond := .code yX10_carryingPlaces cX10_carryingPlaces 7 (some .int) :: wU
abbrev r_X10_carryingPlaces : Room := { frames := 1, cells := 0, slots := 0, locals := 25 }
abbrev q_X10_carryingPlaces (g : GG) (o : Int32) (A : Nat → Prop) := va_Qi (fun (r : Int32) (u : Unit) => o = r) (fun u t => va_P (gD g) zCl [] t.heap) A
set_option maxHeartbeats 4000000 in
set_option maxRecDepth 100000 in
theorem c_X10_carryingPlaces (l : Launch) (g : GG) (sz : Nat) (p0 : Int64) (p2 : Int64) (fu : Nat) (o : Int32) (hF : F_X10_carryingPlaces fu p0 p2 = some o) : Met l yX10_carryingPlaces w_X10_carryingPlaces r_X10_carryingPlaces (va_Pc [.long p0, .long p2] (zP g [] sz)) (q_X10_carryingPlaces g o (va_A [] sz)) 0 0 (va_A [] sz) := by
  refine Met.ofW (cc := cX10_carryingPlaces) (maxL := 7) (ret := (some .int)) (by decide) rfl ?_
  intro p e s m args below meth c s₁ B hml hv
  obtain ⟨rfl, rfl, hP, hK, hD0, hB⟩ := hv
  have hx := B.exec
  have hb := B.bytes
  have hr := B.returns
  have hts : ∀ w ∈ wU, w.before _ s = true := fun w h => atoms_spec (ws := w_X10_carryingPlaces) B.pre w (List.mem_cons_of_mem _ h)
  have hown : s.vm.findClass RX10 = some m.cls := findClass_of_methodNamed B.named
  have hlocks := B.notSynchronized
  have hD := hD0.self (sz := s.heap.size)
  generalize hAe : va_A [] s.heap.size = A at hD hB ⊢
  have hA : ∀ q : Nat, s.heap.size ≤ q → A q := fun q h => by rw [← hAe]; exact Or.inr h
  have hS : va_S A s.heap s.heap [] := va_S.rf
  have hl := lv_entry ([.long p0, .long p2]) (n := 7) (Nat.le_of_ble_eq_true rfl)
  rw [lg_entry_eq]
  generalize (lg_sl ([.long p0, .long p2]) ++ List.replicate (7 - (lg_sl ([.long p0, .long p2])).length) Slot.unset).toArray = ls at hl ⊢
  have hl : lv_has ls 7 [(0, .long p0), (2, .long p2)] := hl
  unfold F_X10_carryingPlaces at hF
  have K9 : ∀ (n9 : Nat) (x4 : Int32) (x5 : Int32) (x6 : Int32), F_X10_carryingPlaces_9 fu n9 p0 p2 x4 x5 x6 = some o → ∀ (H : Heap) (locs : List Loc) (ls : Array Slot), lv_has ls 7 [(0, .long p0), (2, .long p2), (4, .int x4), (5, .int x5), (6, .int x6)] → va_P (gD g) zCl [] H → va_D A [] → va_S A s.heap H locs → W p l e (headSpec w_X10_carryingPlaces r_X10_carryingPlaces).room s m ([.long p0, .long p2] : List Value).toArray below meth c H locs 0 0 (MQ below (q_X10_carryingPlaces g o A) ([.long p0, .long p2] : List Value).toArray s 0 0 A) (F0 m 9 ls []) := by
    intro n9
    induction n9 with
    | zero =>
      intro x4 x5 x6 hF
      exact absurd hF (by simp [F_X10_carryingPlaces_9])
    | succ n9 ih9 =>
      intro x4 x5 x6 hF H locs ls hl hP hD hS
      unfold F_X10_carryingPlaces_9 at hF
      refine lv_iload hx hb dX10_carryingPlaces_9 (lv_at hl 4 rfl) ?_
      refine lv_bipush (v := 10) hx hb dX10_carryingPlaces_11 (by decide) ?_
      refine lv_icmp_ge (tgt := 60) hx hb dX10_carryingPlaces_13 (by decide) (fun zc1 => ?_) (fun zc1 => ?_)
      · have hF := z_pos hF zc1
        refine lv_iload hx hb dX10_carryingPlaces_60 (lv_at hl 2 rfl) ?_
        have ho := (Option.some.inj hF).symm
        exact W.iret (v := x4) hx hb hr (fun t ht hW => ⟨⟨x4, (), rfl, ho, z_end ht hP⟩, hS.F ht⟩) hS.2.2 dX10_carryingPlaces_62
      · have hF := z_neg hF zc1
        refine lv_lload_n hx hb dX10_carryingPlaces_16 rfl (lv_at hl 0 rfl) ?_
        refine lv_iload hx hb dX10_carryingPlaces_17 (lv_at hl 4 rfl) ?_
        obtain ⟨zo2, hzo2, hF⟩ := z_bind hF
        refine z_calliE (fun (_ : Unit) => []) (va_runS (As := [.long p0, .int x6]) (rest := []) ⟨hx, hb, hml, hown, hts⟩ (c_X10_digitAt l g _ p0 x6 fu _ hzo2) (va_cwS 2 hts (gdS mU_406 mU_407 mU_66 mU_408) rfl rfl rfl (by decide +kernel) ⟨Nat.le_of_ble_eq_true rfl, Nat.le_of_ble_eq_true rfl⟩) ⟨z_blind _ _ _ _, fun U hU hW => z_preE hP hD hK hB hS hA hU hW⟩ rfl rfl hl.1 rfl (lv_room (Nat.le_of_ble_eq_true rfl)) dX10_carryingPlaces_19 ⟨Nat.le_of_ble_eq_true rfl, Nat.le_of_ble_eq_true rfl⟩) hD hS hA (fun _ => rfl) (fun r u H locs hw hP hD hS => ?_)
        subst hw
        have hP : va_P (gD g) zCl [] H := hP
        have hD : va_D A [] := hD
        refine lv_lload_n hx hb dX10_carryingPlaces_22 rfl (lv_at hl 1 rfl) ?_
        refine lv_iload hx hb dX10_carryingPlaces_23 (lv_at hl 4 rfl) ?_
        obtain ⟨zo3, hzo3, hF⟩ := z_bind hF
        refine z_calliE (fun (_ : Unit) => []) (va_runS (As := [.long p2, .int x6]) (rest := [.int zo2]) ⟨hx, hb, hml, hown, hts⟩ (c_X10_digitAt l g _ p2 x6 fu _ hzo3) (va_cwS 2 hts (gdS mU_406 mU_407 mU_66 mU_408) rfl rfl rfl (by decide +kernel) ⟨Nat.le_of_ble_eq_true rfl, Nat.le_of_ble_eq_true rfl⟩) ⟨z_blind _ _ _ _, fun U hU hW => z_preE hP hD hK hB hS hA hU hW⟩ rfl rfl hl.1 rfl (lv_room (Nat.le_of_ble_eq_true rfl)) dX10_carryingPlaces_25 ⟨Nat.le_of_ble_eq_true rfl, Nat.le_of_ble_eq_true rfl⟩) hD hS hA (fun _ => rfl) (fun r u H locs hw hP hD hS => ?_)
        subst hw
        have hP : va_P (gD g) zCl [] H := hP
        have hD : va_D A [] := hD
        refine lv_iadd hx hb dX10_carryingPlaces_28 ?_
        refine lv_iload hx hb dX10_carryingPlaces_29 (lv_at hl 3 rfl) ?_
        refine lv_iadd hx hb dX10_carryingPlaces_31 ?_
        refine lv_bipush (v := 9) hx hb dX10_carryingPlaces_32 (by decide) ?_
        refine lv_icmp_le (tgt := 41) hx hb dX10_carryingPlaces_34 (by decide) (fun zc4 => ?_) (fun zc4 => ?_)
        · have hF := z_pos hF zc4
          refine lv_iconst (v := 0) hx hb dX10_carryingPlaces_41 (by decide) ?_
          refine lv_istore (lv' := [(5, .int 0), (0, .long p0), (2, .long p2), (4, .int x4), (6, .int x6)]) hx hb dX10_carryingPlaces_42 hl (by decide) rfl (fun ls hl => ?_)
          refine lv_iload hx hb dX10_carryingPlaces_44 (lv_at hl 3 rfl) ?_
          refine lv_iload hx hb dX10_carryingPlaces_46 (lv_at hl 0 rfl) ?_
          refine lv_iload hx hb dX10_carryingPlaces_48 (lv_at hl 4 rfl) ?_
          refine lv_ishl hx hb dX10_carryingPlaces_50 ?_
          refine lv_ior hx hb dX10_carryingPlaces_51 ?_
          obtain ⟨zv5, ezv5, hF⟩ := z_let hF
          refine z_topi ezv5 ?_
          refine lv_istore (lv' := [(4, .int zv5), (5, .int 0), (0, .long p0), (2, .long p2), (6, .int x6)]) hx hb dX10_carryingPlaces_52 hl (by decide) rfl (fun ls hl => ?_)
          obtain ⟨zv6, ezv6, hF⟩ := z_let hF
          refine lv_iinc (v := zv6) (lv' := [(6, .int zv6), (4, .int zv5), (5, .int 0), (0, .long p0), (2, .long p2)]) hx hb dX10_carryingPlaces_54 hl (k := 4) rfl (by rw [ezv6]; rfl) (by decide) rfl (fun ls hl => ?_)
          refine lv_goto (tgt := 9) hx hb dX10_carryingPlaces_57 (by decide) ?_
          exact ih9 zv5 0 zv6 hF _ _ _ (lv_sub hl [3, 4, 1, 2, 0] rfl) hP hD hS
        · have hF := z_neg hF zc4
          refine lv_iconst (v := 1) hx hb dX10_carryingPlaces_37 (by decide) ?_
          refine lv_goto (tgt := 42) hx hb dX10_carryingPlaces_38 (by decide) ?_
          refine lv_istore (lv' := [(5, .int 1), (0, .long p0), (2, .long p2), (4, .int x4), (6, .int x6)]) hx hb dX10_carryingPlaces_42 hl (by decide) rfl (fun ls hl => ?_)
          refine lv_iload hx hb dX10_carryingPlaces_44 (lv_at hl 3 rfl) ?_
          refine lv_iload hx hb dX10_carryingPlaces_46 (lv_at hl 0 rfl) ?_
          refine lv_iload hx hb dX10_carryingPlaces_48 (lv_at hl 4 rfl) ?_
          refine lv_ishl hx hb dX10_carryingPlaces_50 ?_
          refine lv_ior hx hb dX10_carryingPlaces_51 ?_
          obtain ⟨zv7, ezv7, hF⟩ := z_let hF
          refine z_topi ezv7 ?_
          refine lv_istore (lv' := [(4, .int zv7), (5, .int 1), (0, .long p0), (2, .long p2), (6, .int x6)]) hx hb dX10_carryingPlaces_52 hl (by decide) rfl (fun ls hl => ?_)
          obtain ⟨zv8, ezv8, hF⟩ := z_let hF
          refine lv_iinc (v := zv8) (lv' := [(6, .int zv8), (4, .int zv7), (5, .int 1), (0, .long p0), (2, .long p2)]) hx hb dX10_carryingPlaces_54 hl (k := 4) rfl (by rw [ezv8]; rfl) (by decide) rfl (fun ls hl => ?_)
          refine lv_goto (tgt := 9) hx hb dX10_carryingPlaces_57 (by decide) ?_
          exact ih9 zv7 1 zv8 hF _ _ _ (lv_sub hl [3, 4, 1, 2, 0] rfl) hP hD hS
  refine lv_iconst (v := 0) hx hb dX10_carryingPlaces_0 (by decide) ?_
  refine lv_istore (lv' := [(4, .int 0), (0, .long p0), (2, .long p2)]) hx hb dX10_carryingPlaces_1 hl (by decide) rfl (fun ls hl => ?_)
  refine lv_iconst (v := 0) hx hb dX10_carryingPlaces_3 (by decide) ?_
  refine lv_istore (lv' := [(5, .int 0), (4, .int 0), (0, .long p0), (2, .long p2)]) hx hb dX10_carryingPlaces_4 hl (by decide) rfl (fun ls hl => ?_)
  refine lv_iconst (v := 0) hx hb dX10_carryingPlaces_6 (by decide) ?_
  refine lv_istore (lv' := [(6, .int 0), (5, .int 0), (4, .int 0), (0, .long p0), (2, .long p2)]) hx hb dX10_carryingPlaces_7 hl (by decide) rfl (fun ls hl => ?_)
  exact K9 fu 0 0 0 hF _ _ _ (lv_sub hl [3, 4, 2, 1, 0] rfl) hP hD hS
abbrev w_X10_carriesByDigitSums : List Cond := .code yX10_carriesByDigitSums cX10_carriesByDigitSums 4 (some .int) :: wU
abbrev r_X10_carriesByDigitSums : Room := { frames := 2, cells := 0, slots := 0, locals := 48 }
abbrev q_X10_carriesByDigitSums (g : GG) (o : Int32) (A : Nat → Prop) := va_Qi (fun (r : Int32) (u : Unit) => o = r) (fun u t => va_P (gD g) zCl [] t.heap) A
set_option maxHeartbeats 4000000 in
set_option maxRecDepth 100000 in
theorem c_X10_carriesByDigitSums (l : Launch) (g : GG) (sz : Nat) (p0 : Int64) (p2 : Int64) (fu : Nat) (o : Int32) (hF : F_X10_carriesByDigitSums fu p0 p2 = some o) : Met l yX10_carriesByDigitSums w_X10_carriesByDigitSums r_X10_carriesByDigitSums (va_Pc [.long p0, .long p2] (zP g [] sz)) (q_X10_carriesByDigitSums g o (va_A [] sz)) 0 0 (va_A [] sz) := by
  refine Met.ofW (cc := cX10_carriesByDigitSums) (maxL := 4) (ret := (some .int)) (by decide) rfl ?_
  intro p e s m args below meth c s₁ B hml hv
  obtain ⟨rfl, rfl, hP, hK, hD0, hB⟩ := hv
  have hx := B.exec
  have hb := B.bytes
  have hr := B.returns
  have hts : ∀ w ∈ wU, w.before _ s = true := fun w h => atoms_spec (ws := w_X10_carriesByDigitSums) B.pre w (List.mem_cons_of_mem _ h)
  have hown : s.vm.findClass RX10 = some m.cls := findClass_of_methodNamed B.named
  have hlocks := B.notSynchronized
  have hD := hD0.self (sz := s.heap.size)
  generalize hAe : va_A [] s.heap.size = A at hD hB ⊢
  have hA : ∀ q : Nat, s.heap.size ≤ q → A q := fun q h => by rw [← hAe]; exact Or.inr h
  have hS : va_S A s.heap s.heap [] := va_S.rf
  have hl := lv_entry ([.long p0, .long p2]) (n := 4) (Nat.le_of_ble_eq_true rfl)
  rw [lg_entry_eq]
  generalize (lg_sl ([.long p0, .long p2]) ++ List.replicate (4 - (lg_sl ([.long p0, .long p2])).length) Slot.unset).toArray = ls at hl ⊢
  have hl : lv_has ls 4 [(0, .long p0), (2, .long p2)] := hl
  unfold F_X10_carriesByDigitSums at hF
  refine lv_lload_n hx hb dX10_carriesByDigitSums_0 rfl (lv_at hl 0 rfl) ?_
  obtain ⟨zo1, hzo1, hF⟩ := z_bind hF
  refine z_calliE (fun (_ : Unit) => []) (va_runS (As := [.long p0]) (rest := []) ⟨hx, hb, hml, hown, hts⟩ (c_X10_sumOfDigits l g _ p0 fu _ hzo1) (va_cwS 1 hts (gdS mU_419 mU_420 mU_66 mU_421) rfl rfl rfl (by decide +kernel) ⟨Nat.le_of_ble_eq_true rfl, Nat.le_of_ble_eq_true rfl⟩) ⟨z_blind _ _ _ _, fun U hU hW => z_preE hP hD hK hB hS hA hU hW⟩ rfl rfl hl.1 rfl (lv_room (Nat.le_of_ble_eq_true rfl)) dX10_carriesByDigitSums_1 ⟨Nat.le_of_ble_eq_true rfl, Nat.le_of_ble_eq_true rfl⟩) hD hS hA (fun _ => rfl) (fun r u H locs hw hP hD hS => ?_)
  subst hw
  have hP : va_P (gD g) zCl [] H := hP
  have hD : va_D A [] := hD
  refine lv_lload_n hx hb dX10_carriesByDigitSums_4 rfl (lv_at hl 1 rfl) ?_
  obtain ⟨zo2, hzo2, hF⟩ := z_bind hF
  refine z_calliE (fun (_ : Unit) => []) (va_runS (As := [.long p2]) (rest := [.int zo1]) ⟨hx, hb, hml, hown, hts⟩ (c_X10_sumOfDigits l g _ p2 fu _ hzo2) (va_cwS 1 hts (gdS mU_419 mU_420 mU_66 mU_421) rfl rfl rfl (by decide +kernel) ⟨Nat.le_of_ble_eq_true rfl, Nat.le_of_ble_eq_true rfl⟩) ⟨z_blind _ _ _ _, fun U hU hW => z_preE hP hD hK hB hS hA hU hW⟩ rfl rfl hl.1 rfl (lv_room (Nat.le_of_ble_eq_true rfl)) dX10_carriesByDigitSums_5 ⟨Nat.le_of_ble_eq_true rfl, Nat.le_of_ble_eq_true rfl⟩) hD hS hA (fun _ => rfl) (fun r u H locs hw hP hD hS => ?_)
  subst hw
  have hP : va_P (gD g) zCl [] H := hP
  have hD : va_D A [] := hD
  refine lv_iadd hx hb dX10_carriesByDigitSums_8 ?_
  refine lv_lload_n hx hb dX10_carriesByDigitSums_9 rfl (lv_at hl 0 rfl) ?_
  refine lv_lload_n hx hb dX10_carriesByDigitSums_10 rfl (lv_at hl 1 rfl) ?_
  refine lv_ladd hx hb dX10_carriesByDigitSums_11 ?_
  obtain ⟨zo3, hzo3, hF⟩ := z_bind hF
  refine z_calliE (fun (_ : Unit) => []) (va_runS (As := [.long (p0 + p2)]) (rest := [.int (zo1 + zo2)]) ⟨hx, hb, hml, hown, hts⟩ (c_X10_sumOfDigits l g _ (p0 + p2) fu _ hzo3) (va_cwS 1 hts (gdS mU_419 mU_420 mU_66 mU_421) rfl rfl rfl (by decide +kernel) ⟨Nat.le_of_ble_eq_true rfl, Nat.le_of_ble_eq_true rfl⟩) ⟨z_blind _ _ _ _, fun U hU hW => z_preE hP hD hK hB hS hA hU hW⟩ rfl rfl hl.1 rfl (lv_room (Nat.le_of_ble_eq_true rfl)) dX10_carriesByDigitSums_12 ⟨Nat.le_of_ble_eq_true rfl, Nat.le_of_ble_eq_true rfl⟩) hD hS hA (fun _ => rfl) (fun r u H locs hw hP hD hS => ?_)
  subst hw
  have hP : va_P (gD g) zCl [] H := hP
  have hD : va_D A [] := hD
  refine lv_isub hx hb dX10_carriesByDigitSums_15 ?_
  refine lv_bipush (v := 9) hx hb dX10_carriesByDigitSums_16 (by decide) ?_
  refine lv_idiv hx hb dX10_carriesByDigitSums_18 (by decide) ?_
  have ho := (Option.some.inj hF).symm
  exact W.iret (v := (((zo1 + zo2) - zo3) / 9)) hx hb hr (fun t ht hW => ⟨⟨(((zo1 + zo2) - zo3) / 9), (), rfl, ho, z_end ht hP⟩, hS.F ht⟩) hS.2.2 dX10_carriesByDigitSums_19
