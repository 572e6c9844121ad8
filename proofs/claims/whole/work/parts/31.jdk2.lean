abbrev w_J0_checkIndex_df160 : List Cond := .code yJ0_checkIndex_df160 cJ0_checkIndex_df160 2 none :: wU
abbrev r_J0_checkIndex_df160 : Room := { frames := 1, cells := 0, slots := 0, locals := 22 }
abbrev q_J0_checkIndex_df160 (g : GG) (o : Unit) (A : Nat → Prop) := va_Qv (fun (u : Unit) => True) (fun u t => va_P (gD g) zCl [] t.heap) A
set_option maxHeartbeats 4000000 in
set_option maxRecDepth 100000 in
theorem c_J0_checkIndex_df160 (l : Launch) (g : GG) (sz : Nat) (p0 : Int32) (p1 : Int32) (o : Unit) (hF : F_J0_checkIndex_df160 p0 p1 = some o) : Met l yJ0_checkIndex_df160 w_J0_checkIndex_df160 r_J0_checkIndex_df160 (va_Pc [.int p0, .int p1] (zP g [] sz)) (q_J0_checkIndex_df160 g o (va_A [] sz)) 0 0 (va_A [] sz) := by
  refine Met.ofW (cc := cJ0_checkIndex_df160) (maxL := 2) (ret := none) (by decide) rfl ?_
  intro p e s m args below meth c s₁ B hml hv
  obtain ⟨rfl, rfl, hP, hK, hD0, hB⟩ := hv
  have hx := B.exec
  have hb := B.bytes
  have hr := B.returns
  have hts : ∀ w ∈ wU, w.before _ s = true := fun w h => atoms_spec (ws := w_J0_checkIndex_df160) B.pre w (List.mem_cons_of_mem _ h)
  have hown : s.vm.findClass RJ0 = some m.cls := findClass_of_methodNamed B.named
  have hlocks := B.notSynchronized
  have hD := hD0.self (sz := s.heap.size)
  generalize hAe : va_A [] s.heap.size = A at hD hB ⊢
  have hA : ∀ q : Nat, s.heap.size ≤ q → A q := fun q h => by rw [← hAe]; exact Or.inr h
  have hS : va_S A s.heap s.heap [] := va_S.rf
  have hl := lv_entry ([.int p0, .int p1]) (n := 2) (Nat.le_of_ble_eq_true rfl)
  rw [lg_entry_eq]
  generalize (lg_sl ([.int p0, .int p1]) ++ List.replicate (2 - (lg_sl ([.int p0, .int p1])).length) Slot.unset).toArray = ls at hl ⊢
  have hl : lv_has ls 2 [(0, .int p0), (1, .int p1)] := hl
  unfold F_J0_checkIndex_df160 at hF
  refine lv_iload_n hx hb dJ0_checkIndex_df160_0 rfl (lv_at hl 0 rfl) ?_
  refine lv_iload_n hx hb dJ0_checkIndex_df160_1 rfl (lv_at hl 1 rfl) ?_
  rcases hB.2.2.1.2.2 with hZ | ⟨r0, hZ⟩
  · refine va_gets hx hb hZ hS hown (hts _ mU_591) (fun _ h9 => h9) dJ0_checkIndex_df160_2 ?_
    obtain ⟨zo1, hzo1, hF⟩ := z_bind hF
    refine z_calliE (fun (_ : Unit) => []) (va_runS (As := [.int p0, .int p1, .null]) (rest := []) ⟨hx, hb, hml, hown, hts⟩ (c_J3_checkIndexN l g _ p0 p1 _ hzo1) (va_cwS 3 hts (gdS mU_1083 mU_1084 mU_85 mU_1085) rfl rfl rfl (by decide +kernel) ⟨Nat.le_of_ble_eq_true rfl, Nat.le_of_ble_eq_true rfl⟩) ⟨z_blind _ _ _ _, fun U hU hW => z_preE hP hD hK hB hS hA hU hW⟩ rfl rfl hl.1 rfl (lv_room (Nat.le_of_ble_eq_true rfl)) dJ0_checkIndex_df160_5 ⟨Nat.le_of_ble_eq_true rfl, Nat.le_of_ble_eq_true rfl⟩) hD hS hA (fun _ => rfl) (fun r u H locs hw hP hD hS => ?_)
    subst hw
    have hP : va_P (gD g) zCl [] H := hP
    have hD : va_D A [] := hD
    refine lv_pop hx hb dJ0_checkIndex_df160_8 rfl ?_
    have ho := (Option.some.inj hF).symm
    exact W.vret hx hb hr (fun t ht hW => ⟨⟨(), rfl, trivial, z_end ht hP⟩, hS.F ht⟩) hS.2.2 dJ0_checkIndex_df160_9
  · refine va_gets hx hb hZ hS hown (hts _ mU_591) (fun _ h9 => h9) dJ0_checkIndex_df160_2 ?_
    obtain ⟨zo2, hzo2, hF⟩ := z_bind hF
    refine z_calliE (fun (_ : Unit) => []) (va_runS (As := [.int p0, .int p1, .ref r0]) (rest := []) ⟨hx, hb, hml, hown, hts⟩ (c_J3_checkIndexR l g _ r0 p0 p1 _ hzo2) (va_cwS 3 hts (gdS mU_1083 mU_1084 mU_85 mU_1085) rfl rfl rfl (by decide +kernel) ⟨Nat.le_of_ble_eq_true rfl, Nat.le_of_ble_eq_true rfl⟩) ⟨z_blind _ _ _ _, fun U hU hW => z_preE hP hD hK hB hS hA hU hW⟩ rfl rfl hl.1 rfl (lv_room (Nat.le_of_ble_eq_true rfl)) dJ0_checkIndex_df160_5 ⟨Nat.le_of_ble_eq_true rfl, Nat.le_of_ble_eq_true rfl⟩) hD hS hA (fun _ => rfl) (fun r u H locs hw hP hD hS => ?_)
    subst hw
    have hP : va_P (gD g) zCl [] H := hP
    have hD : va_D A [] := hD
    refine lv_pop hx hb dJ0_checkIndex_df160_8 rfl ?_
    have ho := (Option.some.inj hF).symm
    exact W.vret hx hb hr (fun t ht hW => ⟨⟨(), rfl, trivial, z_end ht hP⟩, hS.F ht⟩) hS.2.2 dJ0_checkIndex_df160_9
abbrev w_J1_charAt_3b067 : List Cond := .code yJ1_charAt_3b067 cJ1_charAt_3b067 2 (some .char) :: wU
abbrev r_J1_charAt_3b067 : Room := { frames := 2, cells := 0, slots := 0, locals := 43 }
abbrev q_J1_charAt_3b067 (g : GG) (o : Int32) (A : Nat → Prop) := va_Qi (fun (r : Int32) (u : Unit) => o = r) (fun u t => va_P (gD g) zCl [] t.heap) A
set_option maxHeartbeats 4000000 in
set_option maxRecDepth 100000 in
theorem c_J1_charAt_3b067 (l : Launch) (g : GG) (sz : Nat) (k0 : Nat) (hk0 : k0 < 9) (p1 : Int32) (o : Int32) (hF : F_J1_charAt_3b067 k0 p1 = some o) : Met l yJ1_charAt_3b067 w_J1_charAt_3b067 r_J1_charAt_3b067 (va_Pc [.ref (gaV g k0), .int p1] (zP g [] sz)) (q_J1_charAt_3b067 g o (va_A [] sz)) 0 0 (va_A [] sz) := by
  refine Met.ofW (cc := cJ1_charAt_3b067) (maxL := 2) (ret := (some .char)) (by decide) rfl ?_
  intro p e s m args below meth c s₁ B hml hv
  obtain ⟨rfl, rfl, hP, hK, hD0, hB⟩ := hv
  have hx := B.exec
  have hb := B.bytes
  have hr := B.returns
  have hts : ∀ w ∈ wU, w.before _ s = true := fun w h => atoms_spec (ws := w_J1_charAt_3b067) B.pre w (List.mem_cons_of_mem _ h)
  have hown : s.vm.findClass RJ1 = some m.cls := findClass_of_methodNamed B.named
  have hlocks := B.notSynchronized
  have hD := hD0.self (sz := s.heap.size)
  generalize hAe : va_A [] s.heap.size = A at hD hB ⊢
  have hA : ∀ q : Nat, s.heap.size ≤ q → A q := fun q h => by rw [← hAe]; exact Or.inr h
  have hS : va_S A s.heap s.heap [] := va_S.rf
  have hl := lv_entry ([.ref (gaV g k0), .int p1]) (n := 2) (Nat.le_of_ble_eq_true rfl)
  rw [lg_entry_eq]
  generalize (lg_sl ([.ref (gaV g k0), .int p1]) ++ List.replicate (2 - (lg_sl ([.ref (gaV g k0), .int p1])).length) Slot.unset).toArray = ls at hl ⊢
  have hl : lv_has ls 2 [(0, .ref (gaV g k0)), (1, .int p1)] := hl
  unfold F_J1_charAt_3b067 at hF
  refine lv_iload_n hx hb dJ1_charAt_3b067_0 rfl (lv_at hl 1 rfl) ?_
  refine lv_aload_n hx hb dJ1_charAt_3b067_1 rfl (lv_at hl 0 rfl) ?_
  refine va_tlen hx hb (hB.2.2.1.1.1 k0 hk0).2.2.2 hS (v := (nI (zLen.getD k0 0))) rfl dJ1_charAt_3b067_2 ?_
  obtain ⟨zo1, hzo1, hF⟩ := z_bind hF
  refine z_callvE (fun (_ : Unit) => []) (va_runS (As := [.int p1, .int (nI (zLen.getD k0 0))]) (rest := []) ⟨hx, hb, hml, hown, hts⟩ (c_J0_checkIndex_df160 l g _ p1 (nI (zLen.getD k0 0)) _ hzo1) (va_cwS 2 hts (gdS mU_1080 mU_1081 mU_81 mU_1082) rfl rfl rfl (by decide +kernel) ⟨Nat.le_of_ble_eq_true rfl, Nat.le_of_ble_eq_true rfl⟩) ⟨z_blind _ _ _ _, fun U hU hW => z_preE hP hD hK hB hS hA hU hW⟩ rfl rfl hl.1 rfl (lv_room (Nat.le_of_ble_eq_true rfl)) dJ1_charAt_3b067_3 ⟨Nat.le_of_ble_eq_true rfl, Nat.le_of_ble_eq_true rfl⟩) hD hS hA (fun _ => rfl) (fun u H locs hw hP hD hS => ?_)
  have hP : va_P (gD g) zCl [] H := hP
  have hD : va_D A [] := hD
  refine lv_aload_n hx hb dJ1_charAt_3b067_6 rfl (lv_at hl 0 rfl) ?_
  refine lv_iload_n hx hb dJ1_charAt_3b067_7 rfl (lv_at hl 1 rfl) ?_
  obtain ⟨zg2, hF⟩ := z_grd hF
  refine va_tb hx hb (hB.2.2.1.1.1 k0 hk0).2.2.2 hS zg2 (v := .int ((zByt.getD k0 []).getD (Int32.toNatClampNeg p1) 0)) rfl dJ1_charAt_3b067_8 ?_
  refine lv_sipush (v := 255) hx hb dJ1_charAt_3b067_9 (by decide) ?_
  refine lv_iand hx hb dJ1_charAt_3b067_12 ?_
  refine lv_i2c (v := (zchar (((zByt.getD k0 []).getD (Int32.toNatClampNeg p1) 0) &&& 255))) hx hb dJ1_charAt_3b067_13 rfl ?_
  obtain ⟨zg3, hF⟩ := z_grd hF
  have ho := (Option.some.inj hF).symm
  exact W.zret (v := (zchar (((zByt.getD k0 []).getD (Int32.toNatClampNeg p1) 0) &&& 255))) hx hb hr (z_narc (Classical.not_not.mp zg3)).1 (fun t ht hW => ⟨⟨(zchar (((zByt.getD k0 []).getD (Int32.toNatClampNeg p1) 0) &&& 255)), (), rfl, ho, z_end ht hP⟩, hS.F ht⟩) hS.2.2 dJ1_charAt_3b067_14
abbrev w_J0_charAt_5068e : List Cond := .code yJ0_charAt_5068e cJ0_charAt_5068e 2 (some .char) :: wU
abbrev r_J0_charAt_5068e : Room := { frames := 3, cells := 0, slots := 0, locals := 64 }
abbrev q_J0_charAt_5068e (g : GG) (o : Int32) (A : Nat → Prop) := va_Qi (fun (r : Int32) (u : Unit) => o = r) (fun u t => va_P (gD g) zCl [] t.heap) A
set_option maxHeartbeats 4000000 in
set_option maxRecDepth 100000 in
theorem c_J0_charAt_5068e (l : Launch) (g : GG) (sz : Nat) (k0 : Nat) (hk0 : k0 < 9) (p1 : Int32) (o : Int32) (hF : F_J0_charAt_5068e k0 p1 = some o) : Met l yJ0_charAt_5068e w_J0_charAt_5068e r_J0_charAt_5068e (va_Pc [.ref (gaK g k0), .int p1] (zP g [] sz)) (q_J0_charAt_5068e g o (va_A [] sz)) 0 0 (va_A [] sz) := by
  refine Met.ofW (cc := cJ0_charAt_5068e) (maxL := 2) (ret := (some .char)) (by decide) rfl ?_
  intro p e s m args below meth c s₁ B hml hv
  obtain ⟨rfl, rfl, hP, hK, hD0, hB⟩ := hv
  have hx := B.exec
  have hb := B.bytes
  have hr := B.returns
  have hts : ∀ w ∈ wU, w.before _ s = true := fun w h => atoms_spec (ws := w_J0_charAt_5068e) B.pre w (List.mem_cons_of_mem _ h)
  have hown : s.vm.findClass RJ0 = some m.cls := findClass_of_methodNamed B.named
  have hlocks := B.notSynchronized
  have hD := hD0.self (sz := s.heap.size)
  generalize hAe : va_A [] s.heap.size = A at hD hB ⊢
  have hA : ∀ q : Nat, s.heap.size ≤ q → A q := fun q h => by rw [← hAe]; exact Or.inr h
  have hS : va_S A s.heap s.heap [] := va_S.rf
  have hl := lv_entry ([.ref (gaK g k0), .int p1]) (n := 2) (Nat.le_of_ble_eq_true rfl)
  rw [lg_entry_eq]
  generalize (lg_sl ([.ref (gaK g k0), .int p1]) ++ List.replicate (2 - (lg_sl ([.ref (gaK g k0), .int p1])).length) Slot.unset).toArray = ls at hl ⊢
  have hl : lv_has ls 2 [(0, .ref (gaK g k0)), (1, .int p1)] := hl
  unfold F_J0_charAt_5068e at hF
  refine lv_aload_n hx hb dJ0_charAt_5068e_0 rfl (lv_at hl 0 rfl) ?_
  obtain ⟨zo1, hzo1, hF⟩ := z_bind hF
  refine z_calliE (fun (_ : Unit) => []) (va_runV (As := []) (rest := []) ⟨hx, hb, hml, hown, hts⟩ (c_J0_isLatin1_aae02 l g _ k0 hk0 _ hzo1) (cwV 0 hts (gdV mU_544 mU_545 mU_546 mU_81 mU_547) rfl rfl rfl (by decide +kernel) ⟨Nat.le_of_ble_eq_true rfl, Nat.le_of_ble_eq_true rfl⟩) ⟨z_blind _ _ _ _, vk_recv hB.2.2.1.1 hk0 hS, fun U hU hW => z_preE hP hD hK hB hS hA hU hW⟩ rfl rfl hl.1 rfl (lv_room (Nat.le_of_ble_eq_true rfl)) dJ0_charAt_5068e_1 ⟨Nat.le_of_ble_eq_true rfl, Nat.le_of_ble_eq_true rfl⟩) hD hS hA (fun _ => rfl) (fun r u H locs hw hP hD hS => ?_)
  subst hw
  have hP : va_P (gD g) zCl [] H := hP
  have hD : va_D A [] := hD
  refine lv_if_eq (tgt := 16) hx hb dJ0_charAt_5068e_4 (by decide) (fun zc2 => ?_) (fun zc2 => ?_)
  · have hF := z_pos hF zc2
    exact absurd hF (by simp)
  · have hF := z_neg hF zc2
    refine lv_aload_n hx hb dJ0_charAt_5068e_7 rfl (lv_at hl 0 rfl) ?_
    refine vk_getf (v := .ref (gaV g k0)) hx hb (hB.2.2.1.1.1 k0 hk0).2.2.1 hS hown (hts _ mU_1729) (fun _ h9 => h9) dJ0_charAt_5068e_8 ?_
    refine lv_iload_n hx hb dJ0_charAt_5068e_11 rfl (lv_at hl 1 rfl) ?_
    obtain ⟨zo3, hzo3, hF⟩ := z_bind hF
    refine z_calliE (fun (_ : Unit) => []) (va_runS (As := [.ref (gaV g k0), .int p1]) (rest := []) ⟨hx, hb, hml, hown, hts⟩ (c_J1_charAt_3b067 l g _ k0 hk0 p1 _ hzo3) (va_cwS 2 hts (gdS mU_1077 mU_1078 mU_82 mU_1079) rfl rfl rfl (by decide +kernel) ⟨Nat.le_of_ble_eq_true rfl, Nat.le_of_ble_eq_true rfl⟩) ⟨z_blind _ _ _ _, fun U hU hW => z_preE hP hD hK hB hS hA hU hW⟩ rfl rfl hl.1 rfl (lv_room (Nat.le_of_ble_eq_true rfl)) dJ0_charAt_5068e_12 ⟨Nat.le_of_ble_eq_true rfl, Nat.le_of_ble_eq_true rfl⟩) hD hS hA (fun _ => rfl) (fun r u H locs hw hP hD hS => ?_)
    subst hw
    have hP : va_P (gD g) zCl [] H := hP
    have hD : va_D A [] := hD
    obtain ⟨zg4, hF⟩ := z_grd hF
    have ho := (Option.some.inj hF).symm
    exact W.zret (v := zo3) hx hb hr (z_narc (Classical.not_not.mp zg4)).1 (fun t ht hW => ⟨⟨zo3, (), rfl, ho, z_end ht hP⟩, hS.F ht⟩) hS.2.2 dJ0_charAt_5068e_15
