abbrev w_X8_become : List Cond := .code yX8_become cX8_become 6 none :: wU
abbrev r_X8_become : Room := { frames := 0, cells := 0, slots := 0, locals := 0 }
abbrev q_X8_become (g : GG) (a0 a1 a2 a3 a4 : Nat) (st : SS) (o : SS) (A : Nat → Prop) := va_Qv (fun (u : SS) => o = u) (fun u t => va_P (gD g) zCl (wState g a0 a1 a2 a3 a4 u) t.heap) A
set_option maxHeartbeats 4000000 in
set_option maxRecDepth 100000 in
theorem c_X8_become (l : Launch) (g : GG) (a0 a1 a2 a3 a4 : Nat) (st : SS) (sz : Nat) (p1 : Int32) (p2 : Int64) (p4 : Int64) (o : SS) (hF : F_X8_become st p1 p2 p4 = some o) : Met l yX8_become w_X8_become r_X8_become (va_Pc [.ref a0, .int p1, .long p2, .long p4] (zP g (wState g a0 a1 a2 a3 a4 st) sz)) (q_X8_become g a0 a1 a2 a3 a4 st o (va_A (wState g a0 a1 a2 a3 a4 st) sz)) 0 0 (va_A (wState g a0 a1 a2 a3 a4 st) sz) := by
  refine Met.ofW (cc := cX8_become) (maxL := 6) (ret := none) (by decide) rfl ?_
  intro p e s m args below meth c s₁ B hml hv
  obtain ⟨rfl, rfl, hP, hK, hD0, hB⟩ := hv
  have hx := B.exec
  have hb := B.bytes
  have hr := B.returns
  have hts : ∀ w ∈ wU, w.before _ s = true := fun w h => atoms_spec (ws := w_X8_become) B.pre w (List.mem_cons_of_mem _ h)
  have hown : s.vm.findClass RX8 = some m.cls := findClass_of_methodNamed B.named
  have hlocks := B.notSynchronized
  have hD := hD0.self (sz := s.heap.size)
  generalize hAe : va_A (wState g a0 a1 a2 a3 a4 st) s.heap.size = A at hD hB ⊢
  have hA : ∀ q : Nat, s.heap.size ≤ q → A q := fun q h => by rw [← hAe]; exact Or.inr h
  have hS : va_S A s.heap s.heap [] := va_S.rf
  have hl := lv_entry ([.ref a0, .int p1, .long p2, .long p4]) (n := 6) (Nat.le_of_ble_eq_true rfl)
  rw [lg_entry_eq]
  generalize (lg_sl ([.ref a0, .int p1, .long p2, .long p4]) ++ List.replicate (6 - (lg_sl ([.ref a0, .int p1, .long p2, .long p4])).length) Slot.unset).toArray = ls at hl ⊢
  have hl : lv_has ls 6 [(0, .ref a0), (1, .int p1), (2, .long p2), (4, .long p4)] := hl
  unfold F_X8_become at hF
  refine lv_aload_n hx hb dX8_become_0 rfl (lv_at hl 0 rfl) ?_
  refine lv_dup hx hb dX8_become_1 rfl ?_
  refine va_get (D := gD g) (ci := 5) (v := .long (s_fal st)) (C := RX8) (T := TX8) (N := 11) hx hb hts inX8 hown hK hP 0 rfl rfl 7 (by decide) (hts _ mU_127) (fun _ h9 => h9) rfl dX8_become_2 ?_
  refine lv_lload hx hb dX8_become_5 (lv_at hl 3 rfl) ?_
  refine lv_lload_n hx hb dX8_become_7 rfl (lv_at hl 2 rfl) ?_
  refine lv_lsub hx hb dX8_become_8 ?_
  refine lv_ladd hx hb dX8_become_9 ?_
  refine va_put (D := gD g) (ci := 5) (v := .long ((s_fal st) + (p4 - p2))) (ty := .long) (C := RX8) (T := TX8) (N := 11) hx hb hts inX8 tyX8 tyX8_ok nmX8 hown hK hP hD hS 0 rfl rfl 7 (by decide) (hts _ mU_127) (fun _ h9 => h9) rfl (by decide +kernel) rfl rfl (Nat.le_of_ble_eq_true rfl) dX8_become_10 (fun H locs hP hD hS => ?_)
  have hP : va_P (gD g) zCl (wState g a0 a1 a2 a3 a4 ((s_ids st), (s_vals st), (s_scs st), (s_mds st), (s_cnt st), (s_nxt st), (s_esc st), ((s_fal st) + (p4 - p2)), (s_add st), (s_fed st), (s_rem st))) H := hP
  have hD : va_D A (wState g a0 a1 a2 a3 a4 ((s_ids st), (s_vals st), (s_scs st), (s_mds st), (s_cnt st), (s_nxt st), (s_esc st), ((s_fal st) + (p4 - p2)), (s_add st), (s_fed st), (s_rem st))) := hD
  refine lv_aload_n hx hb dX8_become_13 rfl (lv_at hl 0 rfl) ?_
  refine va_get (D := gD g) (ci := 5) (v := .ref a2) (C := RX8) (T := TX8) (N := 11) hx hb hts inX8 hown hK hP 0 rfl rfl 1 (by decide) (hts _ mU_114) (fun _ h9 => h9) rfl dX8_become_14 ?_
  refine lv_iload_n hx hb dX8_become_17 rfl (lv_at hl 1 rfl) ?_
  refine lv_lload hx hb dX8_become_18 (lv_at hl 3 rfl) ?_
  obtain ⟨zg1, hF⟩ := z_grd hF
  refine va_last hx hb hK hP hD hS 2 2 rfl rfl zg1 dX8_become_20 (fun H locs hP hD hS => ?_)
  have hP : va_P (gD g) zCl (wState g a0 a1 a2 a3 a4 ((s_ids st), (vp_updL (s_vals st) (Int32.toNatClampNeg p1) p4), (s_scs st), (s_mds st), (s_cnt st), (s_nxt st), (s_esc st), ((s_fal st) + (p4 - p2)), (s_add st), (s_fed st), (s_rem st))) H := hP
  have hD : va_D A (wState g a0 a1 a2 a3 a4 ((s_ids st), (vp_updL (s_vals st) (Int32.toNatClampNeg p1) p4), (s_scs st), (s_mds st), (s_cnt st), (s_nxt st), (s_esc st), ((s_fal st) + (p4 - p2)), (s_add st), (s_fed st), (s_rem st))) := hD
  refine lv_lload hx hb dX8_become_21 (lv_at hl 3 rfl) ?_
  refine lv_ldc2 (v := 10000000000) hx hb hown (hts _ mU_325) dX8_become_23 ?_
  refine z_lcmp_lt (tgt := 52) hx hb dX8_become_26 dX8_become_27 (by decide) (fun zc2 => ?_) (fun zc2 => ?_)
  · have hF := z_pos hF zc2
    have ho := (Option.some.inj hF).symm
    exact W.vret hx hb hr (fun t ht hW => ⟨⟨((s_ids st), (vp_updL (s_vals st) (Int32.toNatClampNeg p1) p4), (s_scs st), (s_mds st), (s_cnt st), (s_nxt st), (s_esc st), ((s_fal st) + (p4 - p2)), (s_add st), (s_fed st), (s_rem st)), rfl, ho, z_end ht hP⟩, hS.F ht⟩) hS.2.2 dX8_become_52
  · have hF := z_neg hF zc2
    refine lv_aload_n hx hb dX8_become_30 rfl (lv_at hl 0 rfl) ?_
    refine va_get (D := gD g) (ci := 5) (v := .ref a2) (C := RX8) (T := TX8) (N := 11) hx hb hts inX8 hown hK hP 0 rfl rfl 1 (by decide) (hts _ mU_114) (fun _ h9 => h9) rfl dX8_become_31 ?_
    refine lv_iload_n hx hb dX8_become_34 rfl (lv_at hl 1 rfl) ?_
    refine lv_lload hx hb dX8_become_35 (lv_at hl 3 rfl) ?_
    refine lv_ldc2 (v := 10000000000) hx hb hown (hts _ mU_325) dX8_become_37 ?_
    refine lv_lsub hx hb dX8_become_40 ?_
    obtain ⟨zg3, hF⟩ := z_grd hF
    refine va_last hx hb hK hP hD hS 2 2 rfl rfl zg3 dX8_become_41 (fun H locs hP hD hS => ?_)
    have hP : va_P (gD g) zCl (wState g a0 a1 a2 a3 a4 ((s_ids st), (vp_updL (vp_updL (s_vals st) (Int32.toNatClampNeg p1) p4) (Int32.toNatClampNeg p1) (p4 - 10000000000)), (s_scs st), (s_mds st), (s_cnt st), (s_nxt st), (s_esc st), ((s_fal st) + (p4 - p2)), (s_add st), (s_fed st), (s_rem st))) H := hP
    have hD : va_D A (wState g a0 a1 a2 a3 a4 ((s_ids st), (vp_updL (vp_updL (s_vals st) (Int32.toNatClampNeg p1) p4) (Int32.toNatClampNeg p1) (p4 - 10000000000)), (s_scs st), (s_mds st), (s_cnt st), (s_nxt st), (s_esc st), ((s_fal st) + (p4 - p2)), (s_add st), (s_fed st), (s_rem st))) := hD
    refine lv_aload_n hx hb dX8_become_42 rfl (lv_at hl 0 rfl) ?_
    refine lv_dup hx hb dX8_become_43 rfl ?_
    refine va_get (D := gD g) (ci := 5) (v := .int (s_esc st)) (C := RX8) (T := TX8) (N := 11) hx hb hts inX8 hown hK hP 0 rfl rfl 6 (by decide) (hts _ mU_125) (fun _ h9 => h9) rfl dX8_become_44 ?_
    refine lv_iconst (v := 1) hx hb dX8_become_47 (by decide) ?_
    refine lv_iadd hx hb dX8_become_48 ?_
    refine va_put (D := gD g) (ci := 5) (v := .int ((s_esc st) + 1)) (ty := .int) (C := RX8) (T := TX8) (N := 11) hx hb hts inX8 tyX8 tyX8_ok nmX8 hown hK hP hD hS 0 rfl rfl 6 (by decide) (hts _ mU_125) (fun _ h9 => h9) rfl (by decide +kernel) rfl rfl (Nat.le_of_ble_eq_true rfl) dX8_become_49 (fun H locs hP hD hS => ?_)
    have hP : va_P (gD g) zCl (wState g a0 a1 a2 a3 a4 ((s_ids st), (vp_updL (vp_updL (s_vals st) (Int32.toNatClampNeg p1) p4) (Int32.toNatClampNeg p1) (p4 - 10000000000)), (s_scs st), (s_mds st), (s_cnt st), (s_nxt st), ((s_esc st) + 1), ((s_fal st) + (p4 - p2)), (s_add st), (s_fed st), (s_rem st))) H := hP
    have hD : va_D A (wState g a0 a1 a2 a3 a4 ((s_ids st), (vp_updL (vp_updL (s_vals st) (Int32.toNatClampNeg p1) p4) (Int32.toNatClampNeg p1) (p4 - 10000000000)), (s_scs st), (s_mds st), (s_cnt st), (s_nxt st), ((s_esc st) + 1), ((s_fal st) + (p4 - p2)), (s_add st), (s_fed st), (s_rem st))) := hD
    have ho := (Option.some.inj hF).symm
    exact W.vret hx hb hr (fun t ht hW => ⟨⟨((s_ids st), (vp_updL (vp_updL (s_vals st) (Int32.toNatClampNeg p1) p4) (Int32.toNatClampNeg p1) (p4 - 10000000000)), (s_scs st), (s_mds st), (s_cnt st), (s_nxt st), ((s_esc st) + 1), ((s_fal st) + (p4 - p2)), (s_add st), (s_fed st), (s_rem st)), rfl, ho, z_end ht hP⟩, hS.F ht⟩) hS.2.2 dX8_become_52
abbrev w_X8_becomeRounded : List Cond := .code yX8_becomeRounded cX8_becomeRounded 4 (some .long) :: wU
abbrev r_X8_becomeRounded : Room := { frames := 2, cells := 0, slots := 0, locals := 55 }
abbrev q_X8_becomeRounded (g : GG) (a0 a1 a2 a3 a4 : Nat) (st : SS) (o : Int64 × SS) (A : Nat → Prop) := va_Ql (fun (r : Int64) (u : SS) => o.1 = r ∧ o.2 = u) (fun u t => va_P (gD g) zCl (wState g a0 a1 a2 a3 a4 u) t.heap) A
set_option maxHeartbeats 4000000 in
set_option maxRecDepth 100000 in
theorem c_X8_becomeRounded (l : Launch) (g : GG) (a0 a1 a2 a3 a4 : Nat) (st : SS) (sz : Nat) (p1 : Int32) (p2 : Int64) (o : Int64 × SS) (hF : F_X8_becomeRounded st p1 p2 = some o) : Met l yX8_becomeRounded w_X8_becomeRounded r_X8_becomeRounded (va_Pc [.ref a0, .int p1, .long p2] (zP g (wState g a0 a1 a2 a3 a4 st) sz)) (q_X8_becomeRounded g a0 a1 a2 a3 a4 st o (va_A (wState g a0 a1 a2 a3 a4 st) sz)) 0 0 (va_A (wState g a0 a1 a2 a3 a4 st) sz) := by
  refine Met.ofW (cc := cX8_becomeRounded) (maxL := 4) (ret := (some .long)) (by decide) rfl ?_
  intro p e s m args below meth c s₁ B hml hv
  obtain ⟨rfl, rfl, hP, hK, hD0, hB⟩ := hv
  have hx := B.exec
  have hb := B.bytes
  have hr := B.returns
  have hts : ∀ w ∈ wU, w.before _ s = true := fun w h => atoms_spec (ws := w_X8_becomeRounded) B.pre w (List.mem_cons_of_mem _ h)
  have hown : s.vm.findClass RX8 = some m.cls := findClass_of_methodNamed B.named
  have hlocks := B.notSynchronized
  have hD := hD0.self (sz := s.heap.size)
  generalize hAe : va_A (wState g a0 a1 a2 a3 a4 st) s.heap.size = A at hD hB ⊢
  have hA : ∀ q : Nat, s.heap.size ≤ q → A q := fun q h => by rw [← hAe]; exact Or.inr h
  have hS : va_S A s.heap s.heap [] := va_S.rf
  have hl := lv_entry ([.ref a0, .int p1, .long p2]) (n := 4) (Nat.le_of_ble_eq_true rfl)
  rw [lg_entry_eq]
  generalize (lg_sl ([.ref a0, .int p1, .long p2]) ++ List.replicate (4 - (lg_sl ([.ref a0, .int p1, .long p2])).length) Slot.unset).toArray = ls at hl ⊢
  have hl : lv_has ls 4 [(0, .ref a0), (1, .int p1), (2, .long p2)] := hl
  unfold F_X8_becomeRounded at hF
  refine lv_aload_n hx hb dX8_becomeRounded_0 rfl (lv_at hl 0 rfl) ?_
  refine lv_iload_n hx hb dX8_becomeRounded_1 rfl (lv_at hl 1 rfl) ?_
  refine lv_lload_n hx hb dX8_becomeRounded_2 rfl (lv_at hl 2 rfl) ?_
  refine lv_lload_n hx hb dX8_becomeRounded_3 rfl (lv_at hl 2 rfl) ?_
  refine lv_aload_n hx hb dX8_becomeRounded_4 rfl (lv_at hl 0 rfl) ?_
  refine va_get (D := gD g) (ci := 5) (v := .ref a3) (C := RX8) (T := TX8) (N := 11) hx hb hts inX8 hown hK hP 0 rfl rfl 2 (by decide) (hts _ mU_117) (fun _ h9 => h9) rfl dX8_becomeRounded_5 ?_
  refine lv_iload_n hx hb dX8_becomeRounded_8 rfl (lv_at hl 1 rfl) ?_
  obtain ⟨zg1, hF⟩ := z_grd hF
  refine va_iald hx hb hK hP 3 1 rfl rfl zg1 dX8_becomeRounded_9 ?_
  refine lv_aload_n hx hb dX8_becomeRounded_10 rfl (lv_at hl 0 rfl) ?_
  refine va_get (D := gD g) (ci := 5) (v := .ref a4) (C := RX8) (T := TX8) (N := 11) hx hb hts inX8 hown hK hP 0 rfl rfl 3 (by decide) (hts _ mU_119) (fun _ h9 => h9) rfl dX8_becomeRounded_11 ?_
  refine lv_iload_n hx hb dX8_becomeRounded_14 rfl (lv_at hl 1 rfl) ?_
  obtain ⟨zg2, hF⟩ := z_grd hF
  refine va_cald hx hb hK hP 4 0 rfl rfl zg2 dX8_becomeRounded_15 ?_
  obtain ⟨zo3, hzo3, hF⟩ := z_bind hF
  refine z_calll (fun (_ : Unit) => []) [] (va_runS (As := [.long p2, .int ((s_scs st) (Int32.toNatClampNeg p1)), .int ((s_mds st) (Int32.toNatClampNeg p1))]) (rest := [.long p2, .int p1, .ref a0]) ⟨hx, hb, hml, hown, hts⟩ (c_X7_ofSum l g _ p2 ((s_scs st) (Int32.toNatClampNeg p1)) ((s_mds st) (Int32.toNatClampNeg p1)) _ hzo3) (va_cwS 3 hts (gdS mU_738 mU_358 mU_88 mU_359) rfl rfl rfl (by decide +kernel) ⟨Nat.le_of_ble_eq_true rfl, Nat.le_of_ble_eq_true rfl⟩) ⟨z_blind _ _ _ _, fun U hU hW => z_pre [] hP hD hK hB hS hA rfl rfl hU hW⟩ rfl rfl hl.1 rfl (lv_room (Nat.le_of_ble_eq_true rfl)) dX8_becomeRounded_16 ⟨Nat.le_of_ble_eq_true rfl, Nat.le_of_ble_eq_true rfl⟩) hP hD hS hA rfl (fun _ => rfl) (fun r u H locs hw hP hD hS => ?_)
  subst hw
  have hP : va_P (gD g) zCl (wState g a0 a1 a2 a3 a4 st) H := hP
  have hD : va_D A (wState g a0 a1 a2 a3 a4 st) := hD
  obtain ⟨zo4, hzo4, hF⟩ := z_bind hF
  refine z_callvE (fun (u : SS) => (wState g a0 a1 a2 a3 a4 u)) (va_runV (As := [.int p1, .long p2, .long zo3]) (rest := []) ⟨hx, hb, hml, hown, hts⟩ (c_X8_become l g a0 a1 a2 a3 a4 st _ p1 p2 zo3 _ hzo4) (cwV 3 hts (gdV mU_739 mU_740 mU_741 mU_67 mU_742) rfl rfl rfl (by decide +kernel) ⟨Nat.le_of_ble_eq_true rfl, Nat.le_of_ble_eq_true rfl⟩) ⟨z_blind _ _ _ _, va_recv hK hP (ci := 5) (q0 := 0) rfl rfl, fun U hU hW => z_preE hP hD hK hB hS hA hU hW⟩ rfl rfl hl.1 rfl (lv_room (Nat.le_of_ble_eq_true rfl)) dX8_becomeRounded_19 ⟨Nat.le_of_ble_eq_true rfl, Nat.le_of_ble_eq_true rfl⟩) hD hS hA (fun _ => rfl) (fun u H locs hw hP hD hS => ?_)
  subst hw
  have hP : va_P (gD g) zCl (wState g a0 a1 a2 a3 a4 zo4) H := hP
  have hD : va_D A (wState g a0 a1 a2 a3 a4 zo4) := hD
  refine lv_aload_n hx hb dX8_becomeRounded_22 rfl (lv_at hl 0 rfl) ?_
  refine va_get (D := gD g) (ci := 5) (v := .ref a2) (C := RX8) (T := TX8) (N := 11) hx hb hts inX8 hown hK hP 0 rfl rfl 1 (by decide) (hts _ mU_114) (fun _ h9 => h9) rfl dX8_becomeRounded_23 ?_
  refine lv_iload_n hx hb dX8_becomeRounded_26 rfl (lv_at hl 1 rfl) ?_
  obtain ⟨zg5, hF⟩ := z_grd hF
  refine va_lald hx hb hK hP 2 2 rfl rfl zg5 dX8_becomeRounded_27 ?_
  have ho := (Option.some.inj hF).symm
  exact W.lret (v := ((s_vals zo4) (Int32.toNatClampNeg p1))) hx hb hr (fun t ht hW => ⟨⟨((s_vals zo4) (Int32.toNatClampNeg p1)), zo4, rfl, ⟨by rw [ho], by rw [ho]⟩, z_end ht hP⟩, hS.F ht⟩) hS.2.2 dX8_becomeRounded_28
abbrev w_X8_enter : List Cond := .code yX8_enter cX8_enter 6 (some .int) :: wU
abbrev r_X8_enter : Room := { frames := 0, cells := 0, slots := 0, locals := 0 }
abbrev q_X8_enter (g : GG) (a0 a1 a2 a3 a4 : Nat) (st : SS) (o : Int32 × SS) (A : Nat → Prop) := va_Qi (fun (r : Int32) (u : SS) => o.1 = r ∧ o.2 = u) (fun u t => va_P (gD g) zCl (wState g a0 a1 a2 a3 a4 u) t.heap) A
set_option maxHeartbeats 4000000 in
set_option maxRecDepth 100000 in
theorem c_X8_enter (l : Launch) (g : GG) (a0 a1 a2 a3 a4 : Nat) (st : SS) (sz : Nat) (p1 : Int64) (p3 : Int32) (p4 : Int32) (o : Int32 × SS) (hF : F_X8_enter st p1 p3 p4 = some o) : Met l yX8_enter w_X8_enter r_X8_enter (va_Pc [.ref a0, .long p1, .int p3, .int p4] (zP g (wState g a0 a1 a2 a3 a4 st) sz)) (q_X8_enter g a0 a1 a2 a3 a4 st o (va_A (wState g a0 a1 a2 a3 a4 st) sz)) 0 0 (va_A (wState g a0 a1 a2 a3 a4 st) sz) := by
  refine Met.ofW (cc := cX8_enter) (maxL := 6) (ret := (some .int)) (by decide) rfl ?_
  intro p e s m args below meth c s₁ B hml hv
  obtain ⟨rfl, rfl, hP, hK, hD0, hB⟩ := hv
  have hx := B.exec
  have hb := B.bytes
  have hr := B.returns
  have hts : ∀ w ∈ wU, w.before _ s = true := fun w h => atoms_spec (ws := w_X8_enter) B.pre w (List.mem_cons_of_mem _ h)
  have hown : s.vm.findClass RX8 = some m.cls := findClass_of_methodNamed B.named
  have hlocks := B.notSynchronized
  have hD := hD0.self (sz := s.heap.size)
  generalize hAe : va_A (wState g a0 a1 a2 a3 a4 st) s.heap.size = A at hD hB ⊢
  have hA : ∀ q : Nat, s.heap.size ≤ q → A q := fun q h => by rw [← hAe]; exact Or.inr h
  have hS : va_S A s.heap s.heap [] := va_S.rf
  have hl := lv_entry ([.ref a0, .long p1, .int p3, .int p4]) (n := 6) (Nat.le_of_ble_eq_true rfl)
  rw [lg_entry_eq]
  generalize (lg_sl ([.ref a0, .long p1, .int p3, .int p4]) ++ List.replicate (6 - (lg_sl ([.ref a0, .long p1, .int p3, .int p4])).length) Slot.unset).toArray = ls at hl ⊢
  have hl : lv_has ls 6 [(0, .ref a0), (1, .long p1), (3, .int p3), (4, .int p4)] := hl
  unfold F_X8_enter at hF
  refine lv_aload_n hx hb dX8_enter_0 rfl (lv_at hl 0 rfl) ?_
  refine va_get (D := gD g) (ci := 5) (v := .int (s_nxt st)) (C := RX8) (T := TX8) (N := 11) hx hb hts inX8 hown hK hP 0 rfl rfl 5 (by decide) (hts _ mU_124) (fun _ h9 => h9) rfl dX8_enter_1 ?_
  refine lv_istore (lv' := [(5, .int (s_nxt st)), (0, .ref a0), (1, .long p1), (3, .int p3), (4, .int p4)]) hx hb dX8_enter_4 hl (by decide) rfl (fun ls hl => ?_)
  refine lv_aload_n hx hb dX8_enter_6 rfl (lv_at hl 1 rfl) ?_
  refine va_get (D := gD g) (ci := 5) (v := .ref a1) (C := RX8) (T := TX8) (N := 11) hx hb hts inX8 hown hK hP 0 rfl rfl 0 (by decide) (hts _ mU_112) (fun _ h9 => h9) rfl dX8_enter_7 ?_
  refine lv_aload_n hx hb dX8_enter_10 rfl (lv_at hl 1 rfl) ?_
  refine va_get (D := gD g) (ci := 5) (v := .int (s_cnt st)) (C := RX8) (T := TX8) (N := 11) hx hb hts inX8 hown hK hP 0 rfl rfl 4 (by decide) (hts _ mU_121) (fun _ h9 => h9) rfl dX8_enter_11 ?_
  refine lv_iload hx hb dX8_enter_14 (lv_at hl 0 rfl) ?_
  obtain ⟨zg1, hF⟩ := z_grd hF
  refine va_iast hx hb hK hP hD hS 1 1 rfl rfl zg1 dX8_enter_16 (fun H locs hP hD hS => ?_)
  have hP : va_P (gD g) zCl (wState g a0 a1 a2 a3 a4 ((upd (s_ids st) (Int32.toNatClampNeg (s_cnt st)) (s_nxt st)), (s_vals st), (s_scs st), (s_mds st), (s_cnt st), (s_nxt st), (s_esc st), (s_fal st), (s_add st), (s_fed st), (s_rem st))) H := hP
  have hD : va_D A (wState g a0 a1 a2 a3 a4 ((upd (s_ids st) (Int32.toNatClampNeg (s_cnt st)) (s_nxt st)), (s_vals st), (s_scs st), (s_mds st), (s_cnt st), (s_nxt st), (s_esc st), (s_fal st), (s_add st), (s_fed st), (s_rem st))) := hD
  refine lv_aload_n hx hb dX8_enter_17 rfl (lv_at hl 1 rfl) ?_
  refine va_get (D := gD g) (ci := 5) (v := .ref a2) (C := RX8) (T := TX8) (N := 11) hx hb hts inX8 hown hK hP 0 rfl rfl 1 (by decide) (hts _ mU_114) (fun _ h9 => h9) rfl dX8_enter_18 ?_
  refine lv_aload_n hx hb dX8_enter_21 rfl (lv_at hl 1 rfl) ?_
  refine va_get (D := gD g) (ci := 5) (v := .int (s_cnt st)) (C := RX8) (T := TX8) (N := 11) hx hb hts inX8 hown hK hP 0 rfl rfl 4 (by decide) (hts _ mU_121) (fun _ h9 => h9) rfl dX8_enter_22 ?_
  refine lv_lload_n hx hb dX8_enter_25 rfl (lv_at hl 2 rfl) ?_
  obtain ⟨zg2, hF⟩ := z_grd hF
  refine va_last hx hb hK hP hD hS 2 2 rfl rfl zg2 dX8_enter_26 (fun H locs hP hD hS => ?_)
  have hP : va_P (gD g) zCl (wState g a0 a1 a2 a3 a4 ((upd (s_ids st) (Int32.toNatClampNeg (s_cnt st)) (s_nxt st)), (vp_updL (s_vals st) (Int32.toNatClampNeg (s_cnt st)) p1), (s_scs st), (s_mds st), (s_cnt st), (s_nxt st), (s_esc st), (s_fal st), (s_add st), (s_fed st), (s_rem st))) H := hP
  have hD : va_D A (wState g a0 a1 a2 a3 a4 ((upd (s_ids st) (Int32.toNatClampNeg (s_cnt st)) (s_nxt st)), (vp_updL (s_vals st) (Int32.toNatClampNeg (s_cnt st)) p1), (s_scs st), (s_mds st), (s_cnt st), (s_nxt st), (s_esc st), (s_fal st), (s_add st), (s_fed st), (s_rem st))) := hD
  refine lv_aload_n hx hb dX8_enter_27 rfl (lv_at hl 1 rfl) ?_
  refine va_get (D := gD g) (ci := 5) (v := .ref a3) (C := RX8) (T := TX8) (N := 11) hx hb hts inX8 hown hK hP 0 rfl rfl 2 (by decide) (hts _ mU_117) (fun _ h9 => h9) rfl dX8_enter_28 ?_
  refine lv_aload_n hx hb dX8_enter_31 rfl (lv_at hl 1 rfl) ?_
  refine va_get (D := gD g) (ci := 5) (v := .int (s_cnt st)) (C := RX8) (T := TX8) (N := 11) hx hb hts inX8 hown hK hP 0 rfl rfl 4 (by decide) (hts _ mU_121) (fun _ h9 => h9) rfl dX8_enter_32 ?_
  refine lv_iload_n hx hb dX8_enter_35 rfl (lv_at hl 3 rfl) ?_
  obtain ⟨zg3, hF⟩ := z_grd hF
  refine va_iast hx hb hK hP hD hS 3 1 rfl rfl zg3 dX8_enter_36 (fun H locs hP hD hS => ?_)
  have hP : va_P (gD g) zCl (wState g a0 a1 a2 a3 a4 ((upd (s_ids st) (Int32.toNatClampNeg (s_cnt st)) (s_nxt st)), (vp_updL (s_vals st) (Int32.toNatClampNeg (s_cnt st)) p1), (upd (s_scs st) (Int32.toNatClampNeg (s_cnt st)) p3), (s_mds st), (s_cnt st), (s_nxt st), (s_esc st), (s_fal st), (s_add st), (s_fed st), (s_rem st))) H := hP
  have hD : va_D A (wState g a0 a1 a2 a3 a4 ((upd (s_ids st) (Int32.toNatClampNeg (s_cnt st)) (s_nxt st)), (vp_updL (s_vals st) (Int32.toNatClampNeg (s_cnt st)) p1), (upd (s_scs st) (Int32.toNatClampNeg (s_cnt st)) p3), (s_mds st), (s_cnt st), (s_nxt st), (s_esc st), (s_fal st), (s_add st), (s_fed st), (s_rem st))) := hD
  refine lv_aload_n hx hb dX8_enter_37 rfl (lv_at hl 1 rfl) ?_
  refine va_get (D := gD g) (ci := 5) (v := .ref a4) (C := RX8) (T := TX8) (N := 11) hx hb hts inX8 hown hK hP 0 rfl rfl 3 (by decide) (hts _ mU_119) (fun _ h9 => h9) rfl dX8_enter_38 ?_
  refine lv_aload_n hx hb dX8_enter_41 rfl (lv_at hl 1 rfl) ?_
  refine va_get (D := gD g) (ci := 5) (v := .int (s_cnt st)) (C := RX8) (T := TX8) (N := 11) hx hb hts inX8 hown hK hP 0 rfl rfl 4 (by decide) (hts _ mU_121) (fun _ h9 => h9) rfl dX8_enter_42 ?_
  refine lv_iload hx hb dX8_enter_45 (lv_at hl 4 rfl) ?_
  obtain ⟨zg4, hF⟩ := z_grd hF
  refine va_cast hx hb hK hP hD hS 4 0 rfl rfl zg4 dX8_enter_47 (fun H locs hP hD hS => ?_)
  have hP : va_P (gD g) zCl (wState g a0 a1 a2 a3 a4 ((upd (s_ids st) (Int32.toNatClampNeg (s_cnt st)) (s_nxt st)), (vp_updL (s_vals st) (Int32.toNatClampNeg (s_cnt st)) p1), (upd (s_scs st) (Int32.toNatClampNeg (s_cnt st)) p3), (upd (s_mds st) (Int32.toNatClampNeg (s_cnt st)) (vp_nar .char p4)), (s_cnt st), (s_nxt st), (s_esc st), (s_fal st), (s_add st), (s_fed st), (s_rem st))) H := hP
  have hD : va_D A (wState g a0 a1 a2 a3 a4 ((upd (s_ids st) (Int32.toNatClampNeg (s_cnt st)) (s_nxt st)), (vp_updL (s_vals st) (Int32.toNatClampNeg (s_cnt st)) p1), (upd (s_scs st) (Int32.toNatClampNeg (s_cnt st)) p3), (upd (s_mds st) (Int32.toNatClampNeg (s_cnt st)) (vp_nar .char p4)), (s_cnt st), (s_nxt st), (s_esc st), (s_fal st), (s_add st), (s_fed st), (s_rem st))) := hD
  refine lv_aload_n hx hb dX8_enter_48 rfl (lv_at hl 1 rfl) ?_
  refine lv_dup hx hb dX8_enter_49 rfl ?_
  refine va_get (D := gD g) (ci := 5) (v := .int (s_cnt st)) (C := RX8) (T := TX8) (N := 11) hx hb hts inX8 hown hK hP 0 rfl rfl 4 (by decide) (hts _ mU_121) (fun _ h9 => h9) rfl dX8_enter_50 ?_
  refine lv_iconst (v := 1) hx hb dX8_enter_53 (by decide) ?_
  refine lv_iadd hx hb dX8_enter_54 ?_
  refine va_put (D := gD g) (ci := 5) (v := .int ((s_cnt st) + 1)) (ty := .int) (C := RX8) (T := TX8) (N := 11) hx hb hts inX8 tyX8 tyX8_ok nmX8 hown hK hP hD hS 0 rfl rfl 4 (by decide) (hts _ mU_121) (fun _ h9 => h9) rfl (by decide +kernel) rfl rfl (Nat.le_of_ble_eq_true rfl) dX8_enter_55 (fun H locs hP hD hS => ?_)
  have hP : va_P (gD g) zCl (wState g a0 a1 a2 a3 a4 ((upd (s_ids st) (Int32.toNatClampNeg (s_cnt st)) (s_nxt st)), (vp_updL (s_vals st) (Int32.toNatClampNeg (s_cnt st)) p1), (upd (s_scs st) (Int32.toNatClampNeg (s_cnt st)) p3), (upd (s_mds st) (Int32.toNatClampNeg (s_cnt st)) (vp_nar .char p4)), ((s_cnt st) + 1), (s_nxt st), (s_esc st), (s_fal st), (s_add st), (s_fed st), (s_rem st))) H := hP
  have hD : va_D A (wState g a0 a1 a2 a3 a4 ((upd (s_ids st) (Int32.toNatClampNeg (s_cnt st)) (s_nxt st)), (vp_updL (s_vals st) (Int32.toNatClampNeg (s_cnt st)) p1), (upd (s_scs st) (Int32.toNatClampNeg (s_cnt st)) p3), (upd (s_mds st) (Int32.toNatClampNeg (s_cnt st)) (vp_nar .char p4)), ((s_cnt st) + 1), (s_nxt st), (s_esc st), (s_fal st), (s_add st), (s_fed st), (s_rem st))) := hD
  refine lv_aload_n hx hb dX8_enter_58 rfl (lv_at hl 1 rfl) ?_
  refine lv_dup hx hb dX8_enter_59 rfl ?_
  refine va_get (D := gD g) (ci := 5) (v := .int (s_nxt st)) (C := RX8) (T := TX8) (N := 11) hx hb hts inX8 hown hK hP 0 rfl rfl 5 (by decide) (hts _ mU_124) (fun _ h9 => h9) rfl dX8_enter_60 ?_
  refine lv_iconst (v := 1) hx hb dX8_enter_63 (by decide) ?_
  refine lv_iadd hx hb dX8_enter_64 ?_
  refine va_put (D := gD g) (ci := 5) (v := .int ((s_nxt st) + 1)) (ty := .int) (C := RX8) (T := TX8) (N := 11) hx hb hts inX8 tyX8 tyX8_ok nmX8 hown hK hP hD hS 0 rfl rfl 5 (by decide) (hts _ mU_124) (fun _ h9 => h9) rfl (by decide +kernel) rfl rfl (Nat.le_of_ble_eq_true rfl) dX8_enter_65 (fun H locs hP hD hS => ?_)
  have hP : va_P (gD g) zCl (wState g a0 a1 a2 a3 a4 ((upd (s_ids st) (Int32.toNatClampNeg (s_cnt st)) (s_nxt st)), (vp_updL (s_vals st) (Int32.toNatClampNeg (s_cnt st)) p1), (upd (s_scs st) (Int32.toNatClampNeg (s_cnt st)) p3), (upd (s_mds st) (Int32.toNatClampNeg (s_cnt st)) (vp_nar .char p4)), ((s_cnt st) + 1), ((s_nxt st) + 1), (s_esc st), (s_fal st), (s_add st), (s_fed st), (s_rem st))) H := hP
  have hD : va_D A (wState g a0 a1 a2 a3 a4 ((upd (s_ids st) (Int32.toNatClampNeg (s_cnt st)) (s_nxt st)), (vp_updL (s_vals st) (Int32.toNatClampNeg (s_cnt st)) p1), (upd (s_scs st) (Int32.toNatClampNeg (s_cnt st)) p3), (upd (s_mds st) (Int32.toNatClampNeg (s_cnt st)) (vp_nar .char p4)), ((s_cnt st) + 1), ((s_nxt st) + 1), (s_esc st), (s_fal st), (s_add st), (s_fed st), (s_rem st))) := hD
  refine lv_aload_n hx hb dX8_enter_68 rfl (lv_at hl 1 rfl) ?_
  refine lv_dup hx hb dX8_enter_69 rfl ?_
  refine va_get (D := gD g) (ci := 5) (v := .long (s_add st)) (C := RX8) (T := TX8) (N := 11) hx hb hts inX8 hown hK hP 0 rfl rfl 8 (by decide) (hts _ mU_129) (fun _ h9 => h9) rfl dX8_enter_70 ?_
  refine lv_lload_n hx hb dX8_enter_73 rfl (lv_at hl 2 rfl) ?_
  refine lv_ladd hx hb dX8_enter_74 ?_
  refine va_put (D := gD g) (ci := 5) (v := .long ((s_add st) + p1)) (ty := .long) (C := RX8) (T := TX8) (N := 11) hx hb hts inX8 tyX8 tyX8_ok nmX8 hown hK hP hD hS 0 rfl rfl 8 (by decide) (hts _ mU_129) (fun _ h9 => h9) rfl (by decide +kernel) rfl rfl (Nat.le_of_ble_eq_true rfl) dX8_enter_75 (fun H locs hP hD hS => ?_)
  have hP : va_P (gD g) zCl (wState g a0 a1 a2 a3 a4 ((upd (s_ids st) (Int32.toNatClampNeg (s_cnt st)) (s_nxt st)), (vp_updL (s_vals st) (Int32.toNatClampNeg (s_cnt st)) p1), (upd (s_scs st) (Int32.toNatClampNeg (s_cnt st)) p3), (upd (s_mds st) (Int32.toNatClampNeg (s_cnt st)) (vp_nar .char p4)), ((s_cnt st) + 1), ((s_nxt st) + 1), (s_esc st), (s_fal st), ((s_add st) + p1), (s_fed st), (s_rem st))) H := hP
  have hD : va_D A (wState g a0 a1 a2 a3 a4 ((upd (s_ids st) (Int32.toNatClampNeg (s_cnt st)) (s_nxt st)), (vp_updL (s_vals st) (Int32.toNatClampNeg (s_cnt st)) p1), (upd (s_scs st) (Int32.toNatClampNeg (s_cnt st)) p3), (upd (s_mds st) (Int32.toNatClampNeg (s_cnt st)) (vp_nar .char p4)), ((s_cnt st) + 1), ((s_nxt st) + 1), (s_esc st), (s_fal st), ((s_add st) + p1), (s_fed st), (s_rem st))) := hD
  refine lv_iload hx hb dX8_enter_78 (lv_at hl 0 rfl) ?_
  have ho := (Option.some.inj hF).symm
  exact W.iret (v := (s_nxt st)) hx hb hr (fun t ht hW => ⟨⟨(s_nxt st), ((upd (s_ids st) (Int32.toNatClampNeg (s_cnt st)) (s_nxt st)), (vp_updL (s_vals st) (Int32.toNatClampNeg (s_cnt st)) p1), (upd (s_scs st) (Int32.toNatClampNeg (s_cnt st)) p3), (upd (s_mds st) (Int32.toNatClampNeg (s_cnt st)) (vp_nar .char p4)), ((s_cnt st) + 1), ((s_nxt st) + 1), (s_esc st), (s_fal st), ((s_add st) + p1), (s_fed st), (s_rem st)), rfl, ⟨by rw [ho], by rw [ho]⟩, z_end ht hP⟩, hS.F ht⟩) hS.2.2 dX8_enter_80
abbrev w_X8_takeOut : List Cond := .code yX8_takeOut cX8_takeOut 5 (some .long) :: wU
abbrev r_X8_takeOut : Room := { frames := 0, cells := 0, slots := 0, locals := 0 }
abbrev q_X8_takeOut (g : GG) (a0 a1 a2 a3 a4 : Nat) (st : SS) (o : Int64 × SS) (A : Nat → Prop) := va_Ql (fun (r : Int64) (u : SS) => o.1 = r ∧ o.2 = u) (fun u t => va_P (gD g) zCl (wState g a0 a1 a2 a3 a4 u) t.heap) A
set_option maxHeartbeats 4000000 in
set_option maxRecDepth 100000 in
theorem c_X8_takeOut (l : Launch) (g : GG) (a0 a1 a2 a3 a4 : Nat) (st : SS) (sz : Nat) (p1 : Int32) (fu : Nat) (o : Int64 × SS) (hF : F_X8_takeOut fu st p1 = some o) : Met l yX8_takeOut w_X8_takeOut r_X8_takeOut (va_Pc [.ref a0, .int p1] (zP g (wState g a0 a1 a2 a3 a4 st) sz)) (q_X8_takeOut g a0 a1 a2 a3 a4 st o (va_A (wState g a0 a1 a2 a3 a4 st) sz)) 0 0 (va_A (wState g a0 a1 a2 a3 a4 st) sz) := by
  refine Met.ofW (cc := cX8_takeOut) (maxL := 5) (ret := (some .long)) (by decide) rfl ?_
  intro p e s m args below meth c s₁ B hml hv
  obtain ⟨rfl, rfl, hP, hK, hD0, hB⟩ := hv
  have hx := B.exec
  have hb := B.bytes
  have hr := B.returns
  have hts : ∀ w ∈ wU, w.before _ s = true := fun w h => atoms_spec (ws := w_X8_takeOut) B.pre w (List.mem_cons_of_mem _ h)
  have hown : s.vm.findClass RX8 = some m.cls := findClass_of_methodNamed B.named
  have hlocks := B.notSynchronized
  have hD := hD0.self (sz := s.heap.size)
  generalize hAe : va_A (wState g a0 a1 a2 a3 a4 st) s.heap.size = A at hD hB ⊢
  have hA : ∀ q : Nat, s.heap.size ≤ q → A q := fun q h => by rw [← hAe]; exact Or.inr h
  have hS : va_S A s.heap s.heap [] := va_S.rf
  have hl := lv_entry ([.ref a0, .int p1]) (n := 5) (Nat.le_of_ble_eq_true rfl)
  rw [lg_entry_eq]
  generalize (lg_sl ([.ref a0, .int p1]) ++ List.replicate (5 - (lg_sl ([.ref a0, .int p1])).length) Slot.unset).toArray = ls at hl ⊢
  have hl : lv_has ls 5 [(0, .ref a0), (1, .int p1)] := hl
  unfold F_X8_takeOut at hF
  have K12 : ∀ (n12 : Nat) (st : SS) (x2 : Int64) (x4 : Int32), F_X8_takeOut_12 fu n12 st x2 x4 = some o → ∀ (H : Heap) (locs : List Loc) (ls : Array Slot), lv_has ls 5 [(0, .ref a0), (2, .long x2), (4, .int x4)] → va_P (gD g) zCl (wState g a0 a1 a2 a3 a4 st) H → va_D A (wState g a0 a1 a2 a3 a4 st) → va_S A s.heap H locs → W p l e (headSpec w_X8_takeOut r_X8_takeOut).room s m ([.ref a0, .int p1] : List Value).toArray below meth c H locs 0 0 (MQ below (q_X8_takeOut g a0 a1 a2 a3 a4 st o A) ([.ref a0, .int p1] : List Value).toArray s 0 0 A) (F0 m 12 ls []) := by
    intro n12
    induction n12 with
    | zero =>
      intro st x2 x4 hF
      exact absurd hF (by simp [F_X8_takeOut_12])
    | succ n12 ih12 =>
      intro st x2 x4 hF H locs ls hl hP hD hS
      unfold F_X8_takeOut_12 at hF
      refine lv_iload hx hb dX8_takeOut_12 (lv_at hl 2 rfl) ?_
      refine lv_aload_n hx hb dX8_takeOut_14 rfl (lv_at hl 0 rfl) ?_
      refine va_get (D := gD g) (ci := 5) (v := .int (s_cnt st)) (C := RX8) (T := TX8) (N := 11) hx hb hts inX8 hown hK hP 0 rfl rfl 4 (by decide) (hts _ mU_121) (fun _ h9 => h9) rfl dX8_takeOut_15 ?_
      refine lv_icmp_ge (tgt := 91) hx hb dX8_takeOut_18 (by decide) (fun zc1 => ?_) (fun zc1 => ?_)
      · have hF := z_pos hF zc1
        refine lv_aload_n hx hb dX8_takeOut_91 rfl (lv_at hl 0 rfl) ?_
        refine lv_dup hx hb dX8_takeOut_92 rfl ?_
        refine va_get (D := gD g) (ci := 5) (v := .int (s_cnt st)) (C := RX8) (T := TX8) (N := 11) hx hb hts inX8 hown hK hP 0 rfl rfl 4 (by decide) (hts _ mU_121) (fun _ h9 => h9) rfl dX8_takeOut_93 ?_
        refine lv_iconst (v := 1) hx hb dX8_takeOut_96 (by decide) ?_
        refine lv_isub hx hb dX8_takeOut_97 ?_
        refine va_put (D := gD g) (ci := 5) (v := .int ((s_cnt st) - 1)) (ty := .int) (C := RX8) (T := TX8) (N := 11) hx hb hts inX8 tyX8 tyX8_ok nmX8 hown hK hP hD hS 0 rfl rfl 4 (by decide) (hts _ mU_121) (fun _ h9 => h9) rfl (by decide +kernel) rfl rfl (Nat.le_of_ble_eq_true rfl) dX8_takeOut_98 (fun H locs hP hD hS => ?_)
        have hP : va_P (gD g) zCl (wState g a0 a1 a2 a3 a4 ((s_ids st), (s_vals st), (s_scs st), (s_mds st), ((s_cnt st) - 1), (s_nxt st), (s_esc st), (s_fal st), (s_add st), (s_fed st), (s_rem st))) H := hP
        have hD : va_D A (wState g a0 a1 a2 a3 a4 ((s_ids st), (s_vals st), (s_scs st), (s_mds st), ((s_cnt st) - 1), (s_nxt st), (s_esc st), (s_fal st), (s_add st), (s_fed st), (s_rem st))) := hD
        refine lv_aload_n hx hb dX8_takeOut_101 rfl (lv_at hl 0 rfl) ?_
        refine lv_dup hx hb dX8_takeOut_102 rfl ?_
        refine va_get (D := gD g) (ci := 5) (v := .long (s_rem st)) (C := RX8) (T := TX8) (N := 11) hx hb hts inX8 hown hK hP 0 rfl rfl 10 (by decide) (hts _ mU_132) (fun _ h9 => h9) rfl dX8_takeOut_103 ?_
        refine lv_lload_n hx hb dX8_takeOut_106 rfl (lv_at hl 1 rfl) ?_
        refine lv_ladd hx hb dX8_takeOut_107 ?_
        refine va_put (D := gD g) (ci := 5) (v := .long ((s_rem st) + x2)) (ty := .long) (C := RX8) (T := TX8) (N := 11) hx hb hts inX8 tyX8 tyX8_ok nmX8 hown hK hP hD hS 0 rfl rfl 10 (by decide) (hts _ mU_132) (fun _ h9 => h9) rfl (by decide +kernel) rfl rfl (Nat.le_of_ble_eq_true rfl) dX8_takeOut_108 (fun H locs hP hD hS => ?_)
        have hP : va_P (gD g) zCl (wState g a0 a1 a2 a3 a4 ((s_ids st), (s_vals st), (s_scs st), (s_mds st), ((s_cnt st) - 1), (s_nxt st), (s_esc st), (s_fal st), (s_add st), (s_fed st), ((s_rem st) + x2))) H := hP
        have hD : va_D A (wState g a0 a1 a2 a3 a4 ((s_ids st), (s_vals st), (s_scs st), (s_mds st), ((s_cnt st) - 1), (s_nxt st), (s_esc st), (s_fal st), (s_add st), (s_fed st), ((s_rem st) + x2))) := hD
        refine lv_lload_n hx hb dX8_takeOut_111 rfl (lv_at hl 1 rfl) ?_
        have ho := (Option.some.inj hF).symm
        exact W.lret (v := x2) hx hb hr (fun t ht hW => ⟨⟨x2, ((s_ids st), (s_vals st), (s_scs st), (s_mds st), ((s_cnt st) - 1), (s_nxt st), (s_esc st), (s_fal st), (s_add st), (s_fed st), ((s_rem st) + x2)), rfl, ⟨by rw [ho], by rw [ho]⟩, z_end ht hP⟩, hS.F ht⟩) hS.2.2 dX8_takeOut_112
      · have hF := z_neg hF zc1
        refine lv_aload_n hx hb dX8_takeOut_21 rfl (lv_at hl 0 rfl) ?_
        refine va_get (D := gD g) (ci := 5) (v := .ref a1) (C := RX8) (T := TX8) (N := 11) hx hb hts inX8 hown hK hP 0 rfl rfl 0 (by decide) (hts _ mU_112) (fun _ h9 => h9) rfl dX8_takeOut_22 ?_
        refine lv_iload hx hb dX8_takeOut_25 (lv_at hl 2 rfl) ?_
        refine lv_iconst (v := 1) hx hb dX8_takeOut_27 (by decide) ?_
        refine lv_isub hx hb dX8_takeOut_28 ?_
        refine lv_aload_n hx hb dX8_takeOut_29 rfl (lv_at hl 0 rfl) ?_
        refine va_get (D := gD g) (ci := 5) (v := .ref a1) (C := RX8) (T := TX8) (N := 11) hx hb hts inX8 hown hK hP 0 rfl rfl 0 (by decide) (hts _ mU_112) (fun _ h9 => h9) rfl dX8_takeOut_30 ?_
        refine lv_iload hx hb dX8_takeOut_33 (lv_at hl 2 rfl) ?_
        obtain ⟨zg2, hF⟩ := z_grd hF
        refine va_iald hx hb hK hP 1 1 rfl rfl zg2 dX8_takeOut_35 ?_
        obtain ⟨zg3, hF⟩ := z_grd hF
        refine va_iast hx hb hK hP hD hS 1 1 rfl rfl zg3 dX8_takeOut_36 (fun H locs hP hD hS => ?_)
        have hP : va_P (gD g) zCl (wState g a0 a1 a2 a3 a4 ((upd (s_ids st) (Int32.toNatClampNeg (x4 - 1)) ((s_ids st) (Int32.toNatClampNeg x4))), (s_vals st), (s_scs st), (s_mds st), (s_cnt st), (s_nxt st), (s_esc st), (s_fal st), (s_add st), (s_fed st), (s_rem st))) H := hP
        have hD : va_D A (wState g a0 a1 a2 a3 a4 ((upd (s_ids st) (Int32.toNatClampNeg (x4 - 1)) ((s_ids st) (Int32.toNatClampNeg x4))), (s_vals st), (s_scs st), (s_mds st), (s_cnt st), (s_nxt st), (s_esc st), (s_fal st), (s_add st), (s_fed st), (s_rem st))) := hD
        refine lv_aload_n hx hb dX8_takeOut_37 rfl (lv_at hl 0 rfl) ?_
        refine va_get (D := gD g) (ci := 5) (v := .ref a2) (C := RX8) (T := TX8) (N := 11) hx hb hts inX8 hown hK hP 0 rfl rfl 1 (by decide) (hts _ mU_114) (fun _ h9 => h9) rfl dX8_takeOut_38 ?_
        refine lv_iload hx hb dX8_takeOut_41 (lv_at hl 2 rfl) ?_
        refine lv_iconst (v := 1) hx hb dX8_takeOut_43 (by decide) ?_
        refine lv_isub hx hb dX8_takeOut_44 ?_
        refine lv_aload_n hx hb dX8_takeOut_45 rfl (lv_at hl 0 rfl) ?_
        refine va_get (D := gD g) (ci := 5) (v := .ref a2) (C := RX8) (T := TX8) (N := 11) hx hb hts inX8 hown hK hP 0 rfl rfl 1 (by decide) (hts _ mU_114) (fun _ h9 => h9) rfl dX8_takeOut_46 ?_
        refine lv_iload hx hb dX8_takeOut_49 (lv_at hl 2 rfl) ?_
        obtain ⟨zg4, hF⟩ := z_grd hF
        refine va_lald hx hb hK hP 2 2 rfl rfl zg4 dX8_takeOut_51 ?_
        obtain ⟨zg5, hF⟩ := z_grd hF
        refine va_last hx hb hK hP hD hS 2 2 rfl rfl zg5 dX8_takeOut_52 (fun H locs hP hD hS => ?_)
        have hP : va_P (gD g) zCl (wState g a0 a1 a2 a3 a4 ((upd (s_ids st) (Int32.toNatClampNeg (x4 - 1)) ((s_ids st) (Int32.toNatClampNeg x4))), (vp_updL (s_vals st) (Int32.toNatClampNeg (x4 - 1)) ((s_vals st) (Int32.toNatClampNeg x4))), (s_scs st), (s_mds st), (s_cnt st), (s_nxt st), (s_esc st), (s_fal st), (s_add st), (s_fed st), (s_rem st))) H := hP
        have hD : va_D A (wState g a0 a1 a2 a3 a4 ((upd (s_ids st) (Int32.toNatClampNeg (x4 - 1)) ((s_ids st) (Int32.toNatClampNeg x4))), (vp_updL (s_vals st) (Int32.toNatClampNeg (x4 - 1)) ((s_vals st) (Int32.toNatClampNeg x4))), (s_scs st), (s_mds st), (s_cnt st), (s_nxt st), (s_esc st), (s_fal st), (s_add st), (s_fed st), (s_rem st))) := hD
        refine lv_aload_n hx hb dX8_takeOut_53 rfl (lv_at hl 0 rfl) ?_
        refine va_get (D := gD g) (ci := 5) (v := .ref a3) (C := RX8) (T := TX8) (N := 11) hx hb hts inX8 hown hK hP 0 rfl rfl 2 (by decide) (hts _ mU_117) (fun _ h9 => h9) rfl dX8_takeOut_54 ?_
        refine lv_iload hx hb dX8_takeOut_57 (lv_at hl 2 rfl) ?_
        refine lv_iconst (v := 1) hx hb dX8_takeOut_59 (by decide) ?_
        refine lv_isub hx hb dX8_takeOut_60 ?_
        refine lv_aload_n hx hb dX8_takeOut_61 rfl (lv_at hl 0 rfl) ?_
        refine va_get (D := gD g) (ci := 5) (v := .ref a3) (C := RX8) (T := TX8) (N := 11) hx hb hts inX8 hown hK hP 0 rfl rfl 2 (by decide) (hts _ mU_117) (fun _ h9 => h9) rfl dX8_takeOut_62 ?_
        refine lv_iload hx hb dX8_takeOut_65 (lv_at hl 2 rfl) ?_
        obtain ⟨zg6, hF⟩ := z_grd hF
        refine va_iald hx hb hK hP 3 1 rfl rfl zg6 dX8_takeOut_67 ?_
        obtain ⟨zg7, hF⟩ := z_grd hF
        refine va_iast hx hb hK hP hD hS 3 1 rfl rfl zg7 dX8_takeOut_68 (fun H locs hP hD hS => ?_)
        have hP : va_P (gD g) zCl (wState g a0 a1 a2 a3 a4 ((upd (s_ids st) (Int32.toNatClampNeg (x4 - 1)) ((s_ids st) (Int32.toNatClampNeg x4))), (vp_updL (s_vals st) (Int32.toNatClampNeg (x4 - 1)) ((s_vals st) (Int32.toNatClampNeg x4))), (upd (s_scs st) (Int32.toNatClampNeg (x4 - 1)) ((s_scs st) (Int32.toNatClampNeg x4))), (s_mds st), (s_cnt st), (s_nxt st), (s_esc st), (s_fal st), (s_add st), (s_fed st), (s_rem st))) H := hP
        have hD : va_D A (wState g a0 a1 a2 a3 a4 ((upd (s_ids st) (Int32.toNatClampNeg (x4 - 1)) ((s_ids st) (Int32.toNatClampNeg x4))), (vp_updL (s_vals st) (Int32.toNatClampNeg (x4 - 1)) ((s_vals st) (Int32.toNatClampNeg x4))), (upd (s_scs st) (Int32.toNatClampNeg (x4 - 1)) ((s_scs st) (Int32.toNatClampNeg x4))), (s_mds st), (s_cnt st), (s_nxt st), (s_esc st), (s_fal st), (s_add st), (s_fed st), (s_rem st))) := hD
        refine lv_aload_n hx hb dX8_takeOut_69 rfl (lv_at hl 0 rfl) ?_
        refine va_get (D := gD g) (ci := 5) (v := .ref a4) (C := RX8) (T := TX8) (N := 11) hx hb hts inX8 hown hK hP 0 rfl rfl 3 (by decide) (hts _ mU_119) (fun _ h9 => h9) rfl dX8_takeOut_70 ?_
        refine lv_iload hx hb dX8_takeOut_73 (lv_at hl 2 rfl) ?_
        refine lv_iconst (v := 1) hx hb dX8_takeOut_75 (by decide) ?_
        refine lv_isub hx hb dX8_takeOut_76 ?_
        refine lv_aload_n hx hb dX8_takeOut_77 rfl (lv_at hl 0 rfl) ?_
        refine va_get (D := gD g) (ci := 5) (v := .ref a4) (C := RX8) (T := TX8) (N := 11) hx hb hts inX8 hown hK hP 0 rfl rfl 3 (by decide) (hts _ mU_119) (fun _ h9 => h9) rfl dX8_takeOut_78 ?_
        refine lv_iload hx hb dX8_takeOut_81 (lv_at hl 2 rfl) ?_
        obtain ⟨zg8, hF⟩ := z_grd hF
        refine va_cald hx hb hK hP 4 0 rfl rfl zg8 dX8_takeOut_83 ?_
        obtain ⟨zg9, hF⟩ := z_grd hF
        refine va_cast hx hb hK hP hD hS 4 0 rfl rfl zg9 dX8_takeOut_84 (fun H locs hP hD hS => ?_)
        have hP : va_P (gD g) zCl (wState g a0 a1 a2 a3 a4 ((upd (s_ids st) (Int32.toNatClampNeg (x4 - 1)) ((s_ids st) (Int32.toNatClampNeg x4))), (vp_updL (s_vals st) (Int32.toNatClampNeg (x4 - 1)) ((s_vals st) (Int32.toNatClampNeg x4))), (upd (s_scs st) (Int32.toNatClampNeg (x4 - 1)) ((s_scs st) (Int32.toNatClampNeg x4))), (upd (s_mds st) (Int32.toNatClampNeg (x4 - 1)) (vp_nar .char ((s_mds st) (Int32.toNatClampNeg x4)))), (s_cnt st), (s_nxt st), (s_esc st), (s_fal st), (s_add st), (s_fed st), (s_rem st))) H := hP
        have hD : va_D A (wState g a0 a1 a2 a3 a4 ((upd (s_ids st) (Int32.toNatClampNeg (x4 - 1)) ((s_ids st) (Int32.toNatClampNeg x4))), (vp_updL (s_vals st) (Int32.toNatClampNeg (x4 - 1)) ((s_vals st) (Int32.toNatClampNeg x4))), (upd (s_scs st) (Int32.toNatClampNeg (x4 - 1)) ((s_scs st) (Int32.toNatClampNeg x4))), (upd (s_mds st) (Int32.toNatClampNeg (x4 - 1)) (vp_nar .char ((s_mds st) (Int32.toNatClampNeg x4)))), (s_cnt st), (s_nxt st), (s_esc st), (s_fal st), (s_add st), (s_fed st), (s_rem st))) := hD
        obtain ⟨zv10, ezv10, hF⟩ := z_let hF
        refine lv_iinc (v := zv10) (lv' := [(4, .int zv10), (0, .ref a0), (2, .long x2)]) hx hb dX8_takeOut_85 hl (k := 2) rfl (by rw [ezv10]; rfl) (by decide) rfl (fun ls hl => ?_)
        refine lv_goto (tgt := 12) hx hb dX8_takeOut_88 (by decide) ?_
        exact ih12 ((upd (s_ids st) (Int32.toNatClampNeg (x4 - 1)) ((s_ids st) (Int32.toNatClampNeg x4))), (vp_updL (s_vals st) (Int32.toNatClampNeg (x4 - 1)) ((s_vals st) (Int32.toNatClampNeg x4))), (upd (s_scs st) (Int32.toNatClampNeg (x4 - 1)) ((s_scs st) (Int32.toNatClampNeg x4))), (upd (s_mds st) (Int32.toNatClampNeg (x4 - 1)) (vp_nar .char ((s_mds st) (Int32.toNatClampNeg x4)))), (s_cnt st), (s_nxt st), (s_esc st), (s_fal st), (s_add st), (s_fed st), (s_rem st)) x2 zv10 hF _ _ _ (lv_sub hl [1, 2, 0] rfl) hP hD hS
  refine lv_aload_n hx hb dX8_takeOut_0 rfl (lv_at hl 0 rfl) ?_
  refine va_get (D := gD g) (ci := 5) (v := .ref a2) (C := RX8) (T := TX8) (N := 11) hx hb hts inX8 hown hK hP 0 rfl rfl 1 (by decide) (hts _ mU_114) (fun _ h9 => h9) rfl dX8_takeOut_1 ?_
  refine lv_iload_n hx hb dX8_takeOut_4 rfl (lv_at hl 1 rfl) ?_
  obtain ⟨zg11, hF⟩ := z_grd hF
  refine va_lald hx hb hK hP 2 2 rfl rfl zg11 dX8_takeOut_5 ?_
  obtain ⟨zv12, ezv12, hF⟩ := z_let hF
  refine z_topl ezv12 ?_
  refine lv_lstore_n (lv' := [(2, .long zv12), (0, .ref a0), (1, .int p1)]) hx hb dX8_takeOut_6 rfl hl (by decide) rfl (fun ls hl => ?_)
  refine lv_iload_n hx hb dX8_takeOut_7 rfl (lv_at hl 2 rfl) ?_
  refine lv_iconst (v := 1) hx hb dX8_takeOut_8 (by decide) ?_
  refine lv_iadd hx hb dX8_takeOut_9 ?_
  obtain ⟨zv13, ezv13, hF⟩ := z_let hF
  refine z_topi ezv13 ?_
  refine lv_istore (lv' := [(4, .int zv13), (2, .long zv12), (0, .ref a0), (1, .int p1)]) hx hb dX8_takeOut_10 hl (by decide) rfl (fun ls hl => ?_)
  exact K12 fu st zv12 zv13 hF _ _ _ (lv_sub hl [2, 1, 0] rfl) hP hD hS
abbrev w_X8_isAhead : List Cond := .code yX8_isAhead cX8_isAhead 3 (some .boolean) :: wU
abbrev r_X8_isAhead : Room := { frames := 0, cells := 0, slots := 0, locals := 0 }
abbrev q_X8_isAhead (g : GG) (a0 a1 a2 a3 a4 : Nat) (st : SS) (o : Int32) (A : Nat → Prop) := va_Qi (fun (r : Int32) (u : Unit) => o = r) (fun u t => va_P (gD g) zCl (wState g a0 a1 a2 a3 a4 st) t.heap) A
set_option maxHeartbeats 4000000 in
set_option maxRecDepth 100000 in
theorem c_X8_isAhead (l : Launch) (g : GG) (a0 a1 a2 a3 a4 : Nat) (st : SS) (sz : Nat) (p1 : Int32) (p2 : Int32) (o : Int32) (hF : F_X8_isAhead st p1 p2 = some o) : Met l yX8_isAhead w_X8_isAhead r_X8_isAhead (va_Pc [.ref a0, .int p1, .int p2] (zP g (wState g a0 a1 a2 a3 a4 st) sz)) (q_X8_isAhead g a0 a1 a2 a3 a4 st o (va_A (wState g a0 a1 a2 a3 a4 st) sz)) 0 0 (va_A (wState g a0 a1 a2 a3 a4 st) sz) := by
  refine Met.ofW (cc := cX8_isAhead) (maxL := 3) (ret := (some .boolean)) (by decide) rfl ?_
  intro p e s m args below meth c s₁ B hml hv
  obtain ⟨rfl, rfl, hP, hK, hD0, hB⟩ := hv
  have hx := B.exec
  have hb := B.bytes
  have hr := B.returns
  have hts : ∀ w ∈ wU, w.before _ s = true := fun w h => atoms_spec (ws := w_X8_isAhead) B.pre w (List.mem_cons_of_mem _ h)
  have hown : s.vm.findClass RX8 = some m.cls := findClass_of_methodNamed B.named
  have hlocks := B.notSynchronized
  have hD := hD0.self (sz := s.heap.size)
  generalize hAe : va_A (wState g a0 a1 a2 a3 a4 st) s.heap.size = A at hD hB ⊢
  have hA : ∀ q : Nat, s.heap.size ≤ q → A q := fun q h => by rw [← hAe]; exact Or.inr h
  have hS : va_S A s.heap s.heap [] := va_S.rf
  have hl := lv_entry ([.ref a0, .int p1, .int p2]) (n := 3) (Nat.le_of_ble_eq_true rfl)
  rw [lg_entry_eq]
  generalize (lg_sl ([.ref a0, .int p1, .int p2]) ++ List.replicate (3 - (lg_sl ([.ref a0, .int p1, .int p2])).length) Slot.unset).toArray = ls at hl ⊢
  have hl : lv_has ls 3 [(0, .ref a0), (1, .int p1), (2, .int p2)] := hl
  unfold F_X8_isAhead at hF
  refine lv_aload_n hx hb dX8_isAhead_0 rfl (lv_at hl 0 rfl) ?_
  refine va_get (D := gD g) (ci := 5) (v := .ref a2) (C := RX8) (T := TX8) (N := 11) hx hb hts inX8 hown hK hP 0 rfl rfl 1 (by decide) (hts _ mU_114) (fun _ h9 => h9) rfl dX8_isAhead_1 ?_
  refine lv_iload_n hx hb dX8_isAhead_4 rfl (lv_at hl 1 rfl) ?_
  obtain ⟨zg1, hF⟩ := z_grd hF
  refine va_lald hx hb hK hP 2 2 rfl rfl zg1 dX8_isAhead_5 ?_
  refine lv_aload_n hx hb dX8_isAhead_6 rfl (lv_at hl 0 rfl) ?_
  refine va_get (D := gD g) (ci := 5) (v := .ref a2) (C := RX8) (T := TX8) (N := 11) hx hb hts inX8 hown hK hP 0 rfl rfl 1 (by decide) (hts _ mU_114) (fun _ h9 => h9) rfl dX8_isAhead_7 ?_
  refine lv_iload_n hx hb dX8_isAhead_10 rfl (lv_at hl 2 rfl) ?_
  obtain ⟨zg2, hF⟩ := z_grd hF
  refine va_lald hx hb hK hP 2 2 rfl rfl zg2 dX8_isAhead_11 ?_
  refine z_lcmp_eq (tgt := 38) hx hb dX8_isAhead_12 dX8_isAhead_13 (by decide) (fun zc3 => ?_) (fun zc3 => ?_)
  · have hF := z_pos hF zc3
    refine lv_aload_n hx hb dX8_isAhead_38 rfl (lv_at hl 0 rfl) ?_
    refine va_get (D := gD g) (ci := 5) (v := .ref a3) (C := RX8) (T := TX8) (N := 11) hx hb hts inX8 hown hK hP 0 rfl rfl 2 (by decide) (hts _ mU_117) (fun _ h9 => h9) rfl dX8_isAhead_39 ?_
    refine lv_iload_n hx hb dX8_isAhead_42 rfl (lv_at hl 1 rfl) ?_
    obtain ⟨zg4, hF⟩ := z_grd hF
    refine va_iald hx hb hK hP 3 1 rfl rfl zg4 dX8_isAhead_43 ?_
    refine lv_aload_n hx hb dX8_isAhead_44 rfl (lv_at hl 0 rfl) ?_
    refine va_get (D := gD g) (ci := 5) (v := .ref a3) (C := RX8) (T := TX8) (N := 11) hx hb hts inX8 hown hK hP 0 rfl rfl 2 (by decide) (hts _ mU_117) (fun _ h9 => h9) rfl dX8_isAhead_45 ?_
    refine lv_iload_n hx hb dX8_isAhead_48 rfl (lv_at hl 2 rfl) ?_
    obtain ⟨zg5, hF⟩ := z_grd hF
    refine va_iald hx hb hK hP 3 1 rfl rfl zg5 dX8_isAhead_49 ?_
    refine lv_icmp_eq (tgt := 74) hx hb dX8_isAhead_50 (by decide) (fun zc6 => ?_) (fun zc6 => ?_)
    · have hF := z_pos hF zc6
      refine lv_iload_n hx hb dX8_isAhead_74 rfl (lv_at hl 1 rfl) ?_
      refine lv_iload_n hx hb dX8_isAhead_75 rfl (lv_at hl 2 rfl) ?_
      refine lv_icmp_ge (tgt := 83) hx hb dX8_isAhead_76 (by decide) (fun zc7 => ?_) (fun zc7 => ?_)
      · have hF := z_pos hF zc7
        refine lv_iconst (v := 0) hx hb dX8_isAhead_83 (by decide) ?_
        have ho := (Option.some.inj hF).symm
        exact W.zret (v := 0) hx hb hr rfl (fun t ht hW => ⟨⟨0, (), rfl, ho, z_end ht hP⟩, hS.F ht⟩) hS.2.2 dX8_isAhead_84
      · have hF := z_neg hF zc7
        refine lv_iconst (v := 1) hx hb dX8_isAhead_79 (by decide) ?_
        refine lv_goto (tgt := 84) hx hb dX8_isAhead_80 (by decide) ?_
        have ho := (Option.some.inj hF).symm
        exact W.zret (v := 1) hx hb hr rfl (fun t ht hW => ⟨⟨1, (), rfl, ho, z_end ht hP⟩, hS.F ht⟩) hS.2.2 dX8_isAhead_84
    · have hF := z_neg hF zc6
      refine lv_aload_n hx hb dX8_isAhead_53 rfl (lv_at hl 0 rfl) ?_
      refine va_get (D := gD g) (ci := 5) (v := .ref a3) (C := RX8) (T := TX8) (N := 11) hx hb hts inX8 hown hK hP 0 rfl rfl 2 (by decide) (hts _ mU_117) (fun _ h9 => h9) rfl dX8_isAhead_54 ?_
      refine lv_iload_n hx hb dX8_isAhead_57 rfl (lv_at hl 1 rfl) ?_
      obtain ⟨zg8, hF⟩ := z_grd hF
      refine va_iald hx hb hK hP 3 1 rfl rfl zg8 dX8_isAhead_58 ?_
      refine lv_aload_n hx hb dX8_isAhead_59 rfl (lv_at hl 0 rfl) ?_
      refine va_get (D := gD g) (ci := 5) (v := .ref a3) (C := RX8) (T := TX8) (N := 11) hx hb hts inX8 hown hK hP 0 rfl rfl 2 (by decide) (hts _ mU_117) (fun _ h9 => h9) rfl dX8_isAhead_60 ?_
      refine lv_iload_n hx hb dX8_isAhead_63 rfl (lv_at hl 2 rfl) ?_
      obtain ⟨zg9, hF⟩ := z_grd hF
      refine va_iald hx hb hK hP 3 1 rfl rfl zg9 dX8_isAhead_64 ?_
      refine lv_icmp_le (tgt := 72) hx hb dX8_isAhead_65 (by decide) (fun zc10 => ?_) (fun zc10 => ?_)
      · have hF := z_pos hF zc10
        refine lv_iconst (v := 0) hx hb dX8_isAhead_72 (by decide) ?_
        have ho := (Option.some.inj hF).symm
        exact W.zret (v := 0) hx hb hr rfl (fun t ht hW => ⟨⟨0, (), rfl, ho, z_end ht hP⟩, hS.F ht⟩) hS.2.2 dX8_isAhead_73
      · have hF := z_neg hF zc10
        refine lv_iconst (v := 1) hx hb dX8_isAhead_68 (by decide) ?_
        refine lv_goto (tgt := 73) hx hb dX8_isAhead_69 (by decide) ?_
        have ho := (Option.some.inj hF).symm
        exact W.zret (v := 1) hx hb hr rfl (fun t ht hW => ⟨⟨1, (), rfl, ho, z_end ht hP⟩, hS.F ht⟩) hS.2.2 dX8_isAhead_73
  · have hF := z_neg hF zc3
    refine lv_aload_n hx hb dX8_isAhead_16 rfl (lv_at hl 0 rfl) ?_
    refine va_get (D := gD g) (ci := 5) (v := .ref a2) (C := RX8) (T := TX8) (N := 11) hx hb hts inX8 hown hK hP 0 rfl rfl 1 (by decide) (hts _ mU_114) (fun _ h9 => h9) rfl dX8_isAhead_17 ?_
    refine lv_iload_n hx hb dX8_isAhead_20 rfl (lv_at hl 1 rfl) ?_
    obtain ⟨zg11, hF⟩ := z_grd hF
    refine va_lald hx hb hK hP 2 2 rfl rfl zg11 dX8_isAhead_21 ?_
    refine lv_aload_n hx hb dX8_isAhead_22 rfl (lv_at hl 0 rfl) ?_
    refine va_get (D := gD g) (ci := 5) (v := .ref a2) (C := RX8) (T := TX8) (N := 11) hx hb hts inX8 hown hK hP 0 rfl rfl 1 (by decide) (hts _ mU_114) (fun _ h9 => h9) rfl dX8_isAhead_23 ?_
    refine lv_iload_n hx hb dX8_isAhead_26 rfl (lv_at hl 2 rfl) ?_
    obtain ⟨zg12, hF⟩ := z_grd hF
    refine va_lald hx hb hK hP 2 2 rfl rfl zg12 dX8_isAhead_27 ?_
    refine z_lcmp_le (tgt := 36) hx hb dX8_isAhead_28 dX8_isAhead_29 (by decide) (fun zc13 => ?_) (fun zc13 => ?_)
    · have hF := z_neg hF zc13
      refine lv_iconst (v := 0) hx hb dX8_isAhead_36 (by decide) ?_
      have ho := (Option.some.inj hF).symm
      exact W.zret (v := 0) hx hb hr rfl (fun t ht hW => ⟨⟨0, (), rfl, ho, z_end ht hP⟩, hS.F ht⟩) hS.2.2 dX8_isAhead_37
    · have hF := z_pos hF zc13
      refine lv_iconst (v := 1) hx hb dX8_isAhead_32 (by decide) ?_
      refine lv_goto (tgt := 37) hx hb dX8_isAhead_33 (by decide) ?_
      have ho := (Option.some.inj hF).symm
      exact W.zret (v := 1) hx hb hr rfl (fun t ht hW => ⟨⟨1, (), rfl, ho, z_end ht hP⟩, hS.F ht⟩) hS.2.2 dX8_isAhead_37
abbrev w_X8_rankOf : List Cond := .code yX8_rankOf cX8_rankOf 4 (some .int) :: wU
abbrev r_X8_rankOf : Room := { frames := 1, cells := 0, slots := 0, locals := 22 }
abbrev q_X8_rankOf (g : GG) (a0 a1 a2 a3 a4 : Nat) (st : SS) (o : Int32) (A : Nat → Prop) := va_Qi (fun (r : Int32) (u : Unit) => o = r) (fun u t => va_P (gD g) zCl (wState g a0 a1 a2 a3 a4 st) t.heap) A
set_option maxHeartbeats 4000000 in
set_option maxRecDepth 100000 in
theorem c_X8_rankOf (l : Launch) (g : GG) (a0 a1 a2 a3 a4 : Nat) (st : SS) (sz : Nat) (p1 : Int32) (fu : Nat) (o : Int32) (hF : F_X8_rankOf fu st p1 = some o) : Met l yX8_rankOf w_X8_rankOf r_X8_rankOf (va_Pc [.ref a0, .int p1] (zP g (wState g a0 a1 a2 a3 a4 st) sz)) (q_X8_rankOf g a0 a1 a2 a3 a4 st o (va_A (wState g a0 a1 a2 a3 a4 st) sz)) 0 0 (va_A (wState g a0 a1 a2 a3 a4 st) sz) := by
  refine Met.ofW (cc := cX8_rankOf) (maxL := 4) (ret := (some .int)) (by decide) rfl ?_
  intro p e s m args below meth c s₁ B hml hv
  obtain ⟨rfl, rfl, hP, hK, hD0, hB⟩ := hv
  have hx := B.exec
  have hb := B.bytes
  have hr := B.returns
  have hts : ∀ w ∈ wU, w.before _ s = true := fun w h => atoms_spec (ws := w_X8_rankOf) B.pre w (List.mem_cons_of_mem _ h)
  have hown : s.vm.findClass RX8 = some m.cls := findClass_of_methodNamed B.named
  have hlocks := B.notSynchronized
  have hD := hD0.self (sz := s.heap.size)
  generalize hAe : va_A (wState g a0 a1 a2 a3 a4 st) s.heap.size = A at hD hB ⊢
  have hA : ∀ q : Nat, s.heap.size ≤ q → A q := fun q h => by rw [← hAe]; exact Or.inr h
  have hS : va_S A s.heap s.heap [] := va_S.rf
  have hl := lv_entry ([.ref a0, .int p1]) (n := 4) (Nat.le_of_ble_eq_true rfl)
  rw [lg_entry_eq]
  generalize (lg_sl ([.ref a0, .int p1]) ++ List.replicate (4 - (lg_sl ([.ref a0, .int p1])).length) Slot.unset).toArray = ls at hl ⊢
  have hl : lv_has ls 4 [(0, .ref a0), (1, .int p1)] := hl
  unfold F_X8_rankOf at hF
  have K4 : ∀ (n4 : Nat) (x2 : Int32) (x3 : Int32), F_X8_rankOf_4 fu n4 st p1 x2 x3 = some o → ∀ (H : Heap) (locs : List Loc) (ls : Array Slot), lv_has ls 4 [(0, .ref a0), (1, .int p1), (2, .int x2), (3, .int x3)] → va_P (gD g) zCl (wState g a0 a1 a2 a3 a4 st) H → va_D A (wState g a0 a1 a2 a3 a4 st) → va_S A s.heap H locs → W p l e (headSpec w_X8_rankOf r_X8_rankOf).room s m ([.ref a0, .int p1] : List Value).toArray below meth c H locs 0 0 (MQ below (q_X8_rankOf g a0 a1 a2 a3 a4 st o A) ([.ref a0, .int p1] : List Value).toArray s 0 0 A) (F0 m 4 ls []) := by
    intro n4
    induction n4 with
    | zero =>
      intro x2 x3 hF
      exact absurd hF (by simp [F_X8_rankOf_4])
    | succ n4 ih4 =>
      intro x2 x3 hF H locs ls hl hP hD hS
      unfold F_X8_rankOf_4 at hF
      refine lv_iload_n hx hb dX8_rankOf_4 rfl (lv_at hl 3 rfl) ?_
      refine lv_aload_n hx hb dX8_rankOf_5 rfl (lv_at hl 0 rfl) ?_
      refine va_get (D := gD g) (ci := 5) (v := .int (s_cnt st)) (C := RX8) (T := TX8) (N := 11) hx hb hts inX8 hown hK hP 0 rfl rfl 4 (by decide) (hts _ mU_121) (fun _ h9 => h9) rfl dX8_rankOf_6 ?_
      refine lv_icmp_ge (tgt := 30) hx hb dX8_rankOf_9 (by decide) (fun zc1 => ?_) (fun zc1 => ?_)
      · have hF := z_pos hF zc1
        refine lv_iload_n hx hb dX8_rankOf_30 rfl (lv_at hl 2 rfl) ?_
        have ho := (Option.some.inj hF).symm
        exact W.iret (v := x2) hx hb hr (fun t ht hW => ⟨⟨x2, (), rfl, ho, z_end ht hP⟩, hS.F ht⟩) hS.2.2 dX8_rankOf_31
      · have hF := z_neg hF zc1
        refine lv_aload_n hx hb dX8_rankOf_12 rfl (lv_at hl 0 rfl) ?_
        refine lv_iload_n hx hb dX8_rankOf_13 rfl (lv_at hl 3 rfl) ?_
        refine lv_iload_n hx hb dX8_rankOf_14 rfl (lv_at hl 1 rfl) ?_
        obtain ⟨zo2, hzo2, hF⟩ := z_bind hF
        refine z_calliE (fun (_ : Unit) => (wState g a0 a1 a2 a3 a4 st)) (va_runV (As := [.int x3, .int p1]) (rest := []) ⟨hx, hb, hml, hown, hts⟩ (c_X8_isAhead l g a0 a1 a2 a3 a4 st _ x3 p1 _ hzo2) (cwV 2 hts (gdV mU_884 mU_886 mU_13 mU_67 mU_887) rfl rfl rfl (by decide +kernel) ⟨Nat.le_of_ble_eq_true rfl, Nat.le_of_ble_eq_true rfl⟩) ⟨z_blind _ _ _ _, va_recv hK hP (ci := 5) (q0 := 0) rfl rfl, fun U hU hW => z_preE hP hD hK hB hS hA hU hW⟩ rfl rfl hl.1 rfl (lv_room (Nat.le_of_ble_eq_true rfl)) dX8_rankOf_15 ⟨Nat.le_of_ble_eq_true rfl, Nat.le_of_ble_eq_true rfl⟩) hD hS hA (fun _ => rfl) (fun r u H locs hw hP hD hS => ?_)
        subst hw
        have hP : va_P (gD g) zCl (wState g a0 a1 a2 a3 a4 st) H := hP
        have hD : va_D A (wState g a0 a1 a2 a3 a4 st) := hD
        refine lv_if_eq (tgt := 24) hx hb dX8_rankOf_18 (by decide) (fun zc3 => ?_) (fun zc3 => ?_)
        · have hF := z_pos hF zc3
          obtain ⟨zv4, ezv4, hF⟩ := z_let hF
          refine lv_iinc (v := zv4) (lv' := [(3, .int zv4), (0, .ref a0), (1, .int p1), (2, .int x2)]) hx hb dX8_rankOf_24 hl (k := 3) rfl (by rw [ezv4]; rfl) (by decide) rfl (fun ls hl => ?_)
          refine lv_goto (tgt := 4) hx hb dX8_rankOf_27 (by decide) ?_
          exact ih4 x2 zv4 hF _ _ _ (lv_sub hl [1, 2, 3, 0] rfl) hP hD hS
        · have hF := z_neg hF zc3
          obtain ⟨zv5, ezv5, hF⟩ := z_let hF
          refine lv_iinc (v := zv5) (lv' := [(2, .int zv5), (0, .ref a0), (1, .int p1), (3, .int x3)]) hx hb dX8_rankOf_21 hl (k := 2) rfl (by rw [ezv5]; rfl) (by decide) rfl (fun ls hl => ?_)
          obtain ⟨zv6, ezv6, hF⟩ := z_let hF
          refine lv_iinc (v := zv6) (lv' := [(3, .int zv6), (2, .int zv5), (0, .ref a0), (1, .int p1)]) hx hb dX8_rankOf_24 hl (k := 3) rfl (by rw [ezv6]; rfl) (by decide) rfl (fun ls hl => ?_)
          refine lv_goto (tgt := 4) hx hb dX8_rankOf_27 (by decide) ?_
          exact ih4 zv5 zv6 hF _ _ _ (lv_sub hl [2, 3, 1, 0] rfl) hP hD hS
  refine lv_iconst (v := 0) hx hb dX8_rankOf_0 (by decide) ?_
  refine lv_istore_n (lv' := [(2, .int 0), (0, .ref a0), (1, .int p1)]) hx hb dX8_rankOf_1 rfl hl (by decide) rfl (fun ls hl => ?_)
  refine lv_iconst (v := 0) hx hb dX8_rankOf_2 (by decide) ?_
  refine lv_istore_n (lv' := [(3, .int 0), (2, .int 0), (0, .ref a0), (1, .int p1)]) hx hb dX8_rankOf_3 rfl hl (by decide) rfl (fun ls hl => ?_)
  exact K4 fu 0 0 hF _ _ _ (lv_sub hl [2, 3, 1, 0] rfl) hP hD hS
abbrev w_X8_fitsSteps : List Cond := .code yX8_fitsSteps cX8_fitsSteps 2 (some .boolean) :: wU
abbrev r_X8_fitsSteps : Room := { frames := 1, cells := 0, slots := 0, locals := 20 }
abbrev q_X8_fitsSteps (g : GG) (a0 a1 a2 a3 a4 : Nat) (st : SS) (o : Int32) (A : Nat → Prop) := va_Qi (fun (r : Int32) (u : Unit) => o = r) (fun u t => va_P (gD g) zCl (wState g a0 a1 a2 a3 a4 st) t.heap) A
set_option maxHeartbeats 4000000 in
set_option maxRecDepth 100000 in
theorem c_X8_fitsSteps (l : Launch) (g : GG) (a0 a1 a2 a3 a4 : Nat) (st : SS) (sz : Nat) (fu : Nat) (o : Int32) (hF : F_X8_fitsSteps fu st = some o) : Met l yX8_fitsSteps w_X8_fitsSteps r_X8_fitsSteps (va_Pc [.ref a0] (zP g (wState g a0 a1 a2 a3 a4 st) sz)) (q_X8_fitsSteps g a0 a1 a2 a3 a4 st o (va_A (wState g a0 a1 a2 a3 a4 st) sz)) 0 0 (va_A (wState g a0 a1 a2 a3 a4 st) sz) := by
  refine Met.ofW (cc := cX8_fitsSteps) (maxL := 2) (ret := (some .boolean)) (by decide) rfl ?_
  intro p e s m args below meth c s₁ B hml hv
  obtain ⟨rfl, rfl, hP, hK, hD0, hB⟩ := hv
  have hx := B.exec
  have hb := B.bytes
  have hr := B.returns
  have hts : ∀ w ∈ wU, w.before _ s = true := fun w h => atoms_spec (ws := w_X8_fitsSteps) B.pre w (List.mem_cons_of_mem _ h)
  have hown : s.vm.findClass RX8 = some m.cls := findClass_of_methodNamed B.named
  have hlocks := B.notSynchronized
  have hD := hD0.self (sz := s.heap.size)
  generalize hAe : va_A (wState g a0 a1 a2 a3 a4 st) s.heap.size = A at hD hB ⊢
  have hA : ∀ q : Nat, s.heap.size ≤ q → A q := fun q h => by rw [← hAe]; exact Or.inr h
  have hS : va_S A s.heap s.heap [] := va_S.rf
  have hl := lv_entry ([.ref a0]) (n := 2) (Nat.le_of_ble_eq_true rfl)
  rw [lg_entry_eq]
  generalize (lg_sl ([.ref a0]) ++ List.replicate (2 - (lg_sl ([.ref a0])).length) Slot.unset).toArray = ls at hl ⊢
  have hl : lv_has ls 2 [(0, .ref a0)] := hl
  unfold F_X8_fitsSteps at hF
  have K2 : ∀ (n2 : Nat) (x1 : Int32), F_X8_fitsSteps_2 fu n2 st x1 = some o → ∀ (H : Heap) (locs : List Loc) (ls : Array Slot), lv_has ls 2 [(0, .ref a0), (1, .int x1)] → va_P (gD g) zCl (wState g a0 a1 a2 a3 a4 st) H → va_D A (wState g a0 a1 a2 a3 a4 st) → va_S A s.heap H locs → W p l e (headSpec w_X8_fitsSteps r_X8_fitsSteps).room s m ([.ref a0] : List Value).toArray below meth c H locs 0 0 (MQ below (q_X8_fitsSteps g a0 a1 a2 a3 a4 st o A) ([.ref a0] : List Value).toArray s 0 0 A) (F0 m 2 ls []) := by
    intro n2
    induction n2 with
    | zero =>
      intro x1 hF
      exact absurd hF (by simp [F_X8_fitsSteps_2])
    | succ n2 ih2 =>
      intro x1 hF H locs ls hl hP hD hS
      unfold F_X8_fitsSteps_2 at hF
      refine lv_iload_n hx hb dX8_fitsSteps_2 rfl (lv_at hl 1 rfl) ?_
      refine lv_aload_n hx hb dX8_fitsSteps_3 rfl (lv_at hl 0 rfl) ?_
      refine va_get (D := gD g) (ci := 5) (v := .int (s_cnt st)) (C := RX8) (T := TX8) (N := 11) hx hb hts inX8 hown hK hP 0 rfl rfl 4 (by decide) (hts _ mU_121) (fun _ h9 => h9) rfl dX8_fitsSteps_4 ?_
      refine lv_icmp_ge (tgt := 39) hx hb dX8_fitsSteps_7 (by decide) (fun zc1 => ?_) (fun zc1 => ?_)
      · have hF := z_pos hF zc1
        refine lv_iconst (v := 1) hx hb dX8_fitsSteps_39 (by decide) ?_
        have ho := (Option.some.inj hF).symm
        exact W.zret (v := 1) hx hb hr rfl (fun t ht hW => ⟨⟨1, (), rfl, ho, z_end ht hP⟩, hS.F ht⟩) hS.2.2 dX8_fitsSteps_40
      · have hF := z_neg hF zc1
        refine lv_aload_n hx hb dX8_fitsSteps_10 rfl (lv_at hl 0 rfl) ?_
        refine va_get (D := gD g) (ci := 5) (v := .ref a2) (C := RX8) (T := TX8) (N := 11) hx hb hts inX8 hown hK hP 0 rfl rfl 1 (by decide) (hts _ mU_114) (fun _ h9 => h9) rfl dX8_fitsSteps_11 ?_
        refine lv_iload_n hx hb dX8_fitsSteps_14 rfl (lv_at hl 1 rfl) ?_
        obtain ⟨zg2, hF⟩ := z_grd hF
        refine va_lald hx hb hK hP 2 2 rfl rfl zg2 dX8_fitsSteps_15 ?_
        refine lv_aload_n hx hb dX8_fitsSteps_16 rfl (lv_at hl 0 rfl) ?_
        refine va_get (D := gD g) (ci := 5) (v := .ref a3) (C := RX8) (T := TX8) (N := 11) hx hb hts inX8 hown hK hP 0 rfl rfl 2 (by decide) (hts _ mU_117) (fun _ h9 => h9) rfl dX8_fitsSteps_17 ?_
        refine lv_iload_n hx hb dX8_fitsSteps_20 rfl (lv_at hl 1 rfl) ?_
        obtain ⟨zg3, hF⟩ := z_grd hF
        refine va_iald hx hb hK hP 3 1 rfl rfl zg3 dX8_fitsSteps_21 ?_
        obtain ⟨zo4, hzo4, hF⟩ := z_bind hF
        refine z_calll (fun (_ : Unit) => []) [] (va_runS (As := [.int ((s_scs st) (Int32.toNatClampNeg x1))]) (rest := [.long ((s_vals st) (Int32.toNatClampNeg x1))]) ⟨hx, hb, hml, hown, hts⟩ (c_X7_stepOf l g _ ((s_scs st) (Int32.toNatClampNeg x1)) _ hzo4) (va_cwS 1 hts (gdS mU_342 mU_343 mU_88 mU_344) rfl rfl rfl (by decide +kernel) ⟨Nat.le_of_ble_eq_true rfl, Nat.le_of_ble_eq_true rfl⟩) ⟨z_blind _ _ _ _, fun U hU hW => z_pre [] hP hD hK hB hS hA rfl rfl hU hW⟩ rfl rfl hl.1 rfl (lv_room (Nat.le_of_ble_eq_true rfl)) dX8_fitsSteps_22 ⟨Nat.le_of_ble_eq_true rfl, Nat.le_of_ble_eq_true rfl⟩) hP hD hS hA rfl (fun _ => rfl) (fun r u H locs hw hP hD hS => ?_)
        subst hw
        have hP : va_P (gD g) zCl (wState g a0 a1 a2 a3 a4 st) H := hP
        have hD : va_D A (wState g a0 a1 a2 a3 a4 st) := hD
        obtain ⟨zg5, hF⟩ := z_grd hF
        refine lv_lrem hx hb dX8_fitsSteps_25 zg5 ?_
        refine lv_lconst (v := 0) hx hb dX8_fitsSteps_26 (by decide) ?_
        refine z_lcmp_eq (tgt := 33) hx hb dX8_fitsSteps_27 dX8_fitsSteps_28 (by decide) (fun zc6 => ?_) (fun zc6 => ?_)
        · have hF := z_pos hF zc6
          obtain ⟨zv7, ezv7, hF⟩ := z_let hF
          refine lv_iinc (v := zv7) (lv' := [(1, .int zv7), (0, .ref a0)]) hx hb dX8_fitsSteps_33 hl (k := 1) rfl (by rw [ezv7]; rfl) (by decide) rfl (fun ls hl => ?_)
          refine lv_goto (tgt := 2) hx hb dX8_fitsSteps_36 (by decide) ?_
          exact ih2 zv7 hF _ _ _ (lv_sub hl [1, 0] rfl) hP hD hS
        · have hF := z_neg hF zc6
          refine lv_iconst (v := 0) hx hb dX8_fitsSteps_31 (by decide) ?_
          have ho := (Option.some.inj hF).symm
          exact W.zret (v := 0) hx hb hr rfl (fun t ht hW => ⟨⟨0, (), rfl, ho, z_end ht hP⟩, hS.F ht⟩) hS.2.2 dX8_fitsSteps_32
  refine lv_iconst (v := 0) hx hb dX8_fitsSteps_0 (by decide) ?_
  refine lv_istore_n (lv' := [(1, .int 0), (0, .ref a0)]) hx hb dX8_fitsSteps_1 rfl hl (by decide) rfl (fun ls hl => ?_)
  exact K2 fu 0 hF _ _ _ (lv_sub hl [1, 0] rfl) hP hD hS
abbrev w_X8_sumOfValues : List Cond := .code yX8_sumOfValues cX8_sumOfValues 4 (some .long) :: wU
abbrev r_X8_sumOfValues : Room := { frames := 0, cells := 0, slots := 0, locals := 0 }
abbrev q_X8_sumOfValues (g : GG) (a0 a1 a2 a3 a4 : Nat) (st : SS) (o : Int64) (A : Nat → Prop) := va_Ql (fun (r : Int64) (u : Unit) => o = r) (fun u t => va_P (gD g) zCl (wState g a0 a1 a2 a3 a4 st) t.heap) A
set_option maxHeartbeats 4000000 in
set_option maxRecDepth 100000 in
theorem c_X8_sumOfValues (l : Launch) (g : GG) (a0 a1 a2 a3 a4 : Nat) (st : SS) (sz : Nat) (fu : Nat) (o : Int64) (hF : F_X8_sumOfValues fu st = some o) : Met l yX8_sumOfValues w_X8_sumOfValues r_X8_sumOfValues (va_Pc [.ref a0] (zP g (wState g a0 a1 a2 a3 a4 st) sz)) (q_X8_sumOfValues g a0 a1 a2 a3 a4 st o (va_A (wState g a0 a1 a2 a3 a4 st) sz)) 0 0 (va_A (wState g a0 a1 a2 a3 a4 st) sz) := by
  refine Met.ofW (cc := cX8_sumOfValues) (maxL := 4) (ret := (some .long)) (by decide) rfl ?_
  intro p e s m args below meth c s₁ B hml hv
  obtain ⟨rfl, rfl, hP, hK, hD0, hB⟩ := hv
  have hx := B.exec
  have hb := B.bytes
  have hr := B.returns
  have hts : ∀ w ∈ wU, w.before _ s = true := fun w h => atoms_spec (ws := w_X8_sumOfValues) B.pre w (List.mem_cons_of_mem _ h)
  have hown : s.vm.findClass RX8 = some m.cls := findClass_of_methodNamed B.named
  have hlocks := B.notSynchronized
  have hD := hD0.self (sz := s.heap.size)
  generalize hAe : va_A (wState g a0 a1 a2 a3 a4 st) s.heap.size = A at hD hB ⊢
  have hA : ∀ q : Nat, s.heap.size ≤ q → A q := fun q h => by rw [← hAe]; exact Or.inr h
  have hS : va_S A s.heap s.heap [] := va_S.rf
  have hl := lv_entry ([.ref a0]) (n := 4) (Nat.le_of_ble_eq_true rfl)
  rw [lg_entry_eq]
  generalize (lg_sl ([.ref a0]) ++ List.replicate (4 - (lg_sl ([.ref a0])).length) Slot.unset).toArray = ls at hl ⊢
  have hl : lv_has ls 4 [(0, .ref a0)] := hl
  unfold F_X8_sumOfValues at hF
  have K4 : ∀ (n4 : Nat) (x1 : Int64) (x3 : Int32), F_X8_sumOfValues_4 fu n4 st x1 x3 = some o → ∀ (H : Heap) (locs : List Loc) (ls : Array Slot), lv_has ls 4 [(0, .ref a0), (1, .long x1), (3, .int x3)] → va_P (gD g) zCl (wState g a0 a1 a2 a3 a4 st) H → va_D A (wState g a0 a1 a2 a3 a4 st) → va_S A s.heap H locs → W p l e (headSpec w_X8_sumOfValues r_X8_sumOfValues).room s m ([.ref a0] : List Value).toArray below meth c H locs 0 0 (MQ below (q_X8_sumOfValues g a0 a1 a2 a3 a4 st o A) ([.ref a0] : List Value).toArray s 0 0 A) (F0 m 4 ls []) := by
    intro n4
    induction n4 with
    | zero =>
      intro x1 x3 hF
      exact absurd hF (by simp [F_X8_sumOfValues_4])
    | succ n4 ih4 =>
      intro x1 x3 hF H locs ls hl hP hD hS
      unfold F_X8_sumOfValues_4 at hF
      refine lv_iload_n hx hb dX8_sumOfValues_4 rfl (lv_at hl 2 rfl) ?_
      refine lv_aload_n hx hb dX8_sumOfValues_5 rfl (lv_at hl 0 rfl) ?_
      refine va_get (D := gD g) (ci := 5) (v := .int (s_cnt st)) (C := RX8) (T := TX8) (N := 11) hx hb hts inX8 hown hK hP 0 rfl rfl 4 (by decide) (hts _ mU_121) (fun _ h9 => h9) rfl dX8_sumOfValues_6 ?_
      refine lv_icmp_ge (tgt := 27) hx hb dX8_sumOfValues_9 (by decide) (fun zc1 => ?_) (fun zc1 => ?_)
      · have hF := z_pos hF zc1
        refine lv_lload_n hx hb dX8_sumOfValues_27 rfl (lv_at hl 1 rfl) ?_
        have ho := (Option.some.inj hF).symm
        exact W.lret (v := x1) hx hb hr (fun t ht hW => ⟨⟨x1, (), rfl, ho, z_end ht hP⟩, hS.F ht⟩) hS.2.2 dX8_sumOfValues_28
      · have hF := z_neg hF zc1
        refine lv_lload_n hx hb dX8_sumOfValues_12 rfl (lv_at hl 1 rfl) ?_
        refine lv_aload_n hx hb dX8_sumOfValues_13 rfl (lv_at hl 0 rfl) ?_
        refine va_get (D := gD g) (ci := 5) (v := .ref a2) (C := RX8) (T := TX8) (N := 11) hx hb hts inX8 hown hK hP 0 rfl rfl 1 (by decide) (hts _ mU_114) (fun _ h9 => h9) rfl dX8_sumOfValues_14 ?_
        refine lv_iload_n hx hb dX8_sumOfValues_17 rfl (lv_at hl 2 rfl) ?_
        obtain ⟨zg2, hF⟩ := z_grd hF
        refine va_lald hx hb hK hP 2 2 rfl rfl zg2 dX8_sumOfValues_18 ?_
        refine lv_ladd hx hb dX8_sumOfValues_19 ?_
        obtain ⟨zv3, ezv3, hF⟩ := z_let hF
        refine z_topl ezv3 ?_
        refine lv_lstore_n (lv' := [(1, .long zv3), (0, .ref a0), (3, .int x3)]) hx hb dX8_sumOfValues_20 rfl hl (by decide) rfl (fun ls hl => ?_)
        obtain ⟨zv4, ezv4, hF⟩ := z_let hF
        refine lv_iinc (v := zv4) (lv' := [(3, .int zv4), (1, .long zv3), (0, .ref a0)]) hx hb dX8_sumOfValues_21 hl (k := 2) rfl (by rw [ezv4]; rfl) (by decide) rfl (fun ls hl => ?_)
        refine lv_goto (tgt := 4) hx hb dX8_sumOfValues_24 (by decide) ?_
        exact ih4 zv3 zv4 hF _ _ _ (lv_sub hl [2, 1, 0] rfl) hP hD hS
  refine lv_lconst (v := 0) hx hb dX8_sumOfValues_0 (by decide) ?_
  refine lv_lstore_n (lv' := [(1, .long 0), (0, .ref a0)]) hx hb dX8_sumOfValues_1 rfl hl (by decide) rfl (fun ls hl => ?_)
  refine lv_iconst (v := 0) hx hb dX8_sumOfValues_2 (by decide) ?_
  refine lv_istore_n (lv' := [(3, .int 0), (1, .long 0), (0, .ref a0)]) hx hb dX8_sumOfValues_3 rfl hl (by decide) rfl (fun ls hl => ?_)
  exact K4 fu 0 0 hF _ _ _ (lv_sub hl [2, 1, 0] rfl) hP hD hS
abbrev w_X8_sumByAccounts : List Cond := .code yX8_sumByAccounts cX8_sumByAccounts 1 (some .long) :: wU
abbrev r_X8_sumByAccounts : Room := { frames := 0, cells := 0, slots := 0, locals := 0 }
abbrev q_X8_sumByAccounts (g : GG) (a0 a1 a2 a3 a4 : Nat) (st : SS) (o : Int64) (A : Nat → Prop) := va_Ql (fun (r : Int64) (u : Unit) => o = r) (fun u t => va_P (gD g) zCl (wState g a0 a1 a2 a3 a4 st) t.heap) A
set_option maxHeartbeats 4000000 in
set_option maxRecDepth 100000 in
theorem c_X8_sumByAccounts (l : Launch) (g : GG) (a0 a1 a2 a3 a4 : Nat) (st : SS) (sz : Nat) (o : Int64) (hF : F_X8_sumByAccounts st = some o) : Met l yX8_sumByAccounts w_X8_sumByAccounts r_X8_sumByAccounts (va_Pc [.ref a0] (zP g (wState g a0 a1 a2 a3 a4 st) sz)) (q_X8_sumByAccounts g a0 a1 a2 a3 a4 st o (va_A (wState g a0 a1 a2 a3 a4 st) sz)) 0 0 (va_A (wState g a0 a1 a2 a3 a4 st) sz) := by
  refine Met.ofW (cc := cX8_sumByAccounts) (maxL := 1) (ret := (some .long)) (by decide) rfl ?_
  intro p e s m args below meth c s₁ B hml hv
  obtain ⟨rfl, rfl, hP, hK, hD0, hB⟩ := hv
  have hx := B.exec
  have hb := B.bytes
  have hr := B.returns
  have hts : ∀ w ∈ wU, w.before _ s = true := fun w h => atoms_spec (ws := w_X8_sumByAccounts) B.pre w (List.mem_cons_of_mem _ h)
  have hown : s.vm.findClass RX8 = some m.cls := findClass_of_methodNamed B.named
  have hlocks := B.notSynchronized
  have hD := hD0.self (sz := s.heap.size)
  generalize hAe : va_A (wState g a0 a1 a2 a3 a4 st) s.heap.size = A at hD hB ⊢
  have hA : ∀ q : Nat, s.heap.size ≤ q → A q := fun q h => by rw [← hAe]; exact Or.inr h
  have hS : va_S A s.heap s.heap [] := va_S.rf
  have hl := lv_entry ([.ref a0]) (n := 1) (Nat.le_of_ble_eq_true rfl)
  rw [lg_entry_eq]
  generalize (lg_sl ([.ref a0]) ++ List.replicate (1 - (lg_sl ([.ref a0])).length) Slot.unset).toArray = ls at hl ⊢
  have hl : lv_has ls 1 [(0, .ref a0)] := hl
  unfold F_X8_sumByAccounts at hF
  refine lv_aload_n hx hb dX8_sumByAccounts_0 rfl (lv_at hl 0 rfl) ?_
  refine va_get (D := gD g) (ci := 5) (v := .long (s_add st)) (C := RX8) (T := TX8) (N := 11) hx hb hts inX8 hown hK hP 0 rfl rfl 8 (by decide) (hts _ mU_129) (fun _ h9 => h9) rfl dX8_sumByAccounts_1 ?_
  refine lv_aload_n hx hb dX8_sumByAccounts_4 rfl (lv_at hl 0 rfl) ?_
  refine va_get (D := gD g) (ci := 5) (v := .long (s_fed st)) (C := RX8) (T := TX8) (N := 11) hx hb hts inX8 hown hK hP 0 rfl rfl 9 (by decide) (hts _ mU_130) (fun _ h9 => h9) rfl dX8_sumByAccounts_5 ?_
  refine lv_ladd hx hb dX8_sumByAccounts_8 ?_
  refine lv_aload_n hx hb dX8_sumByAccounts_9 rfl (lv_at hl 0 rfl) ?_
  refine va_get (D := gD g) (ci := 5) (v := .long (s_fal st)) (C := RX8) (T := TX8) (N := 11) hx hb hts inX8 hown hK hP 0 rfl rfl 7 (by decide) (hts _ mU_127) (fun _ h9 => h9) rfl dX8_sumByAccounts_10 ?_
  refine lv_ladd hx hb dX8_sumByAccounts_13 ?_
  refine lv_aload_n hx hb dX8_sumByAccounts_14 rfl (lv_at hl 0 rfl) ?_
  refine va_get (D := gD g) (ci := 5) (v := .long (s_rem st)) (C := RX8) (T := TX8) (N := 11) hx hb hts inX8 hown hK hP 0 rfl rfl 10 (by decide) (hts _ mU_132) (fun _ h9 => h9) rfl dX8_sumByAccounts_15 ?_
  refine lv_lsub hx hb dX8_sumByAccounts_18 ?_
  refine lv_ldc2 (v := 10000000000) hx hb hown (hts _ mU_325) dX8_sumByAccounts_19 ?_
  refine lv_aload_n hx hb dX8_sumByAccounts_22 rfl (lv_at hl 0 rfl) ?_
  refine va_get (D := gD g) (ci := 5) (v := .int (s_esc st)) (C := RX8) (T := TX8) (N := 11) hx hb hts inX8 hown hK hP 0 rfl rfl 6 (by decide) (hts _ mU_125) (fun _ h9 => h9) rfl dX8_sumByAccounts_23 ?_
  refine lv_i2l (v := (Int32.toInt64 (s_esc st))) hx hb dX8_sumByAccounts_26 rfl ?_
  refine lv_lmul hx hb dX8_sumByAccounts_27 ?_
  refine lv_lsub hx hb dX8_sumByAccounts_28 ?_
  have ho := (Option.some.inj hF).symm
  exact W.lret (v := (((((s_add st) + (s_fed st)) + (s_fal st)) - (s_rem st)) - (10000000000 * (Int32.toInt64 (s_esc st))))) hx hb hr (fun t ht hW => ⟨⟨(((((s_add st) + (s_fed st)) + (s_fal st)) - (s_rem st)) - (10000000000 * (Int32.toInt64 (s_esc st)))), (), rfl, ho, z_end ht hP⟩, hS.F ht⟩) hS.2.2 dX8_sumByAccounts_29
abbrev w_X8_copyFrom : List Cond := .code yX8_copyFrom cX8_copyFrom 2 none :: wU
abbrev r_X8_copyFrom : Room := { frames := 1, cells := 0, slots := 0, locals := 60 }
abbrev q_X8_copyFrom (g : GG) (a0 a1 a2 a3 a4 b0 b1 b2 b3 b4 : Nat) (st : SS) (su : SS) (o : SS) (A : Nat → Prop) := va_Qv (fun (u : SS) => o = u) (fun u t => va_P (gD g) zCl (wState2 g a0 a1 a2 a3 a4 b0 b1 b2 b3 b4 u su) t.heap) A
set_option maxHeartbeats 4000000 in
set_option maxRecDepth 100000 in
theorem c_X8_copyFrom (l : Launch) (g : GG) (a0 a1 a2 a3 a4 b0 b1 b2 b3 b4 : Nat) (st : SS) (su : SS) (sz : Nat) (o : SS) (hF : F_X8_copyFrom st su = some o) : Met l yX8_copyFrom w_X8_copyFrom r_X8_copyFrom (va_Pc [.ref a0, .ref b0] (zP g (wState2 g a0 a1 a2 a3 a4 b0 b1 b2 b3 b4 st su) sz)) (q_X8_copyFrom g a0 a1 a2 a3 a4 b0 b1 b2 b3 b4 st su o (va_A (wState2 g a0 a1 a2 a3 a4 b0 b1 b2 b3 b4 st su) sz)) 0 0 (va_A (wState2 g a0 a1 a2 a3 a4 b0 b1 b2 b3 b4 st su) sz) := by
  refine Met.ofW (cc := cX8_copyFrom) (maxL := 2) (ret := none) (by decide) rfl ?_
  intro p e s m args below meth c s₁ B hml hv
  obtain ⟨rfl, rfl, hP, hK, hD0, hB⟩ := hv
  have hx := B.exec
  have hb := B.bytes
  have hr := B.returns
  have hts : ∀ w ∈ wU, w.before _ s = true := fun w h => atoms_spec (ws := w_X8_copyFrom) B.pre w (List.mem_cons_of_mem _ h)
  have hown : s.vm.findClass RX8 = some m.cls := findClass_of_methodNamed B.named
  have hlocks := B.notSynchronized
  have hD := hD0.self (sz := s.heap.size)
  generalize hAe : va_A (wState2 g a0 a1 a2 a3 a4 b0 b1 b2 b3 b4 st su) s.heap.size = A at hD hB ⊢
  have hA : ∀ q : Nat, s.heap.size ≤ q → A q := fun q h => by rw [← hAe]; exact Or.inr h
  have hS : va_S A s.heap s.heap [] := va_S.rf
  have hl := lv_entry ([.ref a0, .ref b0]) (n := 2) (Nat.le_of_ble_eq_true rfl)
  rw [lg_entry_eq]
  generalize (lg_sl ([.ref a0, .ref b0]) ++ List.replicate (2 - (lg_sl ([.ref a0, .ref b0])).length) Slot.unset).toArray = ls at hl ⊢
  have hl : lv_has ls 2 [(0, .ref a0), (1, .ref b0)] := hl
  unfold F_X8_copyFrom at hF
  refine lv_aload_n hx hb dX8_copyFrom_0 rfl (lv_at hl 1 rfl) ?_
  refine va_get (D := gD g) (ci := 5) (v := .ref b1) (C := RX8) (T := TX8) (N := 11) hx hb hts inX8 hown hK hP 5 rfl rfl 0 (by decide) (hts _ mU_112) (fun _ h9 => h9) rfl dX8_copyFrom_1 ?_
  refine lv_iconst (v := 0) hx hb dX8_copyFrom_4 (by decide) ?_
  refine lv_aload_n hx hb dX8_copyFrom_5 rfl (lv_at hl 0 rfl) ?_
  refine va_get (D := gD g) (ci := 5) (v := .ref a1) (C := RX8) (T := TX8) (N := 11) hx hb hts inX8 hown hK hP 0 rfl rfl 0 (by decide) (hts _ mU_112) (fun _ h9 => h9) rfl dX8_copyFrom_6 ?_
  refine lv_iconst (v := 0) hx hb dX8_copyFrom_9 (by decide) ?_
  refine lv_bipush (v := 6) hx hb dX8_copyFrom_10 (by decide) ?_
  refine va_copyi hx hb (hml.trans hl.1.symm) hown (hts _ mU_430) (hts _ mU_432) (hts _ mU_431) (hts _ mU_76) hK hP hD hS 6 1 1 1 rfl rfl rfl rfl rfl (by decide) (by decide) (by decide) (by decide) (by decide) (fun _ _ => rfl) (Nat.le_of_ble_eq_true rfl) (Nat.le_of_ble_eq_true rfl) dX8_copyFrom_12 (fun H locs hP hD hS => ?_)
  have hP : va_P (gD g) zCl (wState2 g a0 a1 a2 a3 a4 b0 b1 b2 b3 b4 ((va_cpy (s_ids su) (s_ids st) 0 0 6), (s_vals st), (s_scs st), (s_mds st), (s_cnt st), (s_nxt st), (s_esc st), (s_fal st), (s_add st), (s_fed st), (s_rem st)) su) H := hP
  have hD : va_D A (wState2 g a0 a1 a2 a3 a4 b0 b1 b2 b3 b4 ((va_cpy (s_ids su) (s_ids st) 0 0 6), (s_vals st), (s_scs st), (s_mds st), (s_cnt st), (s_nxt st), (s_esc st), (s_fal st), (s_add st), (s_fed st), (s_rem st)) su) := hD
  refine lv_aload_n hx hb dX8_copyFrom_15 rfl (lv_at hl 1 rfl) ?_
  refine va_get (D := gD g) (ci := 5) (v := .ref b2) (C := RX8) (T := TX8) (N := 11) hx hb hts inX8 hown hK hP 5 rfl rfl 1 (by decide) (hts _ mU_114) (fun _ h9 => h9) rfl dX8_copyFrom_16 ?_
  refine lv_iconst (v := 0) hx hb dX8_copyFrom_19 (by decide) ?_
  refine lv_aload_n hx hb dX8_copyFrom_20 rfl (lv_at hl 0 rfl) ?_
  refine va_get (D := gD g) (ci := 5) (v := .ref a2) (C := RX8) (T := TX8) (N := 11) hx hb hts inX8 hown hK hP 0 rfl rfl 1 (by decide) (hts _ mU_114) (fun _ h9 => h9) rfl dX8_copyFrom_21 ?_
  refine lv_iconst (v := 0) hx hb dX8_copyFrom_24 (by decide) ?_
  refine lv_bipush (v := 6) hx hb dX8_copyFrom_25 (by decide) ?_
  refine va_copyl hx hb (hml.trans hl.1.symm) hown (hts _ mU_430) (hts _ mU_432) (hts _ mU_431) (hts _ mU_76) hK hP hD hS 7 2 2 2 rfl rfl rfl rfl rfl (by decide) (by decide) (by decide) (by decide) (by decide) (fun _ _ => rfl) (Nat.le_of_ble_eq_true rfl) (Nat.le_of_ble_eq_true rfl) dX8_copyFrom_27 (fun H locs hP hD hS => ?_)
  have hP : va_P (gD g) zCl (wState2 g a0 a1 a2 a3 a4 b0 b1 b2 b3 b4 ((va_cpy (s_ids su) (s_ids st) 0 0 6), (va_cpy (s_vals su) (s_vals st) 0 0 6), (s_scs st), (s_mds st), (s_cnt st), (s_nxt st), (s_esc st), (s_fal st), (s_add st), (s_fed st), (s_rem st)) su) H := hP
  have hD : va_D A (wState2 g a0 a1 a2 a3 a4 b0 b1 b2 b3 b4 ((va_cpy (s_ids su) (s_ids st) 0 0 6), (va_cpy (s_vals su) (s_vals st) 0 0 6), (s_scs st), (s_mds st), (s_cnt st), (s_nxt st), (s_esc st), (s_fal st), (s_add st), (s_fed st), (s_rem st)) su) := hD
  refine lv_aload_n hx hb dX8_copyFrom_30 rfl (lv_at hl 1 rfl) ?_
  refine va_get (D := gD g) (ci := 5) (v := .ref b3) (C := RX8) (T := TX8) (N := 11) hx hb hts inX8 hown hK hP 5 rfl rfl 2 (by decide) (hts _ mU_117) (fun _ h9 => h9) rfl dX8_copyFrom_31 ?_
  refine lv_iconst (v := 0) hx hb dX8_copyFrom_34 (by decide) ?_
  refine lv_aload_n hx hb dX8_copyFrom_35 rfl (lv_at hl 0 rfl) ?_
  refine va_get (D := gD g) (ci := 5) (v := .ref a3) (C := RX8) (T := TX8) (N := 11) hx hb hts inX8 hown hK hP 0 rfl rfl 2 (by decide) (hts _ mU_117) (fun _ h9 => h9) rfl dX8_copyFrom_36 ?_
  refine lv_iconst (v := 0) hx hb dX8_copyFrom_39 (by decide) ?_
  refine lv_bipush (v := 6) hx hb dX8_copyFrom_40 (by decide) ?_
  refine va_copyi hx hb (hml.trans hl.1.symm) hown (hts _ mU_430) (hts _ mU_432) (hts _ mU_431) (hts _ mU_76) hK hP hD hS 8 3 1 1 rfl rfl rfl rfl rfl (by decide) (by decide) (by decide) (by decide) (by decide) (fun _ _ => rfl) (Nat.le_of_ble_eq_true rfl) (Nat.le_of_ble_eq_true rfl) dX8_copyFrom_42 (fun H locs hP hD hS => ?_)
  have hP : va_P (gD g) zCl (wState2 g a0 a1 a2 a3 a4 b0 b1 b2 b3 b4 ((va_cpy (s_ids su) (s_ids st) 0 0 6), (va_cpy (s_vals su) (s_vals st) 0 0 6), (va_cpy (s_scs su) (s_scs st) 0 0 6), (s_mds st), (s_cnt st), (s_nxt st), (s_esc st), (s_fal st), (s_add st), (s_fed st), (s_rem st)) su) H := hP
  have hD : va_D A (wState2 g a0 a1 a2 a3 a4 b0 b1 b2 b3 b4 ((va_cpy (s_ids su) (s_ids st) 0 0 6), (va_cpy (s_vals su) (s_vals st) 0 0 6), (va_cpy (s_scs su) (s_scs st) 0 0 6), (s_mds st), (s_cnt st), (s_nxt st), (s_esc st), (s_fal st), (s_add st), (s_fed st), (s_rem st)) su) := hD
  refine lv_aload_n hx hb dX8_copyFrom_45 rfl (lv_at hl 1 rfl) ?_
  refine va_get (D := gD g) (ci := 5) (v := .ref b4) (C := RX8) (T := TX8) (N := 11) hx hb hts inX8 hown hK hP 5 rfl rfl 3 (by decide) (hts _ mU_119) (fun _ h9 => h9) rfl dX8_copyFrom_46 ?_
  refine lv_iconst (v := 0) hx hb dX8_copyFrom_49 (by decide) ?_
  refine lv_aload_n hx hb dX8_copyFrom_50 rfl (lv_at hl 0 rfl) ?_
  refine va_get (D := gD g) (ci := 5) (v := .ref a4) (C := RX8) (T := TX8) (N := 11) hx hb hts inX8 hown hK hP 0 rfl rfl 3 (by decide) (hts _ mU_119) (fun _ h9 => h9) rfl dX8_copyFrom_51 ?_
  refine lv_iconst (v := 0) hx hb dX8_copyFrom_54 (by decide) ?_
  refine lv_bipush (v := 6) hx hb dX8_copyFrom_55 (by decide) ?_
  obtain ⟨zg1, hF⟩ := z_grd hF
  refine va_copyi hx hb (hml.trans hl.1.symm) hown (hts _ mU_430) (hts _ mU_432) (hts _ mU_431) (hts _ mU_76) hK hP hD hS 9 4 0 0 rfl rfl rfl rfl rfl (by decide) (by decide) (by decide) (by decide) (by decide) (z_fit6 (Classical.not_not.mp zg1)) (Nat.le_of_ble_eq_true rfl) (Nat.le_of_ble_eq_true rfl) dX8_copyFrom_57 (fun H locs hP hD hS => ?_)
  have hP : va_P (gD g) zCl (wState2 g a0 a1 a2 a3 a4 b0 b1 b2 b3 b4 ((va_cpy (s_ids su) (s_ids st) 0 0 6), (va_cpy (s_vals su) (s_vals st) 0 0 6), (va_cpy (s_scs su) (s_scs st) 0 0 6), (va_cpy (s_mds su) (s_mds st) 0 0 6), (s_cnt st), (s_nxt st), (s_esc st), (s_fal st), (s_add st), (s_fed st), (s_rem st)) su) H := hP
  have hD : va_D A (wState2 g a0 a1 a2 a3 a4 b0 b1 b2 b3 b4 ((va_cpy (s_ids su) (s_ids st) 0 0 6), (va_cpy (s_vals su) (s_vals st) 0 0 6), (va_cpy (s_scs su) (s_scs st) 0 0 6), (va_cpy (s_mds su) (s_mds st) 0 0 6), (s_cnt st), (s_nxt st), (s_esc st), (s_fal st), (s_add st), (s_fed st), (s_rem st)) su) := hD
  refine lv_aload_n hx hb dX8_copyFrom_60 rfl (lv_at hl 0 rfl) ?_
  refine lv_aload_n hx hb dX8_copyFrom_61 rfl (lv_at hl 1 rfl) ?_
  refine va_get (D := gD g) (ci := 5) (v := .int (s_cnt su)) (C := RX8) (T := TX8) (N := 11) hx hb hts inX8 hown hK hP 5 rfl rfl 4 (by decide) (hts _ mU_121) (fun _ h9 => h9) rfl dX8_copyFrom_62 ?_
  refine va_put (D := gD g) (ci := 5) (v := .int (s_cnt su)) (ty := .int) (C := RX8) (T := TX8) (N := 11) hx hb hts inX8 tyX8 tyX8_ok nmX8 hown hK hP hD hS 0 rfl rfl 4 (by decide) (hts _ mU_121) (fun _ h9 => h9) rfl (by decide +kernel) rfl rfl (Nat.le_of_ble_eq_true rfl) dX8_copyFrom_65 (fun H locs hP hD hS => ?_)
  have hP : va_P (gD g) zCl (wState2 g a0 a1 a2 a3 a4 b0 b1 b2 b3 b4 ((va_cpy (s_ids su) (s_ids st) 0 0 6), (va_cpy (s_vals su) (s_vals st) 0 0 6), (va_cpy (s_scs su) (s_scs st) 0 0 6), (va_cpy (s_mds su) (s_mds st) 0 0 6), (s_cnt su), (s_nxt st), (s_esc st), (s_fal st), (s_add st), (s_fed st), (s_rem st)) su) H := hP
  have hD : va_D A (wState2 g a0 a1 a2 a3 a4 b0 b1 b2 b3 b4 ((va_cpy (s_ids su) (s_ids st) 0 0 6), (va_cpy (s_vals su) (s_vals st) 0 0 6), (va_cpy (s_scs su) (s_scs st) 0 0 6), (va_cpy (s_mds su) (s_mds st) 0 0 6), (s_cnt su), (s_nxt st), (s_esc st), (s_fal st), (s_add st), (s_fed st), (s_rem st)) su) := hD
  refine lv_aload_n hx hb dX8_copyFrom_68 rfl (lv_at hl 0 rfl) ?_
  refine lv_aload_n hx hb dX8_copyFrom_69 rfl (lv_at hl 1 rfl) ?_
  refine va_get (D := gD g) (ci := 5) (v := .int (s_nxt su)) (C := RX8) (T := TX8) (N := 11) hx hb hts inX8 hown hK hP 5 rfl rfl 5 (by decide) (hts _ mU_124) (fun _ h9 => h9) rfl dX8_copyFrom_70 ?_
  refine va_put (D := gD g) (ci := 5) (v := .int (s_nxt su)) (ty := .int) (C := RX8) (T := TX8) (N := 11) hx hb hts inX8 tyX8 tyX8_ok nmX8 hown hK hP hD hS 0 rfl rfl 5 (by decide) (hts _ mU_124) (fun _ h9 => h9) rfl (by decide +kernel) rfl rfl (Nat.le_of_ble_eq_true rfl) dX8_copyFrom_73 (fun H locs hP hD hS => ?_)
  have hP : va_P (gD g) zCl (wState2 g a0 a1 a2 a3 a4 b0 b1 b2 b3 b4 ((va_cpy (s_ids su) (s_ids st) 0 0 6), (va_cpy (s_vals su) (s_vals st) 0 0 6), (va_cpy (s_scs su) (s_scs st) 0 0 6), (va_cpy (s_mds su) (s_mds st) 0 0 6), (s_cnt su), (s_nxt su), (s_esc st), (s_fal st), (s_add st), (s_fed st), (s_rem st)) su) H := hP
  have hD : va_D A (wState2 g a0 a1 a2 a3 a4 b0 b1 b2 b3 b4 ((va_cpy (s_ids su) (s_ids st) 0 0 6), (va_cpy (s_vals su) (s_vals st) 0 0 6), (va_cpy (s_scs su) (s_scs st) 0 0 6), (va_cpy (s_mds su) (s_mds st) 0 0 6), (s_cnt su), (s_nxt su), (s_esc st), (s_fal st), (s_add st), (s_fed st), (s_rem st)) su) := hD
  refine lv_aload_n hx hb dX8_copyFrom_76 rfl (lv_at hl 0 rfl) ?_
  refine lv_aload_n hx hb dX8_copyFrom_77 rfl (lv_at hl 1 rfl) ?_
  refine va_get (D := gD g) (ci := 5) (v := .int (s_esc su)) (C := RX8) (T := TX8) (N := 11) hx hb hts inX8 hown hK hP 5 rfl rfl 6 (by decide) (hts _ mU_125) (fun _ h9 => h9) rfl dX8_copyFrom_78 ?_
  refine va_put (D := gD g) (ci := 5) (v := .int (s_esc su)) (ty := .int) (C := RX8) (T := TX8) (N := 11) hx hb hts inX8 tyX8 tyX8_ok nmX8 hown hK hP hD hS 0 rfl rfl 6 (by decide) (hts _ mU_125) (fun _ h9 => h9) rfl (by decide +kernel) rfl rfl (Nat.le_of_ble_eq_true rfl) dX8_copyFrom_81 (fun H locs hP hD hS => ?_)
  have hP : va_P (gD g) zCl (wState2 g a0 a1 a2 a3 a4 b0 b1 b2 b3 b4 ((va_cpy (s_ids su) (s_ids st) 0 0 6), (va_cpy (s_vals su) (s_vals st) 0 0 6), (va_cpy (s_scs su) (s_scs st) 0 0 6), (va_cpy (s_mds su) (s_mds st) 0 0 6), (s_cnt su), (s_nxt su), (s_esc su), (s_fal st), (s_add st), (s_fed st), (s_rem st)) su) H := hP
  have hD : va_D A (wState2 g a0 a1 a2 a3 a4 b0 b1 b2 b3 b4 ((va_cpy (s_ids su) (s_ids st) 0 0 6), (va_cpy (s_vals su) (s_vals st) 0 0 6), (va_cpy (s_scs su) (s_scs st) 0 0 6), (va_cpy (s_mds su) (s_mds st) 0 0 6), (s_cnt su), (s_nxt su), (s_esc su), (s_fal st), (s_add st), (s_fed st), (s_rem st)) su) := hD
  refine lv_aload_n hx hb dX8_copyFrom_84 rfl (lv_at hl 0 rfl) ?_
  refine lv_aload_n hx hb dX8_copyFrom_85 rfl (lv_at hl 1 rfl) ?_
  refine va_get (D := gD g) (ci := 5) (v := .long (s_fal su)) (C := RX8) (T := TX8) (N := 11) hx hb hts inX8 hown hK hP 5 rfl rfl 7 (by decide) (hts _ mU_127) (fun _ h9 => h9) rfl dX8_copyFrom_86 ?_
  refine va_put (D := gD g) (ci := 5) (v := .long (s_fal su)) (ty := .long) (C := RX8) (T := TX8) (N := 11) hx hb hts inX8 tyX8 tyX8_ok nmX8 hown hK hP hD hS 0 rfl rfl 7 (by decide) (hts _ mU_127) (fun _ h9 => h9) rfl (by decide +kernel) rfl rfl (Nat.le_of_ble_eq_true rfl) dX8_copyFrom_89 (fun H locs hP hD hS => ?_)
  have hP : va_P (gD g) zCl (wState2 g a0 a1 a2 a3 a4 b0 b1 b2 b3 b4 ((va_cpy (s_ids su) (s_ids st) 0 0 6), (va_cpy (s_vals su) (s_vals st) 0 0 6), (va_cpy (s_scs su) (s_scs st) 0 0 6), (va_cpy (s_mds su) (s_mds st) 0 0 6), (s_cnt su), (s_nxt su), (s_esc su), (s_fal su), (s_add st), (s_fed st), (s_rem st)) su) H := hP
  have hD : va_D A (wState2 g a0 a1 a2 a3 a4 b0 b1 b2 b3 b4 ((va_cpy (s_ids su) (s_ids st) 0 0 6), (va_cpy (s_vals su) (s_vals st) 0 0 6), (va_cpy (s_scs su) (s_scs st) 0 0 6), (va_cpy (s_mds su) (s_mds st) 0 0 6), (s_cnt su), (s_nxt su), (s_esc su), (s_fal su), (s_add st), (s_fed st), (s_rem st)) su) := hD
  refine lv_aload_n hx hb dX8_copyFrom_92 rfl (lv_at hl 0 rfl) ?_
  refine lv_aload_n hx hb dX8_copyFrom_93 rfl (lv_at hl 1 rfl) ?_
  refine va_get (D := gD g) (ci := 5) (v := .long (s_add su)) (C := RX8) (T := TX8) (N := 11) hx hb hts inX8 hown hK hP 5 rfl rfl 8 (by decide) (hts _ mU_129) (fun _ h9 => h9) rfl dX8_copyFrom_94 ?_
  refine va_put (D := gD g) (ci := 5) (v := .long (s_add su)) (ty := .long) (C := RX8) (T := TX8) (N := 11) hx hb hts inX8 tyX8 tyX8_ok nmX8 hown hK hP hD hS 0 rfl rfl 8 (by decide) (hts _ mU_129) (fun _ h9 => h9) rfl (by decide +kernel) rfl rfl (Nat.le_of_ble_eq_true rfl) dX8_copyFrom_97 (fun H locs hP hD hS => ?_)
  have hP : va_P (gD g) zCl (wState2 g a0 a1 a2 a3 a4 b0 b1 b2 b3 b4 ((va_cpy (s_ids su) (s_ids st) 0 0 6), (va_cpy (s_vals su) (s_vals st) 0 0 6), (va_cpy (s_scs su) (s_scs st) 0 0 6), (va_cpy (s_mds su) (s_mds st) 0 0 6), (s_cnt su), (s_nxt su), (s_esc su), (s_fal su), (s_add su), (s_fed st), (s_rem st)) su) H := hP
  have hD : va_D A (wState2 g a0 a1 a2 a3 a4 b0 b1 b2 b3 b4 ((va_cpy (s_ids su) (s_ids st) 0 0 6), (va_cpy (s_vals su) (s_vals st) 0 0 6), (va_cpy (s_scs su) (s_scs st) 0 0 6), (va_cpy (s_mds su) (s_mds st) 0 0 6), (s_cnt su), (s_nxt su), (s_esc su), (s_fal su), (s_add su), (s_fed st), (s_rem st)) su) := hD
  refine lv_aload_n hx hb dX8_copyFrom_100 rfl (lv_at hl 0 rfl) ?_
  refine lv_aload_n hx hb dX8_copyFrom_101 rfl (lv_at hl 1 rfl) ?_
  refine va_get (D := gD g) (ci := 5) (v := .long (s_fed su)) (C := RX8) (T := TX8) (N := 11) hx hb hts inX8 hown hK hP 5 rfl rfl 9 (by decide) (hts _ mU_130) (fun _ h9 => h9) rfl dX8_copyFrom_102 ?_
  refine va_put (D := gD g) (ci := 5) (v := .long (s_fed su)) (ty := .long) (C := RX8) (T := TX8) (N := 11) hx hb hts inX8 tyX8 tyX8_ok nmX8 hown hK hP hD hS 0 rfl rfl 9 (by decide) (hts _ mU_130) (fun _ h9 => h9) rfl (by decide +kernel) rfl rfl (Nat.le_of_ble_eq_true rfl) dX8_copyFrom_105 (fun H locs hP hD hS => ?_)
  have hP : va_P (gD g) zCl (wState2 g a0 a1 a2 a3 a4 b0 b1 b2 b3 b4 ((va_cpy (s_ids su) (s_ids st) 0 0 6), (va_cpy (s_vals su) (s_vals st) 0 0 6), (va_cpy (s_scs su) (s_scs st) 0 0 6), (va_cpy (s_mds su) (s_mds st) 0 0 6), (s_cnt su), (s_nxt su), (s_esc su), (s_fal su), (s_add su), (s_fed su), (s_rem st)) su) H := hP
  have hD : va_D A (wState2 g a0 a1 a2 a3 a4 b0 b1 b2 b3 b4 ((va_cpy (s_ids su) (s_ids st) 0 0 6), (va_cpy (s_vals su) (s_vals st) 0 0 6), (va_cpy (s_scs su) (s_scs st) 0 0 6), (va_cpy (s_mds su) (s_mds st) 0 0 6), (s_cnt su), (s_nxt su), (s_esc su), (s_fal su), (s_add su), (s_fed su), (s_rem st)) su) := hD
  refine lv_aload_n hx hb dX8_copyFrom_108 rfl (lv_at hl 0 rfl) ?_
  refine lv_aload_n hx hb dX8_copyFrom_109 rfl (lv_at hl 1 rfl) ?_
  refine va_get (D := gD g) (ci := 5) (v := .long (s_rem su)) (C := RX8) (T := TX8) (N := 11) hx hb hts inX8 hown hK hP 5 rfl rfl 10 (by decide) (hts _ mU_132) (fun _ h9 => h9) rfl dX8_copyFrom_110 ?_
  refine va_put (D := gD g) (ci := 5) (v := .long (s_rem su)) (ty := .long) (C := RX8) (T := TX8) (N := 11) hx hb hts inX8 tyX8 tyX8_ok nmX8 hown hK hP hD hS 0 rfl rfl 10 (by decide) (hts _ mU_132) (fun _ h9 => h9) rfl (by decide +kernel) rfl rfl (Nat.le_of_ble_eq_true rfl) dX8_copyFrom_113 (fun H locs hP hD hS => ?_)
  have hP : va_P (gD g) zCl (wState2 g a0 a1 a2 a3 a4 b0 b1 b2 b3 b4 ((va_cpy (s_ids su) (s_ids st) 0 0 6), (va_cpy (s_vals su) (s_vals st) 0 0 6), (va_cpy (s_scs su) (s_scs st) 0 0 6), (va_cpy (s_mds su) (s_mds st) 0 0 6), (s_cnt su), (s_nxt su), (s_esc su), (s_fal su), (s_add su), (s_fed su), (s_rem su)) su) H := hP
  have hD : va_D A (wState2 g a0 a1 a2 a3 a4 b0 b1 b2 b3 b4 ((va_cpy (s_ids su) (s_ids st) 0 0 6), (va_cpy (s_vals su) (s_vals st) 0 0 6), (va_cpy (s_scs su) (s_scs st) 0 0 6), (va_cpy (s_mds su) (s_mds st) 0 0 6), (s_cnt su), (s_nxt su), (s_esc su), (s_fal su), (s_add su), (s_fed su), (s_rem su)) su) := hD
  have ho := (Option.some.inj hF).symm
  exact W.vret hx hb hr (fun t ht hW => ⟨⟨((va_cpy (s_ids su) (s_ids st) 0 0 6), (va_cpy (s_vals su) (s_vals st) 0 0 6), (va_cpy (s_scs su) (s_scs st) 0 0 6), (va_cpy (s_mds su) (s_mds st) 0 0 6), (s_cnt su), (s_nxt su), (s_esc su), (s_fal su), (s_add su), (s_fed su), (s_rem su)), rfl, ho, z_end ht hP⟩, hS.F ht⟩) hS.2.2 dX8_copyFrom_116
