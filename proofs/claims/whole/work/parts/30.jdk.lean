abbrev w_J6_bitCount_0f7a4 : List Cond := .code yJ6_bitCount_0f7a4 cJ6_bitCount_0f7a4 1 (some .int) :: wU
abbrev r_J6_bitCount_0f7a4 : Room := { frames := 0, cells := 0, slots := 0, locals := 0 }
abbrev q_J6_bitCount_0f7a4 (g : GG) (o : Int32) (A : Nat → Prop) := va_Qi (fun (r : Int32) (u : Unit) => o = r) (fun u t => va_P (gD g) zCl [] t.heap) A
set_option maxHeartbeats 4000000 in
set_option maxRecDepth 100000 in
theorem c_J6_bitCount_0f7a4 (l : Launch) (g : GG) (sz : Nat) (p0 : Int32) (o : Int32) (hF : F_J6_bitCount_0f7a4 p0 = some o) : Met l yJ6_bitCount_0f7a4 w_J6_bitCount_0f7a4 r_J6_bitCount_0f7a4 (va_Pc [.int p0] (zP g [] sz)) (q_J6_bitCount_0f7a4 g o (va_A [] sz)) 0 0 (va_A [] sz) := by
  refine Met.ofW (cc := cJ6_bitCount_0f7a4) (maxL := 1) (ret := (some .int)) (by decide) rfl ?_
  intro p e s m args below meth c s₁ B hml hv
  obtain ⟨rfl, rfl, hP, hK, hD0, hB⟩ := hv
  have hx := B.exec
  have hb := B.bytes
  have hr := B.returns
  have hts : ∀ w ∈ wU, w.before _ s = true := fun w h => atoms_spec (ws := w_J6_bitCount_0f7a4) B.pre w (List.mem_cons_of_mem _ h)
  have hown : s.vm.findClass RJ6 = some m.cls := findClass_of_methodNamed B.named
  have hlocks := B.notSynchronized
  have hD := hD0.self (sz := s.heap.size)
  generalize hAe : va_A [] s.heap.size = A at hD hB ⊢
  have hA : ∀ q : Nat, s.heap.size ≤ q → A q := fun q h => by rw [← hAe]; exact Or.inr h
  have hS : va_S A s.heap s.heap [] := va_S.rf
  have hl := lv_entry ([.int p0]) (n := 1) (Nat.le_of_ble_eq_true rfl)
  rw [lg_entry_eq]
  generalize (lg_sl ([.int p0]) ++ List.replicate (1 - (lg_sl ([.int p0])).length) Slot.unset).toArray = ls at hl ⊢
  have hl : lv_has ls 1 [(0, .int p0)] := hl
  unfold F_J6_bitCount_0f7a4 at hF
  refine lv_iload_n hx hb dJ6_bitCount_0f7a4_0 rfl (lv_at hl 0 rfl) ?_
  refine lv_iload_n hx hb dJ6_bitCount_0f7a4_1 rfl (lv_at hl 0 rfl) ?_
  refine lv_iconst (v := 1) hx hb dJ6_bitCount_0f7a4_2 (by decide) ?_
  refine lv_iushr hx hb dJ6_bitCount_0f7a4_3 rfl ?_
  refine lv_ldcw (v := 1431655765) hx hb hown (hts _ mU_413) dJ6_bitCount_0f7a4_4 ?_
  refine lv_iand hx hb dJ6_bitCount_0f7a4_7 ?_
  refine lv_isub hx hb dJ6_bitCount_0f7a4_8 ?_
  obtain ⟨zv1, ezv1, hF⟩ := z_let hF
  refine z_topi ezv1 ?_
  refine lv_istore_n (lv' := [(0, .int zv1)]) hx hb dJ6_bitCount_0f7a4_9 rfl hl (by decide) rfl (fun ls hl => ?_)
  refine lv_iload_n hx hb dJ6_bitCount_0f7a4_10 rfl (lv_at hl 0 rfl) ?_
  refine lv_ldcw (v := 858993459) hx hb hown (hts _ mU_414) dJ6_bitCount_0f7a4_11 ?_
  refine lv_iand hx hb dJ6_bitCount_0f7a4_14 ?_
  refine lv_iload_n hx hb dJ6_bitCount_0f7a4_15 rfl (lv_at hl 0 rfl) ?_
  refine lv_iconst (v := 2) hx hb dJ6_bitCount_0f7a4_16 (by decide) ?_
  refine lv_iushr hx hb dJ6_bitCount_0f7a4_17 rfl ?_
  refine lv_ldcw (v := 858993459) hx hb hown (hts _ mU_414) dJ6_bitCount_0f7a4_18 ?_
  refine lv_iand hx hb dJ6_bitCount_0f7a4_21 ?_
  refine lv_iadd hx hb dJ6_bitCount_0f7a4_22 ?_
  obtain ⟨zv2, ezv2, hF⟩ := z_let hF
  refine z_topi ezv2 ?_
  refine lv_istore_n (lv' := [(0, .int zv2)]) hx hb dJ6_bitCount_0f7a4_23 rfl hl (by decide) rfl (fun ls hl => ?_)
  refine lv_iload_n hx hb dJ6_bitCount_0f7a4_24 rfl (lv_at hl 0 rfl) ?_
  refine lv_iload_n hx hb dJ6_bitCount_0f7a4_25 rfl (lv_at hl 0 rfl) ?_
  refine lv_iconst (v := 4) hx hb dJ6_bitCount_0f7a4_26 (by decide) ?_
  refine lv_iushr hx hb dJ6_bitCount_0f7a4_27 rfl ?_
  refine lv_iadd hx hb dJ6_bitCount_0f7a4_28 ?_
  refine lv_ldcw (v := 252645135) hx hb hown (hts _ mU_415) dJ6_bitCount_0f7a4_29 ?_
  refine lv_iand hx hb dJ6_bitCount_0f7a4_32 ?_
  obtain ⟨zv3, ezv3, hF⟩ := z_let hF
  refine z_topi ezv3 ?_
  refine lv_istore_n (lv' := [(0, .int zv3)]) hx hb dJ6_bitCount_0f7a4_33 rfl hl (by decide) rfl (fun ls hl => ?_)
  refine lv_iload_n hx hb dJ6_bitCount_0f7a4_34 rfl (lv_at hl 0 rfl) ?_
  refine lv_iload_n hx hb dJ6_bitCount_0f7a4_35 rfl (lv_at hl 0 rfl) ?_
  refine lv_bipush (v := 8) hx hb dJ6_bitCount_0f7a4_36 (by decide) ?_
  refine lv_iushr hx hb dJ6_bitCount_0f7a4_38 rfl ?_
  refine lv_iadd hx hb dJ6_bitCount_0f7a4_39 ?_
  obtain ⟨zv4, ezv4, hF⟩ := z_let hF
  refine z_topi ezv4 ?_
  refine lv_istore_n (lv' := [(0, .int zv4)]) hx hb dJ6_bitCount_0f7a4_40 rfl hl (by decide) rfl (fun ls hl => ?_)
  refine lv_iload_n hx hb dJ6_bitCount_0f7a4_41 rfl (lv_at hl 0 rfl) ?_
  refine lv_iload_n hx hb dJ6_bitCount_0f7a4_42 rfl (lv_at hl 0 rfl) ?_
  refine lv_bipush (v := 16) hx hb dJ6_bitCount_0f7a4_43 (by decide) ?_
  refine lv_iushr hx hb dJ6_bitCount_0f7a4_45 rfl ?_
  refine lv_iadd hx hb dJ6_bitCount_0f7a4_46 ?_
  obtain ⟨zv5, ezv5, hF⟩ := z_let hF
  refine z_topi ezv5 ?_
  refine lv_istore_n (lv' := [(0, .int zv5)]) hx hb dJ6_bitCount_0f7a4_47 rfl hl (by decide) rfl (fun ls hl => ?_)
  refine lv_iload_n hx hb dJ6_bitCount_0f7a4_48 rfl (lv_at hl 0 rfl) ?_
  refine lv_bipush (v := 63) hx hb dJ6_bitCount_0f7a4_49 (by decide) ?_
  refine lv_iand hx hb dJ6_bitCount_0f7a4_51 ?_
  have ho := (Option.some.inj hF).symm
  exact W.iret (v := (zv5 &&& 63)) hx hb hr (fun t ht hW => ⟨⟨(zv5 &&& 63), (), rfl, ho, z_end ht hP⟩, hS.F ht⟩) hS.2.2 dJ6_bitCount_0f7a4_52
abbrev w_J7_fill_53178 : List Cond := .code yJ7_fill_53178 cJ7_fill_53178 4 none :: wU
abbrev r_J7_fill_53178 : Room := { frames := 0, cells := 0, slots := 0, locals := 0 }
abbrev q_J7_fill_53178 (g : GG) (d1 : Nat) (seen : Nat → Int32) (o : (Nat → Int32)) (A : Nat → Prop) := va_Qv (fun (u : (Nat → Int32)) => o = u) (fun u t => va_P (gD g) zCl (wArr g d1 u) t.heap) A
set_option maxHeartbeats 4000000 in
set_option maxRecDepth 100000 in
theorem c_J7_fill_53178 (l : Launch) (g : GG) (d1 : Nat) (seen : Nat → Int32) (sz : Nat) (p1 : Int32) (fu : Nat) (o : (Nat → Int32)) (hF : F_J7_fill_53178 fu seen p1 = some o) : Met l yJ7_fill_53178 w_J7_fill_53178 r_J7_fill_53178 (va_Pc [.ref d1, .int p1] (zP g (wArr g d1 seen) sz)) (q_J7_fill_53178 g d1 seen o (va_A (wArr g d1 seen) sz)) 0 0 (va_A (wArr g d1 seen) sz) := by
  refine Met.ofW (cc := cJ7_fill_53178) (maxL := 4) (ret := none) (by decide) rfl ?_
  intro p e s m args below meth c s₁ B hml hv
  obtain ⟨rfl, rfl, hP, hK, hD0, hB⟩ := hv
  have hx := B.exec
  have hb := B.bytes
  have hr := B.returns
  have hts : ∀ w ∈ wU, w.before _ s = true := fun w h => atoms_spec (ws := w_J7_fill_53178) B.pre w (List.mem_cons_of_mem _ h)
  have hown : s.vm.findClass RJ7 = some m.cls := findClass_of_methodNamed B.named
  have hlocks := B.notSynchronized
  have hD := hD0.self (sz := s.heap.size)
  generalize hAe : va_A (wArr g d1 seen) s.heap.size = A at hD hB ⊢
  have hA : ∀ q : Nat, s.heap.size ≤ q → A q := fun q h => by rw [← hAe]; exact Or.inr h
  have hS : va_S A s.heap s.heap [] := va_S.rf
  have hl := lv_entry ([.ref d1, .int p1]) (n := 4) (Nat.le_of_ble_eq_true rfl)
  rw [lg_entry_eq]
  generalize (lg_sl ([.ref d1, .int p1]) ++ List.replicate (4 - (lg_sl ([.ref d1, .int p1])).length) Slot.unset).toArray = ls at hl ⊢
  have hl : lv_has ls 4 [(0, .ref d1), (1, .int p1)] := hl
  unfold F_J7_fill_53178 at hF
  have K5 : ∀ (n5 : Nat) (seen : Nat → Int32) (x2 : Int32) (x3 : Int32), F_J7_fill_53178_5 fu n5 seen p1 x2 x3 = some o → ∀ (H : Heap) (locs : List Loc) (ls : Array Slot), lv_has ls 4 [(0, .ref d1), (1, .int p1), (2, .int x2), (3, .int x3)] → va_P (gD g) zCl (wArr g d1 seen) H → va_D A (wArr g d1 seen) → va_S A s.heap H locs → W p l e (headSpec w_J7_fill_53178 r_J7_fill_53178).room s m ([.ref d1, .int p1] : List Value).toArray below meth c H locs 0 0 (MQ below (q_J7_fill_53178 g d1 seen o A) ([.ref d1, .int p1] : List Value).toArray s 0 0 A) (F0 m 5 ls []) := by
    intro n5
    induction n5 with
    | zero =>
      intro seen x2 x3 hF
      exact absurd hF (by simp [F_J7_fill_53178_5])
    | succ n5 ih5 =>
      intro seen x2 x3 hF H locs ls hl hP hD hS
      unfold F_J7_fill_53178_5 at hF
      refine lv_iload_n hx hb dJ7_fill_53178_5 rfl (lv_at hl 2 rfl) ?_
      refine lv_iload_n hx hb dJ7_fill_53178_6 rfl (lv_at hl 3 rfl) ?_
      refine lv_icmp_ge (tgt := 20) hx hb dJ7_fill_53178_7 (by decide) (fun zc1 => ?_) (fun zc1 => ?_)
      · have hF := z_pos hF zc1
        have ho := (Option.some.inj hF).symm
        exact W.vret hx hb hr (fun t ht hW => ⟨⟨seen, rfl, ho, z_end ht hP⟩, hS.F ht⟩) hS.2.2 dJ7_fill_53178_20
      · have hF := z_neg hF zc1
        refine lv_aload_n hx hb dJ7_fill_53178_10 rfl (lv_at hl 0 rfl) ?_
        refine lv_iload_n hx hb dJ7_fill_53178_11 rfl (lv_at hl 2 rfl) ?_
        refine lv_iload_n hx hb dJ7_fill_53178_12 rfl (lv_at hl 1 rfl) ?_
        obtain ⟨zg2, hF⟩ := z_grd hF
        refine va_iast hx hb hK hP hD hS 0 1 rfl rfl zg2 dJ7_fill_53178_13 (fun H locs hP hD hS => ?_)
        have hP : va_P (gD g) zCl (wArr g d1 (upd seen (Int32.toNatClampNeg x2) p1)) H := hP
        have hD : va_D A (wArr g d1 (upd seen (Int32.toNatClampNeg x2) p1)) := hD
        obtain ⟨zv3, ezv3, hF⟩ := z_let hF
        refine lv_iinc (v := zv3) (lv' := [(2, .int zv3), (0, .ref d1), (1, .int p1), (3, .int x3)]) hx hb dJ7_fill_53178_14 hl (k := 2) rfl (by rw [ezv3]; rfl) (by decide) rfl (fun ls hl => ?_)
        refine lv_goto (tgt := 5) hx hb dJ7_fill_53178_17 (by decide) ?_
        exact ih5 (upd seen (Int32.toNatClampNeg x2) p1) zv3 x3 hF _ _ _ (lv_sub hl [1, 2, 0, 3] rfl) hP hD hS
  refine lv_iconst (v := 0) hx hb dJ7_fill_53178_0 (by decide) ?_
  refine lv_istore_n (lv' := [(2, .int 0), (0, .ref d1), (1, .int p1)]) hx hb dJ7_fill_53178_1 rfl hl (by decide) rfl (fun ls hl => ?_)
  refine lv_aload_n hx hb dJ7_fill_53178_2 rfl (lv_at hl 1 rfl) ?_
  refine va_alen hx hb hK hP 0 1 rfl rfl (v := 1000) rfl dJ7_fill_53178_3 ?_
  refine lv_istore_n (lv' := [(3, .int 1000), (2, .int 0), (0, .ref d1), (1, .int p1)]) hx hb dJ7_fill_53178_4 rfl hl (by decide) rfl (fun ls hl => ?_)
  exact K5 fu seen 0 1000 hF _ _ _ (lv_sub hl [2, 3, 1, 0] rfl) hP hD hS
abbrev w_J0_coder_7d493 : List Cond := .code yJ0_coder_7d493 cJ0_coder_7d493 1 (some .byte) :: wU
abbrev r_J0_coder_7d493 : Room := { frames := 0, cells := 0, slots := 0, locals := 0 }
abbrev q_J0_coder_7d493 (g : GG) (o : Int32) (A : Nat → Prop) := va_Qi (fun (r : Int32) (u : Unit) => o = r) (fun u t => va_P (gD g) zCl [] t.heap) A
set_option maxHeartbeats 4000000 in
set_option maxRecDepth 100000 in
theorem c_J0_coder_7d493 (l : Launch) (g : GG) (sz : Nat) (k0 : Nat) (hk0 : k0 < 9) (o : Int32) (hF : F_J0_coder_7d493 k0 = some o) : Met l yJ0_coder_7d493 w_J0_coder_7d493 r_J0_coder_7d493 (va_Pc [.ref (gaK g k0)] (zP g [] sz)) (q_J0_coder_7d493 g o (va_A [] sz)) 0 0 (va_A [] sz) := by
  refine Met.ofW (cc := cJ0_coder_7d493) (maxL := 1) (ret := (some .byte)) (by decide) rfl ?_
  intro p e s m args below meth c s₁ B hml hv
  obtain ⟨rfl, rfl, hP, hK, hD0, hB⟩ := hv
  have hx := B.exec
  have hb := B.bytes
  have hr := B.returns
  have hts : ∀ w ∈ wU, w.before _ s = true := fun w h => atoms_spec (ws := w_J0_coder_7d493) B.pre w (List.mem_cons_of_mem _ h)
  have hown : s.vm.findClass RJ0 = some m.cls := findClass_of_methodNamed B.named
  have hlocks := B.notSynchronized
  have hD := hD0.self (sz := s.heap.size)
  generalize hAe : va_A [] s.heap.size = A at hD hB ⊢
  have hA : ∀ q : Nat, s.heap.size ≤ q → A q := fun q h => by rw [← hAe]; exact Or.inr h
  have hS : va_S A s.heap s.heap [] := va_S.rf
  have hl := lv_entry ([.ref (gaK g k0)]) (n := 1) (Nat.le_of_ble_eq_true rfl)
  rw [lg_entry_eq]
  generalize (lg_sl ([.ref (gaK g k0)]) ++ List.replicate (1 - (lg_sl ([.ref (gaK g k0)])).length) Slot.unset).toArray = ls at hl ⊢
  have hl : lv_has ls 1 [(0, .ref (gaK g k0))] := hl
  unfold F_J0_coder_7d493 at hF
  refine va_gets hx hb hB.2.2.1.2.1 hS hown (hts _ mU_548) (fun _ h9 => h9) dJ0_coder_7d493_0 ?_
  refine lv_if_eq (tgt := 13) hx hb dJ0_coder_7d493_3 (by decide) (fun zc => absurd zc (by decide)) (fun _ => ?_)
  refine lv_aload_n hx hb dJ0_coder_7d493_6 rfl (lv_at hl 0 rfl) ?_
  refine vk_getf (v := .int 0) hx hb (hB.2.2.1.1.1 k0 hk0).2.1 hS hown (hts _ mU_1728) (fun _ h9 => h9) dJ0_coder_7d493_7 ?_
  refine lv_goto (tgt := 14) hx hb dJ0_coder_7d493_10 (by decide) ?_
  have ho := (Option.some.inj hF).symm
  exact W.zret (v := 0) hx hb hr rfl (fun t ht hW => ⟨⟨0, (), rfl, ho, z_end ht hP⟩, hS.F ht⟩) hS.2.2 dJ0_coder_7d493_14
abbrev w_J0_isLatin1_aae02 : List Cond := .code yJ0_isLatin1_aae02 cJ0_isLatin1_aae02 1 (some .boolean) :: wU
abbrev r_J0_isLatin1_aae02 : Room := { frames := 0, cells := 0, slots := 0, locals := 0 }
abbrev q_J0_isLatin1_aae02 (g : GG) (o : Int32) (A : Nat → Prop) := va_Qi (fun (r : Int32) (u : Unit) => o = r) (fun u t => va_P (gD g) zCl [] t.heap) A
set_option maxHeartbeats 4000000 in
set_option maxRecDepth 100000 in
theorem c_J0_isLatin1_aae02 (l : Launch) (g : GG) (sz : Nat) (k0 : Nat) (hk0 : k0 < 9) (o : Int32) (hF : F_J0_isLatin1_aae02 k0 = some o) : Met l yJ0_isLatin1_aae02 w_J0_isLatin1_aae02 r_J0_isLatin1_aae02 (va_Pc [.ref (gaK g k0)] (zP g [] sz)) (q_J0_isLatin1_aae02 g o (va_A [] sz)) 0 0 (va_A [] sz) := by
  refine Met.ofW (cc := cJ0_isLatin1_aae02) (maxL := 1) (ret := (some .boolean)) (by decide) rfl ?_
  intro p e s m args below meth c s₁ B hml hv
  obtain ⟨rfl, rfl, hP, hK, hD0, hB⟩ := hv
  have hx := B.exec
  have hb := B.bytes
  have hr := B.returns
  have hts : ∀ w ∈ wU, w.before _ s = true := fun w h => atoms_spec (ws := w_J0_isLatin1_aae02) B.pre w (List.mem_cons_of_mem _ h)
  have hown : s.vm.findClass RJ0 = some m.cls := findClass_of_methodNamed B.named
  have hlocks := B.notSynchronized
  have hD := hD0.self (sz := s.heap.size)
  generalize hAe : va_A [] s.heap.size = A at hD hB ⊢
  have hA : ∀ q : Nat, s.heap.size ≤ q → A q := fun q h => by rw [← hAe]; exact Or.inr h
  have hS : va_S A s.heap s.heap [] := va_S.rf
  have hl := lv_entry ([.ref (gaK g k0)]) (n := 1) (Nat.le_of_ble_eq_true rfl)
  rw [lg_entry_eq]
  generalize (lg_sl ([.ref (gaK g k0)]) ++ List.replicate (1 - (lg_sl ([.ref (gaK g k0)])).length) Slot.unset).toArray = ls at hl ⊢
  have hl : lv_has ls 1 [(0, .ref (gaK g k0))] := hl
  unfold F_J0_isLatin1_aae02 at hF
  refine va_gets hx hb hB.2.2.1.2.1 hS hown (hts _ mU_548) (fun _ h9 => h9) dJ0_isLatin1_aae02_0 ?_
  refine lv_if_eq (tgt := 17) hx hb dJ0_isLatin1_aae02_3 (by decide) (fun zc => absurd zc (by decide)) (fun _ => ?_)
  refine lv_aload_n hx hb dJ0_isLatin1_aae02_6 rfl (lv_at hl 0 rfl) ?_
  refine vk_getf (v := .int 0) hx hb (hB.2.2.1.1.1 k0 hk0).2.1 hS hown (hts _ mU_1728) (fun _ h9 => h9) dJ0_isLatin1_aae02_7 ?_
  refine lv_if_ne (tgt := 17) hx hb dJ0_isLatin1_aae02_10 (by decide) (fun zc => absurd zc (by decide)) (fun _ => ?_)
  refine lv_iconst (v := 1) hx hb dJ0_isLatin1_aae02_13 (by decide) ?_
  refine lv_goto (tgt := 18) hx hb dJ0_isLatin1_aae02_14 (by decide) ?_
  have ho := (Option.some.inj hF).symm
  exact W.zret (v := 1) hx hb hr rfl (fun t ht hW => ⟨⟨1, (), rfl, ho, z_end ht hP⟩, hS.F ht⟩) hS.2.2 dJ0_isLatin1_aae02_18
abbrev w_J0_length_8abf5 : List Cond := .code yJ0_length_8abf5 cJ0_length_8abf5 1 (some .int) :: wU
abbrev r_J0_length_8abf5 : Room := { frames := 1, cells := 0, slots := 0, locals := 20 }
abbrev q_J0_length_8abf5 (g : GG) (o : Int32) (A : Nat → Prop) := va_Qi (fun (r : Int32) (u : Unit) => o = r) (fun u t => va_P (gD g) zCl [] t.heap) A
set_option maxHeartbeats 4000000 in
set_option maxRecDepth 100000 in
theorem c_J0_length_8abf5 (l : Launch) (g : GG) (sz : Nat) (k0 : Nat) (hk0 : k0 < 9) (o : Int32) (hF : F_J0_length_8abf5 k0 = some o) : Met l yJ0_length_8abf5 w_J0_length_8abf5 r_J0_length_8abf5 (va_Pc [.ref (gaK g k0)] (zP g [] sz)) (q_J0_length_8abf5 g o (va_A [] sz)) 0 0 (va_A [] sz) := by
  refine Met.ofW (cc := cJ0_length_8abf5) (maxL := 1) (ret := (some .int)) (by decide) rfl ?_
  intro p e s m args below meth c s₁ B hml hv
  obtain ⟨rfl, rfl, hP, hK, hD0, hB⟩ := hv
  have hx := B.exec
  have hb := B.bytes
  have hr := B.returns
  have hts : ∀ w ∈ wU, w.before _ s = true := fun w h => atoms_spec (ws := w_J0_length_8abf5) B.pre w (List.mem_cons_of_mem _ h)
  have hown : s.vm.findClass RJ0 = some m.cls := findClass_of_methodNamed B.named
  have hlocks := B.notSynchronized
  have hD := hD0.self (sz := s.heap.size)
  generalize hAe : va_A [] s.heap.size = A at hD hB ⊢
  have hA : ∀ q : Nat, s.heap.size ≤ q → A q := fun q h => by rw [← hAe]; exact Or.inr h
  have hS : va_S A s.heap s.heap [] := va_S.rf
  have hl := lv_entry ([.ref (gaK g k0)]) (n := 1) (Nat.le_of_ble_eq_true rfl)
  rw [lg_entry_eq]
  generalize (lg_sl ([.ref (gaK g k0)]) ++ List.replicate (1 - (lg_sl ([.ref (gaK g k0)])).length) Slot.unset).toArray = ls at hl ⊢
  have hl : lv_has ls 1 [(0, .ref (gaK g k0))] := hl
  unfold F_J0_length_8abf5 at hF
  refine lv_aload_n hx hb dJ0_length_8abf5_0 rfl (lv_at hl 0 rfl) ?_
  refine vk_getf (v := .ref (gaV g k0)) hx hb (hB.2.2.1.1.1 k0 hk0).2.2.1 hS hown (hts _ mU_1729) (fun _ h9 => h9) dJ0_length_8abf5_1 ?_
  refine va_tlen hx hb (hB.2.2.1.1.1 k0 hk0).2.2.2 hS (v := (nI (zLen.getD k0 0))) rfl dJ0_length_8abf5_4 ?_
  refine lv_aload_n hx hb dJ0_length_8abf5_5 rfl (lv_at hl 0 rfl) ?_
  obtain ⟨zo1, hzo1, hF⟩ := z_bind hF
  refine z_calliE (fun (_ : Unit) => []) (va_runV (As := []) (rest := [.int (nI (zLen.getD k0 0))]) ⟨hx, hb, hml, hown, hts⟩ (c_J0_coder_7d493 l g _ k0 hk0 _ hzo1) (cwV 0 hts (gdV mU_554 mU_555 mU_556 mU_81 mU_557) rfl rfl rfl (by decide +kernel) ⟨Nat.le_of_ble_eq_true rfl, Nat.le_of_ble_eq_true rfl⟩) ⟨z_blind _ _ _ _, vk_recv hB.2.2.1.1 hk0 hS, fun U hU hW => z_preE hP hD hK hB hS hA hU hW⟩ rfl rfl hl.1 rfl (lv_room (Nat.le_of_ble_eq_true rfl)) dJ0_length_8abf5_6 ⟨Nat.le_of_ble_eq_true rfl, Nat.le_of_ble_eq_true rfl⟩) hD hS hA (fun _ => rfl) (fun r u H locs hw hP hD hS => ?_)
  subst hw
  have hP : va_P (gD g) zCl [] H := hP
  have hD : va_D A [] := hD
  refine lv_ishr hx hb dJ0_length_8abf5_9 ?_
  have ho := (Option.some.inj hF).symm
  exact W.iret (v := ((nI (zLen.getD k0 0)) >>> (zo1 &&& 31))) hx hb hr (fun t ht hW => ⟨⟨((nI (zLen.getD k0 0)) >>> (zo1 &&& 31)), (), rfl, ho, z_end ht hP⟩, hS.F ht⟩) hS.2.2 dJ0_length_8abf5_10
abbrev w_J1_canEncode_9a6ad : List Cond := .code yJ1_canEncode_9a6ad cJ1_canEncode_9a6ad 1 (some .boolean) :: wU
abbrev r_J1_canEncode_9a6ad : Room := { frames := 0, cells := 0, slots := 0, locals := 0 }
abbrev q_J1_canEncode_9a6ad (g : GG) (o : Int32) (A : Nat → Prop) := va_Qi (fun (r : Int32) (u : Unit) => o = r) (fun u t => va_P (gD g) zCl [] t.heap) A
set_option maxHeartbeats 4000000 in
set_option maxRecDepth 100000 in
theorem c_J1_canEncode_9a6ad (l : Launch) (g : GG) (sz : Nat) (p0 : Int32) (o : Int32) (hF : F_J1_canEncode_9a6ad p0 = some o) : Met l yJ1_canEncode_9a6ad w_J1_canEncode_9a6ad r_J1_canEncode_9a6ad (va_Pc [.int p0] (zP g [] sz)) (q_J1_canEncode_9a6ad g o (va_A [] sz)) 0 0 (va_A [] sz) := by
  refine Met.ofW (cc := cJ1_canEncode_9a6ad) (maxL := 1) (ret := (some .boolean)) (by decide) rfl ?_
  intro p e s m args below meth c s₁ B hml hv
  obtain ⟨rfl, rfl, hP, hK, hD0, hB⟩ := hv
  have hx := B.exec
  have hb := B.bytes
  have hr := B.returns
  have hts : ∀ w ∈ wU, w.before _ s = true := fun w h => atoms_spec (ws := w_J1_canEncode_9a6ad) B.pre w (List.mem_cons_of_mem _ h)
  have hown : s.vm.findClass RJ1 = some m.cls := findClass_of_methodNamed B.named
  have hlocks := B.notSynchronized
  have hD := hD0.self (sz := s.heap.size)
  generalize hAe : va_A [] s.heap.size = A at hD hB ⊢
  have hA : ∀ q : Nat, s.heap.size ≤ q → A q := fun q h => by rw [← hAe]; exact Or.inr h
  have hS : va_S A s.heap s.heap [] := va_S.rf
  have hl := lv_entry ([.int p0]) (n := 1) (Nat.le_of_ble_eq_true rfl)
  rw [lg_entry_eq]
  generalize (lg_sl ([.int p0]) ++ List.replicate (1 - (lg_sl ([.int p0])).length) Slot.unset).toArray = ls at hl ⊢
  have hl : lv_has ls 1 [(0, .int p0)] := hl
  unfold F_J1_canEncode_9a6ad at hF
  refine lv_iload_n hx hb dJ1_canEncode_9a6ad_0 rfl (lv_at hl 0 rfl) ?_
  refine lv_if_lt (tgt := 15) hx hb dJ1_canEncode_9a6ad_1 (by decide) (fun zc1 => ?_) (fun zc1 => ?_)
  · have hF := z_pos hF zc1
    refine lv_iconst (v := 0) hx hb dJ1_canEncode_9a6ad_15 (by decide) ?_
    have ho := (Option.some.inj hF).symm
    exact W.zret (v := 0) hx hb hr rfl (fun t ht hW => ⟨⟨0, (), rfl, ho, z_end ht hP⟩, hS.F ht⟩) hS.2.2 dJ1_canEncode_9a6ad_16
  · have hF := z_neg hF zc1
    refine lv_iload_n hx hb dJ1_canEncode_9a6ad_4 rfl (lv_at hl 0 rfl) ?_
    refine lv_sipush (v := 255) hx hb dJ1_canEncode_9a6ad_5 (by decide) ?_
    refine lv_icmp_gt (tgt := 15) hx hb dJ1_canEncode_9a6ad_8 (by decide) (fun zc2 => ?_) (fun zc2 => ?_)
    · have hF := z_pos hF zc2
      refine lv_iconst (v := 0) hx hb dJ1_canEncode_9a6ad_15 (by decide) ?_
      have ho := (Option.some.inj hF).symm
      exact W.zret (v := 0) hx hb hr rfl (fun t ht hW => ⟨⟨0, (), rfl, ho, z_end ht hP⟩, hS.F ht⟩) hS.2.2 dJ1_canEncode_9a6ad_16
    · have hF := z_neg hF zc2
      refine lv_iconst (v := 1) hx hb dJ1_canEncode_9a6ad_11 (by decide) ?_
      refine lv_goto (tgt := 16) hx hb dJ1_canEncode_9a6ad_12 (by decide) ?_
      have ho := (Option.some.inj hF).symm
      exact W.zret (v := 1) hx hb hr rfl (fun t ht hW => ⟨⟨1, (), rfl, ho, z_end ht hP⟩, hS.F ht⟩) hS.2.2 dJ1_canEncode_9a6ad_16
abbrev w_J1_indexOfChar_4cfef : List Cond := .code yJ1_indexOfChar_4cfef cJ1_indexOfChar_4cfef 6 (some .int) :: wU
abbrev r_J1_indexOfChar_4cfef : Room := { frames := 0, cells := 0, slots := 0, locals := 0 }
abbrev q_J1_indexOfChar_4cfef (g : GG) (o : Int32) (A : Nat → Prop) := va_Qi (fun (r : Int32) (u : Unit) => o = r) (fun u t => va_P (gD g) zCl [] t.heap) A
set_option maxHeartbeats 4000000 in
set_option maxRecDepth 100000 in
theorem c_J1_indexOfChar_4cfef (l : Launch) (g : GG) (sz : Nat) (k0 : Nat) (hk0 : k0 < 9) (p1 : Int32) (p2 : Int32) (p3 : Int32) (fu : Nat) (o : Int32) (hF : F_J1_indexOfChar_4cfef fu k0 p1 p2 p3 = some o) : Met l yJ1_indexOfChar_4cfef w_J1_indexOfChar_4cfef r_J1_indexOfChar_4cfef (va_Pc [.ref (gaV g k0), .int p1, .int p2, .int p3] (zP g [] sz)) (q_J1_indexOfChar_4cfef g o (va_A [] sz)) 0 0 (va_A [] sz) := by
  refine Met.ofW (cc := cJ1_indexOfChar_4cfef) (maxL := 6) (ret := (some .int)) (by decide) rfl ?_
  intro p e s m args below meth c s₁ B hml hv
  obtain ⟨rfl, rfl, hP, hK, hD0, hB⟩ := hv
  have hx := B.exec
  have hb := B.bytes
  have hr := B.returns
  have hts : ∀ w ∈ wU, w.before _ s = true := fun w h => atoms_spec (ws := w_J1_indexOfChar_4cfef) B.pre w (List.mem_cons_of_mem _ h)
  have hown : s.vm.findClass RJ1 = some m.cls := findClass_of_methodNamed B.named
  have hlocks := B.notSynchronized
  have hD := hD0.self (sz := s.heap.size)
  generalize hAe : va_A [] s.heap.size = A at hD hB ⊢
  have hA : ∀ q : Nat, s.heap.size ≤ q → A q := fun q h => by rw [← hAe]; exact Or.inr h
  have hS : va_S A s.heap s.heap [] := va_S.rf
  have hl := lv_entry ([.ref (gaV g k0), .int p1, .int p2, .int p3]) (n := 6) (Nat.le_of_ble_eq_true rfl)
  rw [lg_entry_eq]
  generalize (lg_sl ([.ref (gaV g k0), .int p1, .int p2, .int p3]) ++ List.replicate (6 - (lg_sl ([.ref (gaV g k0), .int p1, .int p2, .int p3])).length) Slot.unset).toArray = ls at hl ⊢
  have hl : lv_has ls 6 [(0, .ref (gaV g k0)), (1, .int p1), (2, .int p2), (3, .int p3)] := hl
  unfold F_J1_indexOfChar_4cfef at hF
  have K7 : ∀ (n7 : Nat) (x4 : Int32) (x5 : Int32), F_J1_indexOfChar_4cfef_7 fu n7 k0 p3 x4 x5 = some o → ∀ (H : Heap) (locs : List Loc) (ls : Array Slot), lv_has ls 6 [(0, .ref (gaV g k0)), (3, .int p3), (4, .int x4), (5, .int x5)] → va_P (gD g) zCl [] H → va_D A [] → va_S A s.heap H locs → W p l e (headSpec w_J1_indexOfChar_4cfef r_J1_indexOfChar_4cfef).room s m ([.ref (gaV g k0), .int p1, .int p2, .int p3] : List Value).toArray below meth c H locs 0 0 (MQ below (q_J1_indexOfChar_4cfef g o A) ([.ref (gaV g k0), .int p1, .int p2, .int p3] : List Value).toArray s 0 0 A) (F0 m 7 ls []) := by
    intro n7
    induction n7 with
    | zero =>
      intro x4 x5 hF
      exact absurd hF (by simp [F_J1_indexOfChar_4cfef_7])
    | succ n7 ih7 =>
      intro x4 x5 hF H locs ls hl hP hD hS
      unfold F_J1_indexOfChar_4cfef_7 at hF
      refine lv_iload hx hb dJ1_indexOfChar_4cfef_7 (lv_at hl 3 rfl) ?_
      refine lv_iload_n hx hb dJ1_indexOfChar_4cfef_9 rfl (lv_at hl 1 rfl) ?_
      refine lv_icmp_ge (tgt := 31) hx hb dJ1_indexOfChar_4cfef_10 (by decide) (fun zc1 => ?_) (fun zc1 => ?_)
      · have hF := z_pos hF zc1
        refine lv_iconst (v := (-1)) hx hb dJ1_indexOfChar_4cfef_31 (by decide) ?_
        have ho := (Option.some.inj hF).symm
        exact W.iret (v := (-1)) hx hb hr (fun t ht hW => ⟨⟨(-1), (), rfl, ho, z_end ht hP⟩, hS.F ht⟩) hS.2.2 dJ1_indexOfChar_4cfef_32
      · have hF := z_neg hF zc1
        refine lv_aload_n hx hb dJ1_indexOfChar_4cfef_13 rfl (lv_at hl 0 rfl) ?_
        refine lv_iload hx hb dJ1_indexOfChar_4cfef_14 (lv_at hl 3 rfl) ?_
        obtain ⟨zg2, hF⟩ := z_grd hF
        refine va_tb hx hb (hB.2.2.1.1.1 k0 hk0).2.2.2 hS zg2 (v := .int ((zByt.getD k0 []).getD (Int32.toNatClampNeg x5) 0)) rfl dJ1_indexOfChar_4cfef_16 ?_
        refine lv_iload hx hb dJ1_indexOfChar_4cfef_17 (lv_at hl 2 rfl) ?_
        refine lv_icmp_ne (tgt := 25) hx hb dJ1_indexOfChar_4cfef_19 (by decide) (fun zc3 => ?_) (fun zc3 => ?_)
        · have hF := z_neg hF zc3
          obtain ⟨zv4, ezv4, hF⟩ := z_let hF
          refine lv_iinc (v := zv4) (lv' := [(5, .int zv4), (0, .ref (gaV g k0)), (3, .int p3), (4, .int x4)]) hx hb dJ1_indexOfChar_4cfef_25 hl (k := 3) rfl (by rw [ezv4]; rfl) (by decide) rfl (fun ls hl => ?_)
          refine lv_goto (tgt := 7) hx hb dJ1_indexOfChar_4cfef_28 (by decide) ?_
          exact ih7 x4 zv4 hF _ _ _ (lv_sub hl [1, 2, 3, 0] rfl) hP hD hS
        · have hF := z_pos hF zc3
          refine lv_iload hx hb dJ1_indexOfChar_4cfef_22 (lv_at hl 3 rfl) ?_
          have ho := (Option.some.inj hF).symm
          exact W.iret (v := x5) hx hb hr (fun t ht hW => ⟨⟨x5, (), rfl, ho, z_end ht hP⟩, hS.F ht⟩) hS.2.2 dJ1_indexOfChar_4cfef_24
  refine lv_iload_n hx hb dJ1_indexOfChar_4cfef_0 rfl (lv_at hl 1 rfl) ?_
  refine lv_i2b (v := ((p1).toInt8.toInt32)) hx hb dJ1_indexOfChar_4cfef_1 rfl ?_
  obtain ⟨zv5, ezv5, hF⟩ := z_let hF
  refine z_topi ezv5 ?_
  refine lv_istore (lv' := [(4, .int zv5), (0, .ref (gaV g k0)), (1, .int p1), (2, .int p2), (3, .int p3)]) hx hb dJ1_indexOfChar_4cfef_2 hl (by decide) rfl (fun ls hl => ?_)
  refine lv_iload_n hx hb dJ1_indexOfChar_4cfef_4 rfl (lv_at hl 3 rfl) ?_
  refine lv_istore (lv' := [(5, .int p2), (4, .int zv5), (0, .ref (gaV g k0)), (1, .int p1), (2, .int p2), (3, .int p3)]) hx hb dJ1_indexOfChar_4cfef_5 hl (by decide) rfl (fun ls hl => ?_)
  exact K7 fu zv5 p2 hF _ _ _ (lv_sub hl [2, 5, 1, 0] rfl) hP hD hS
abbrev w_J1_indexOf_4cfef : List Cond := .code yJ1_indexOf_4cfef cJ1_indexOf_4cfef 4 (some .int) :: wU
abbrev r_J1_indexOf_4cfef : Room := { frames := 1, cells := 0, slots := 0, locals := 40 }
abbrev q_J1_indexOf_4cfef (g : GG) (o : Int32) (A : Nat → Prop) := va_Qi (fun (r : Int32) (u : Unit) => o = r) (fun u t => va_P (gD g) zCl [] t.heap) A
set_option maxHeartbeats 4000000 in
set_option maxRecDepth 100000 in
theorem c_J1_indexOf_4cfef (l : Launch) (g : GG) (sz : Nat) (k0 : Nat) (hk0 : k0 < 9) (p1 : Int32) (p2 : Int32) (p3 : Int32) (fu : Nat) (o : Int32) (hF : F_J1_indexOf_4cfef fu k0 p1 p2 p3 = some o) : Met l yJ1_indexOf_4cfef w_J1_indexOf_4cfef r_J1_indexOf_4cfef (va_Pc [.ref (gaV g k0), .int p1, .int p2, .int p3] (zP g [] sz)) (q_J1_indexOf_4cfef g o (va_A [] sz)) 0 0 (va_A [] sz) := by
  refine Met.ofW (cc := cJ1_indexOf_4cfef) (maxL := 4) (ret := (some .int)) (by decide) rfl ?_
  intro p e s m args below meth c s₁ B hml hv
  obtain ⟨rfl, rfl, hP, hK, hD0, hB⟩ := hv
  have hx := B.exec
  have hb := B.bytes
  have hr := B.returns
  have hts : ∀ w ∈ wU, w.before _ s = true := fun w h => atoms_spec (ws := w_J1_indexOf_4cfef) B.pre w (List.mem_cons_of_mem _ h)
  have hown : s.vm.findClass RJ1 = some m.cls := findClass_of_methodNamed B.named
  have hlocks := B.notSynchronized
  have hD := hD0.self (sz := s.heap.size)
  generalize hAe : va_A [] s.heap.size = A at hD hB ⊢
  have hA : ∀ q : Nat, s.heap.size ≤ q → A q := fun q h => by rw [← hAe]; exact Or.inr h
  have hS : va_S A s.heap s.heap [] := va_S.rf
  have hl := lv_entry ([.ref (gaV g k0), .int p1, .int p2, .int p3]) (n := 4) (Nat.le_of_ble_eq_true rfl)
  rw [lg_entry_eq]
  generalize (lg_sl ([.ref (gaV g k0), .int p1, .int p2, .int p3]) ++ List.replicate (4 - (lg_sl ([.ref (gaV g k0), .int p1, .int p2, .int p3])).length) Slot.unset).toArray = ls at hl ⊢
  have hl : lv_has ls 4 [(0, .ref (gaV g k0)), (1, .int p1), (2, .int p2), (3, .int p3)] := hl
  unfold F_J1_indexOf_4cfef at hF
  refine lv_iload_n hx hb dJ1_indexOf_4cfef_0 rfl (lv_at hl 1 rfl) ?_
  obtain ⟨zo1, hzo1, hF⟩ := z_bind hF
  refine z_calliE (fun (_ : Unit) => []) (va_runS (As := [.int p1]) (rest := []) ⟨hx, hb, hml, hown, hts⟩ (c_J1_canEncode_9a6ad l g _ p1 _ hzo1) (va_cwS 1 hts (gdS mU_561 mU_562 mU_82 mU_563) rfl rfl rfl (by decide +kernel) ⟨Nat.le_of_ble_eq_true rfl, Nat.le_of_ble_eq_true rfl⟩) ⟨z_blind _ _ _ _, fun U hU hW => z_preE hP hD hK hB hS hA hU hW⟩ rfl rfl hl.1 rfl (lv_room (Nat.le_of_ble_eq_true rfl)) dJ1_indexOf_4cfef_1 ⟨Nat.le_of_ble_eq_true rfl, Nat.le_of_ble_eq_true rfl⟩) hD hS hA (fun _ => rfl) (fun r u H locs hw hP hD hS => ?_)
  subst hw
  have hP : va_P (gD g) zCl [] H := hP
  have hD : va_D A [] := hD
  refine lv_if_ne (tgt := 9) hx hb dJ1_indexOf_4cfef_4 (by decide) (fun zc2 => ?_) (fun zc2 => ?_)
  · have hF := z_neg hF zc2
    refine lv_iload_n hx hb dJ1_indexOf_4cfef_9 rfl (lv_at hl 2 rfl) ?_
    refine lv_iconst (v := 0) hx hb dJ1_indexOf_4cfef_10 (by decide) ?_
    refine va_mmax hx hb (hml.trans hl.1.symm) hown (hts _ mU_564) (hts _ mU_565) (hts _ mU_83) (hts _ mU_566) (Nat.le_of_ble_eq_true rfl) (Nat.le_of_ble_eq_true rfl) (Nat.le_of_ble_eq_true rfl) (Nat.le_of_ble_eq_true rfl) dJ1_indexOf_4cfef_11 ?_
    obtain ⟨zv3, ezv3, hF⟩ := z_let hF
    refine z_topi ezv3 ?_
    refine lv_istore_n (lv' := [(2, .int zv3), (0, .ref (gaV g k0)), (1, .int p1), (3, .int p3)]) hx hb dJ1_indexOf_4cfef_14 rfl hl (by decide) rfl (fun ls hl => ?_)
    refine lv_iload_n hx hb dJ1_indexOf_4cfef_15 rfl (lv_at hl 3 rfl) ?_
    refine lv_aload_n hx hb dJ1_indexOf_4cfef_16 rfl (lv_at hl 1 rfl) ?_
    refine va_tlen hx hb (hB.2.2.1.1.1 k0 hk0).2.2.2 hS (v := (nI (zLen.getD k0 0))) rfl dJ1_indexOf_4cfef_17 ?_
    refine va_mmin hx hb (hml.trans hl.1.symm) hown (hts _ mU_567) (hts _ mU_568) (hts _ mU_83) (hts _ mU_569) (Nat.le_of_ble_eq_true rfl) (Nat.le_of_ble_eq_true rfl) (Nat.le_of_ble_eq_true rfl) (Nat.le_of_ble_eq_true rfl) dJ1_indexOf_4cfef_18 ?_
    obtain ⟨zv4, ezv4, hF⟩ := z_let hF
    refine z_topi ezv4 ?_
    refine lv_istore_n (lv' := [(3, .int zv4), (2, .int zv3), (0, .ref (gaV g k0)), (1, .int p1)]) hx hb dJ1_indexOf_4cfef_21 rfl hl (by decide) rfl (fun ls hl => ?_)
    refine lv_iload_n hx hb dJ1_indexOf_4cfef_22 rfl (lv_at hl 1 rfl) ?_
    refine lv_iload_n hx hb dJ1_indexOf_4cfef_23 rfl (lv_at hl 0 rfl) ?_
    refine lv_icmp_lt (tgt := 29) hx hb dJ1_indexOf_4cfef_24 (by decide) (fun zc5 => ?_) (fun zc5 => ?_)
    · have hF := z_pos hF zc5
      refine lv_aload_n hx hb dJ1_indexOf_4cfef_29 rfl (lv_at hl 2 rfl) ?_
      refine lv_iload_n hx hb dJ1_indexOf_4cfef_30 rfl (lv_at hl 3 rfl) ?_
      refine lv_iload_n hx hb dJ1_indexOf_4cfef_31 rfl (lv_at hl 1 rfl) ?_
      refine lv_iload_n hx hb dJ1_indexOf_4cfef_32 rfl (lv_at hl 0 rfl) ?_
      obtain ⟨zo6, hzo6, hF⟩ := z_bind hF
      refine z_calliE (fun (_ : Unit) => []) (va_runS (As := [.ref (gaV g k0), .int p1, .int zv3, .int zv4]) (rest := []) ⟨hx, hb, hml, hown, hts⟩ (c_J1_indexOfChar_4cfef l g _ k0 hk0 p1 zv3 zv4 fu _ hzo6) (va_cwS 4 hts (gdS mU_570 mU_571 mU_82 mU_572) rfl rfl rfl (by decide +kernel) ⟨Nat.le_of_ble_eq_true rfl, Nat.le_of_ble_eq_true rfl⟩) ⟨z_blind _ _ _ _, fun U hU hW => z_preE hP hD hK hB hS hA hU hW⟩ rfl rfl hl.1 rfl (lv_room (Nat.le_of_ble_eq_true rfl)) dJ1_indexOf_4cfef_33 ⟨Nat.le_of_ble_eq_true rfl, Nat.le_of_ble_eq_true rfl⟩) hD hS hA (fun _ => rfl) (fun r u H locs hw hP hD hS => ?_)
      subst hw
      have hP : va_P (gD g) zCl [] H := hP
      have hD : va_D A [] := hD
      have ho := (Option.some.inj hF).symm
      exact W.iret (v := zo6) hx hb hr (fun t ht hW => ⟨⟨zo6, (), rfl, ho, z_end ht hP⟩, hS.F ht⟩) hS.2.2 dJ1_indexOf_4cfef_36
    · have hF := z_neg hF zc5
      refine lv_iconst (v := (-1)) hx hb dJ1_indexOf_4cfef_27 (by decide) ?_
      have ho := (Option.some.inj hF).symm
      exact W.iret (v := (-1)) hx hb hr (fun t ht hW => ⟨⟨(-1), (), rfl, ho, z_end ht hP⟩, hS.F ht⟩) hS.2.2 dJ1_indexOf_4cfef_28
  · have hF := z_pos hF zc2
    refine lv_iconst (v := (-1)) hx hb dJ1_indexOf_4cfef_7 (by decide) ?_
    have ho := (Option.some.inj hF).symm
    exact W.iret (v := (-1)) hx hb hr (fun t ht hW => ⟨⟨(-1), (), rfl, ho, z_end ht hP⟩, hS.F ht⟩) hS.2.2 dJ1_indexOf_4cfef_8
abbrev w_J0_indexOf_7cf53 : List Cond := .code yJ0_indexOf_7cf53 cJ0_indexOf_7cf53 3 (some .int) :: wU
abbrev r_J0_indexOf_7cf53 : Room := { frames := 2, cells := 0, slots := 0, locals := 63 }
abbrev q_J0_indexOf_7cf53 (g : GG) (o : Int32) (A : Nat → Prop) := va_Qi (fun (r : Int32) (u : Unit) => o = r) (fun u t => va_P (gD g) zCl [] t.heap) A
set_option maxHeartbeats 4000000 in
set_option maxRecDepth 100000 in
theorem c_J0_indexOf_7cf53 (l : Launch) (g : GG) (sz : Nat) (k0 : Nat) (hk0 : k0 < 9) (p1 : Int32) (p2 : Int32) (fu : Nat) (o : Int32) (hF : F_J0_indexOf_7cf53 fu k0 p1 p2 = some o) : Met l yJ0_indexOf_7cf53 w_J0_indexOf_7cf53 r_J0_indexOf_7cf53 (va_Pc [.ref (gaK g k0), .int p1, .int p2] (zP g [] sz)) (q_J0_indexOf_7cf53 g o (va_A [] sz)) 0 0 (va_A [] sz) := by
  refine Met.ofW (cc := cJ0_indexOf_7cf53) (maxL := 3) (ret := (some .int)) (by decide) rfl ?_
  intro p e s m args below meth c s₁ B hml hv
  obtain ⟨rfl, rfl, hP, hK, hD0, hB⟩ := hv
  have hx := B.exec
  have hb := B.bytes
  have hr := B.returns
  have hts : ∀ w ∈ wU, w.before _ s = true := fun w h => atoms_spec (ws := w_J0_indexOf_7cf53) B.pre w (List.mem_cons_of_mem _ h)
  have hown : s.vm.findClass RJ0 = some m.cls := findClass_of_methodNamed B.named
  have hlocks := B.notSynchronized
  have hD := hD0.self (sz := s.heap.size)
  generalize hAe : va_A [] s.heap.size = A at hD hB ⊢
  have hA : ∀ q : Nat, s.heap.size ≤ q → A q := fun q h => by rw [← hAe]; exact Or.inr h
  have hS : va_S A s.heap s.heap [] := va_S.rf
  have hl := lv_entry ([.ref (gaK g k0), .int p1, .int p2]) (n := 3) (Nat.le_of_ble_eq_true rfl)
  rw [lg_entry_eq]
  generalize (lg_sl ([.ref (gaK g k0), .int p1, .int p2]) ++ List.replicate (3 - (lg_sl ([.ref (gaK g k0), .int p1, .int p2])).length) Slot.unset).toArray = ls at hl ⊢
  have hl : lv_has ls 3 [(0, .ref (gaK g k0)), (1, .int p1), (2, .int p2)] := hl
  unfold F_J0_indexOf_7cf53 at hF
  refine lv_aload_n hx hb dJ0_indexOf_7cf53_0 rfl (lv_at hl 0 rfl) ?_
  obtain ⟨zo1, hzo1, hF⟩ := z_bind hF
  refine z_calliE (fun (_ : Unit) => []) (va_runV (As := []) (rest := []) ⟨hx, hb, hml, hown, hts⟩ (c_J0_isLatin1_aae02 l g _ k0 hk0 _ hzo1) (cwV 0 hts (gdV mU_544 mU_545 mU_546 mU_81 mU_547) rfl rfl rfl (by decide +kernel) ⟨Nat.le_of_ble_eq_true rfl, Nat.le_of_ble_eq_true rfl⟩) ⟨z_blind _ _ _ _, vk_recv hB.2.2.1.1 hk0 hS, fun U hU hW => z_preE hP hD hK hB hS hA hU hW⟩ rfl rfl hl.1 rfl (lv_room (Nat.le_of_ble_eq_true rfl)) dJ0_indexOf_7cf53_1 ⟨Nat.le_of_ble_eq_true rfl, Nat.le_of_ble_eq_true rfl⟩) hD hS hA (fun _ => rfl) (fun r u H locs hw hP hD hS => ?_)
  subst hw
  have hP : va_P (gD g) zCl [] H := hP
  have hD : va_D A [] := hD
  refine lv_if_eq (tgt := 23) hx hb dJ0_indexOf_7cf53_4 (by decide) (fun zc2 => ?_) (fun zc2 => ?_)
  · have hF := z_pos hF zc2
    exact absurd hF (by simp)
  · have hF := z_neg hF zc2
    refine lv_aload_n hx hb dJ0_indexOf_7cf53_7 rfl (lv_at hl 0 rfl) ?_
    refine vk_getf (v := .ref (gaV g k0)) hx hb (hB.2.2.1.1.1 k0 hk0).2.2.1 hS hown (hts _ mU_1729) (fun _ h9 => h9) dJ0_indexOf_7cf53_8 ?_
    refine lv_iload_n hx hb dJ0_indexOf_7cf53_11 rfl (lv_at hl 1 rfl) ?_
    refine lv_iload_n hx hb dJ0_indexOf_7cf53_12 rfl (lv_at hl 2 rfl) ?_
    refine lv_aload_n hx hb dJ0_indexOf_7cf53_13 rfl (lv_at hl 0 rfl) ?_
    obtain ⟨zo3, hzo3, hF⟩ := z_bind hF
    refine z_calliE (fun (_ : Unit) => []) (va_runV (As := []) (rest := [.int p2, .int p1, .ref (gaV g k0)]) ⟨hx, hb, hml, hown, hts⟩ (c_J0_length_8abf5 l g _ k0 hk0 _ hzo3) (cwV 0 hts (gdV mU_550 mU_551 mU_552 mU_81 mU_553) rfl rfl rfl (by decide +kernel) ⟨Nat.le_of_ble_eq_true rfl, Nat.le_of_ble_eq_true rfl⟩) ⟨z_blind _ _ _ _, vk_recv hB.2.2.1.1 hk0 hS, fun U hU hW => z_preE hP hD hK hB hS hA hU hW⟩ rfl rfl hl.1 rfl (lv_room (Nat.le_of_ble_eq_true rfl)) dJ0_indexOf_7cf53_14 ⟨Nat.le_of_ble_eq_true rfl, Nat.le_of_ble_eq_true rfl⟩) hD hS hA (fun _ => rfl) (fun r u H locs hw hP hD hS => ?_)
    subst hw
    have hP : va_P (gD g) zCl [] H := hP
    have hD : va_D A [] := hD
    obtain ⟨zo4, hzo4, hF⟩ := z_bind hF
    refine z_calliE (fun (_ : Unit) => []) (va_runS (As := [.ref (gaV g k0), .int p1, .int p2, .int zo3]) (rest := []) ⟨hx, hb, hml, hown, hts⟩ (c_J1_indexOf_4cfef l g _ k0 hk0 p1 p2 zo3 fu _ hzo4) (va_cwS 4 hts (gdS mU_558 mU_559 mU_82 mU_560) rfl rfl rfl (by decide +kernel) ⟨Nat.le_of_ble_eq_true rfl, Nat.le_of_ble_eq_true rfl⟩) ⟨z_blind _ _ _ _, fun U hU hW => z_preE hP hD hK hB hS hA hU hW⟩ rfl rfl hl.1 rfl (lv_room (Nat.le_of_ble_eq_true rfl)) dJ0_indexOf_7cf53_17 ⟨Nat.le_of_ble_eq_true rfl, Nat.le_of_ble_eq_true rfl⟩) hD hS hA (fun _ => rfl) (fun r u H locs hw hP hD hS => ?_)
    subst hw
    have hP : va_P (gD g) zCl [] H := hP
    have hD : va_D A [] := hD
    refine lv_goto (tgt := 36) hx hb dJ0_indexOf_7cf53_20 (by decide) ?_
    have ho := (Option.some.inj hF).symm
    exact W.iret (v := zo4) hx hb hr (fun t ht hW => ⟨⟨zo4, (), rfl, ho, z_end ht hP⟩, hS.F ht⟩) hS.2.2 dJ0_indexOf_7cf53_36
abbrev w_J0_indexOf_0f7a4 : List Cond := .code yJ0_indexOf_0f7a4 cJ0_indexOf_0f7a4 2 (some .int) :: wU
abbrev r_J0_indexOf_0f7a4 : Room := { frames := 3, cells := 0, slots := 0, locals := 85 }
abbrev q_J0_indexOf_0f7a4 (g : GG) (o : Int32) (A : Nat → Prop) := va_Qi (fun (r : Int32) (u : Unit) => o = r) (fun u t => va_P (gD g) zCl [] t.heap) A
set_option maxHeartbeats 4000000 in
set_option maxRecDepth 100000 in
theorem c_J0_indexOf_0f7a4 (l : Launch) (g : GG) (sz : Nat) (k0 : Nat) (hk0 : k0 < 9) (p1 : Int32) (fu : Nat) (o : Int32) (hF : F_J0_indexOf_0f7a4 fu k0 p1 = some o) : Met l yJ0_indexOf_0f7a4 w_J0_indexOf_0f7a4 r_J0_indexOf_0f7a4 (va_Pc [.ref (gaK g k0), .int p1] (zP g [] sz)) (q_J0_indexOf_0f7a4 g o (va_A [] sz)) 0 0 (va_A [] sz) := by
  refine Met.ofW (cc := cJ0_indexOf_0f7a4) (maxL := 2) (ret := (some .int)) (by decide) rfl ?_
  intro p e s m args below meth c s₁ B hml hv
  obtain ⟨rfl, rfl, hP, hK, hD0, hB⟩ := hv
  have hx := B.exec
  have hb := B.bytes
  have hr := B.returns
  have hts : ∀ w ∈ wU, w.before _ s = true := fun w h => atoms_spec (ws := w_J0_indexOf_0f7a4) B.pre w (List.mem_cons_of_mem _ h)
  have hown : s.vm.findClass RJ0 = some m.cls := findClass_of_methodNamed B.named
  have hlocks := B.notSynchronized
  have hD := hD0.self (sz := s.heap.size)
  generalize hAe : va_A [] s.heap.size = A at hD hB ⊢
  have hA : ∀ q : Nat, s.heap.size ≤ q → A q := fun q h => by rw [← hAe]; exact Or.inr h
  have hS : va_S A s.heap s.heap [] := va_S.rf
  have hl := lv_entry ([.ref (gaK g k0), .int p1]) (n := 2) (Nat.le_of_ble_eq_true rfl)
  rw [lg_entry_eq]
  generalize (lg_sl ([.ref (gaK g k0), .int p1]) ++ List.replicate (2 - (lg_sl ([.ref (gaK g k0), .int p1])).length) Slot.unset).toArray = ls at hl ⊢
  have hl : lv_has ls 2 [(0, .ref (gaK g k0)), (1, .int p1)] := hl
  unfold F_J0_indexOf_0f7a4 at hF
  refine lv_aload_n hx hb dJ0_indexOf_0f7a4_0 rfl (lv_at hl 0 rfl) ?_
  refine lv_iload_n hx hb dJ0_indexOf_0f7a4_1 rfl (lv_at hl 1 rfl) ?_
  refine lv_iconst (v := 0) hx hb dJ0_indexOf_0f7a4_2 (by decide) ?_
  obtain ⟨zo1, hzo1, hF⟩ := z_bind hF
  refine z_calliE (fun (_ : Unit) => []) (va_runV (As := [.int p1, .int 0]) (rest := []) ⟨hx, hb, hml, hown, hts⟩ (c_J0_indexOf_7cf53 l g _ k0 hk0 p1 0 fu _ hzo1) (cwV 2 hts (gdV mU_540 mU_541 mU_542 mU_81 mU_543) rfl rfl rfl (by decide +kernel) ⟨Nat.le_of_ble_eq_true rfl, Nat.le_of_ble_eq_true rfl⟩) ⟨z_blind _ _ _ _, vk_recv hB.2.2.1.1 hk0 hS, fun U hU hW => z_preE hP hD hK hB hS hA hU hW⟩ rfl rfl hl.1 rfl (lv_room (Nat.le_of_ble_eq_true rfl)) dJ0_indexOf_0f7a4_3 ⟨Nat.le_of_ble_eq_true rfl, Nat.le_of_ble_eq_true rfl⟩) hD hS hA (fun _ => rfl) (fun r u H locs hw hP hD hS => ?_)
  subst hw
  have hP : va_P (gD g) zCl [] H := hP
  have hD : va_D A [] := hD
  have ho := (Option.some.inj hF).symm
  exact W.iret (v := zo1) hx hb hr (fun t ht hW => ⟨⟨zo1, (), rfl, ho, z_end ht hP⟩, hS.F ht⟩) hS.2.2 dJ0_indexOf_0f7a4_6
abbrev w_J3_checkIndexN : List Cond := .code yJ3_checkIndex_8e157 cJ3_checkIndex_8e157 3 (some .int) :: wU
abbrev r_J3_checkIndexN : Room := { frames := 0, cells := 0, slots := 0, locals := 0 }
abbrev q_J3_checkIndexN (g : GG) (o : Int32) (A : Nat → Prop) := va_Qi (fun (r : Int32) (u : Unit) => o = r) (fun u t => va_P (gD g) zCl [] t.heap) A
set_option maxHeartbeats 4000000 in
set_option maxRecDepth 100000 in
theorem c_J3_checkIndexN (l : Launch) (g : GG) (sz : Nat) (p0 : Int32) (p1 : Int32) (o : Int32) (hF : F_J3_checkIndexN p0 p1 = some o) : Met l yJ3_checkIndex_8e157 w_J3_checkIndexN r_J3_checkIndexN (va_Pc [.int p0, .int p1, .null] (zP g [] sz)) (q_J3_checkIndexN g o (va_A [] sz)) 0 0 (va_A [] sz) := by
  refine Met.ofW (cc := cJ3_checkIndex_8e157) (maxL := 3) (ret := (some .int)) (by decide) rfl ?_
  intro p e s m args below meth c s₁ B hml hv
  obtain ⟨rfl, rfl, hP, hK, hD0, hB⟩ := hv
  have hx := B.exec
  have hb := B.bytes
  have hr := B.returns
  have hts : ∀ w ∈ wU, w.before _ s = true := fun w h => atoms_spec (ws := w_J3_checkIndexN) B.pre w (List.mem_cons_of_mem _ h)
  have hown : s.vm.findClass RJ3 = some m.cls := findClass_of_methodNamed B.named
  have hlocks := B.notSynchronized
  have hD := hD0.self (sz := s.heap.size)
  generalize hAe : va_A [] s.heap.size = A at hD hB ⊢
  have hA : ∀ q : Nat, s.heap.size ≤ q → A q := fun q h => by rw [← hAe]; exact Or.inr h
  have hS : va_S A s.heap s.heap [] := va_S.rf
  have hl := lv_entry ([.int p0, .int p1, .null]) (n := 3) (Nat.le_of_ble_eq_true rfl)
  rw [lg_entry_eq]
  generalize (lg_sl ([.int p0, .int p1, .null]) ++ List.replicate (3 - (lg_sl ([.int p0, .int p1, .null])).length) Slot.unset).toArray = ls at hl ⊢
  have hl : lv_has ls 3 [(0, .int p0), (1, .int p1), (2, .null)] := hl
  unfold F_J3_checkIndexN at hF
  refine lv_iload_n hx hb dJ3_checkIndex_8e157_0 rfl (lv_at hl 0 rfl) ?_
  refine lv_if_lt (tgt := 9) hx hb dJ3_checkIndex_8e157_1 (by decide) (fun zc1 => ?_) (fun zc1 => ?_)
  · have hF := z_pos hF zc1
    exact absurd hF (by simp)
  · have hF := z_neg hF zc1
    refine lv_iload_n hx hb dJ3_checkIndex_8e157_4 rfl (lv_at hl 0 rfl) ?_
    refine lv_iload_n hx hb dJ3_checkIndex_8e157_5 rfl (lv_at hl 1 rfl) ?_
    refine lv_icmp_lt (tgt := 16) hx hb dJ3_checkIndex_8e157_6 (by decide) (fun zc2 => ?_) (fun zc2 => ?_)
    · have hF := z_pos hF zc2
      refine lv_iload_n hx hb dJ3_checkIndex_8e157_16 rfl (lv_at hl 0 rfl) ?_
      have ho := (Option.some.inj hF).symm
      exact W.iret (v := p0) hx hb hr (fun t ht hW => ⟨⟨p0, (), rfl, ho, z_end ht hP⟩, hS.F ht⟩) hS.2.2 dJ3_checkIndex_8e157_17
    · have hF := z_neg hF zc2
      exact absurd hF (by simp)
abbrev w_J3_checkIndexR : List Cond := .code yJ3_checkIndex_8e157 cJ3_checkIndex_8e157 3 (some .int) :: wU
abbrev r_J3_checkIndexR : Room := { frames := 0, cells := 0, slots := 0, locals := 0 }
abbrev q_J3_checkIndexR (g : GG) (o : Int32) (A : Nat → Prop) := va_Qi (fun (r : Int32) (u : Unit) => o = r) (fun u t => va_P (gD g) zCl [] t.heap) A
set_option maxHeartbeats 4000000 in
set_option maxRecDepth 100000 in
theorem c_J3_checkIndexR (l : Launch) (g : GG) (sz : Nat) (r0 : Nat) (p0 : Int32) (p1 : Int32) (o : Int32) (hF : F_J3_checkIndexN p0 p1 = some o) : Met l yJ3_checkIndex_8e157 w_J3_checkIndexR r_J3_checkIndexR (va_Pc [.int p0, .int p1, .ref r0] (zP g [] sz)) (q_J3_checkIndexR g o (va_A [] sz)) 0 0 (va_A [] sz) := by
  refine Met.ofW (cc := cJ3_checkIndex_8e157) (maxL := 3) (ret := (some .int)) (by decide) rfl ?_
  intro p e s m args below meth c s₁ B hml hv
  obtain ⟨rfl, rfl, hP, hK, hD0, hB⟩ := hv
  have hx := B.exec
  have hb := B.bytes
  have hr := B.returns
  have hts : ∀ w ∈ wU, w.before _ s = true := fun w h => atoms_spec (ws := w_J3_checkIndexR) B.pre w (List.mem_cons_of_mem _ h)
  have hown : s.vm.findClass RJ3 = some m.cls := findClass_of_methodNamed B.named
  have hlocks := B.notSynchronized
  have hD := hD0.self (sz := s.heap.size)
  generalize hAe : va_A [] s.heap.size = A at hD hB ⊢
  have hA : ∀ q : Nat, s.heap.size ≤ q → A q := fun q h => by rw [← hAe]; exact Or.inr h
  have hS : va_S A s.heap s.heap [] := va_S.rf
  have hl := lv_entry ([.int p0, .int p1, .ref r0]) (n := 3) (Nat.le_of_ble_eq_true rfl)
  rw [lg_entry_eq]
  generalize (lg_sl ([.int p0, .int p1, .ref r0]) ++ List.replicate (3 - (lg_sl ([.int p0, .int p1, .ref r0])).length) Slot.unset).toArray = ls at hl ⊢
  have hl : lv_has ls 3 [(0, .int p0), (1, .int p1), (2, .ref r0)] := hl
  unfold F_J3_checkIndexN at hF
  refine lv_iload_n hx hb dJ3_checkIndex_8e157_0 rfl (lv_at hl 0 rfl) ?_
  refine lv_if_lt (tgt := 9) hx hb dJ3_checkIndex_8e157_1 (by decide) (fun zc1 => ?_) (fun zc1 => ?_)
  · have hF := z_pos hF zc1
    exact absurd hF (by simp)
  · have hF := z_neg hF zc1
    refine lv_iload_n hx hb dJ3_checkIndex_8e157_4 rfl (lv_at hl 0 rfl) ?_
    refine lv_iload_n hx hb dJ3_checkIndex_8e157_5 rfl (lv_at hl 1 rfl) ?_
    refine lv_icmp_lt (tgt := 16) hx hb dJ3_checkIndex_8e157_6 (by decide) (fun zc2 => ?_) (fun zc2 => ?_)
    · have hF := z_pos hF zc2
      refine lv_iload_n hx hb dJ3_checkIndex_8e157_16 rfl (lv_at hl 0 rfl) ?_
      have ho := (Option.some.inj hF).symm
      exact W.iret (v := p0) hx hb hr (fun t ht hW => ⟨⟨p0, (), rfl, ho, z_end ht hP⟩, hS.F ht⟩) hS.2.2 dJ3_checkIndex_8e157_17
    · have hF := z_neg hF zc2
      exact absurd hF (by simp)
