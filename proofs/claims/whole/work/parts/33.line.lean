abbrev w_X4_put : List Cond := .code yX4_put cX4_put 2 none :: wU
abbrev r_X4_put : Room := { frames := 0, cells := 0, slots := 0, locals := 0 }
abbrev q_X4_put (g : GG) (e0 e1 : Nat) (lch : Nat → Int32) (llen : Int32) (o : (Nat → Int32) × Int32) (A : Nat → Prop) := va_Qv (fun (u : (Nat → Int32) × Int32) => o = u) (fun u t => va_P (gD g) zCl (wLine g e0 e1 u.1 u.2) t.heap) A
set_option maxHeartbeats 4000000 in
set_option maxRecDepth 100000 in
theorem c_X4_put (l : Launch) (g : GG) (e0 e1 : Nat) (lch : Nat → Int32) (llen : Int32) (sz : Nat) (p1 : Int32) (o : (Nat → Int32) × Int32) (hF : F_X4_put lch llen p1 = some o) : Met l yX4_put w_X4_put r_X4_put (va_Pc [.ref e0, .int p1] (zP g (wLine g e0 e1 lch llen) sz)) (q_X4_put g e0 e1 lch llen o (va_A (wLine g e0 e1 lch llen) sz)) 0 0 (va_A (wLine g e0 e1 lch llen) sz) := by
  refine Met.ofW (cc := cX4_put) (maxL := 2) (ret := none) (by decide) rfl ?_
  intro p e s m args below meth c s₁ B hml hv
  obtain ⟨rfl, rfl, hP, hK, hD0, hB⟩ := hv
  have hx := B.exec
  have hb := B.bytes
  have hr := B.returns
  have hts : ∀ w ∈ wU, w.before _ s = true := fun w h => atoms_spec (ws := w_X4_put) B.pre w (List.mem_cons_of_mem _ h)
  have hown : s.vm.findClass RX4 = some m.cls := findClass_of_methodNamed B.named
  have hlocks := B.notSynchronized
  have hD := hD0.self (sz := s.heap.size)
  generalize hAe : va_A (wLine g e0 e1 lch llen) s.heap.size = A at hD hB ⊢
  have hA : ∀ q : Nat, s.heap.size ≤ q → A q := fun q h => by rw [← hAe]; exact Or.inr h
  have hS : va_S A s.heap s.heap [] := va_S.rf
  have hl := lv_entry ([.ref e0, .int p1]) (n := 2) (Nat.le_of_ble_eq_true rfl)
  rw [lg_entry_eq]
  generalize (lg_sl ([.ref e0, .int p1]) ++ List.replicate (2 - (lg_sl ([.ref e0, .int p1])).length) Slot.unset).toArray = ls at hl ⊢
  have hl : lv_has ls 2 [(0, .ref e0), (1, .int p1)] := hl
  unfold F_X4_put at hF
  refine lv_aload_n hx hb dX4_put_0 rfl (lv_at hl 0 rfl) ?_
  refine va_get (D := gD g) (ci := 2) (v := .int llen) (C := RX4) (T := TX4) (N := 2) hx hb hts inX4 hown hK hP 0 rfl rfl 1 (by decide) (hts _ mU_270) (fun _ h9 => h9) rfl dX4_put_1 ?_
  refine lv_bipush (v := 64) hx hb dX4_put_4 (by decide) ?_
  refine lv_icmp_ge (tgt := 29) hx hb dX4_put_6 (by decide) (fun zc1 => ?_) (fun zc1 => ?_)
  · have hF := z_pos hF zc1
    have ho := (Option.some.inj hF).symm
    exact W.vret hx hb hr (fun t ht hW => ⟨⟨(lch, llen), rfl, ho, z_end ht hP⟩, hS.F ht⟩) hS.2.2 dX4_put_29
  · have hF := z_neg hF zc1
    refine lv_aload_n hx hb dX4_put_9 rfl (lv_at hl 0 rfl) ?_
    refine va_get (D := gD g) (ci := 2) (v := .ref e1) (C := RX4) (T := TX4) (N := 2) hx hb hts inX4 hown hK hP 0 rfl rfl 0 (by decide) (hts _ mU_268) (fun _ h9 => h9) rfl dX4_put_10 ?_
    refine lv_aload_n hx hb dX4_put_13 rfl (lv_at hl 0 rfl) ?_
    refine va_get (D := gD g) (ci := 2) (v := .int llen) (C := RX4) (T := TX4) (N := 2) hx hb hts inX4 hown hK hP 0 rfl rfl 1 (by decide) (hts _ mU_270) (fun _ h9 => h9) rfl dX4_put_14 ?_
    refine lv_iload_n hx hb dX4_put_17 rfl (lv_at hl 1 rfl) ?_
    obtain ⟨zg2, hF⟩ := z_grd hF
    refine va_cast hx hb hK hP hD hS 1 0 rfl rfl zg2 dX4_put_18 (fun H locs hP hD hS => ?_)
    have hP : va_P (gD g) zCl (wLine g e0 e1 (upd lch (Int32.toNatClampNeg llen) (vp_nar .char p1)) llen) H := hP
    have hD : va_D A (wLine g e0 e1 (upd lch (Int32.toNatClampNeg llen) (vp_nar .char p1)) llen) := hD
    refine lv_aload_n hx hb dX4_put_19 rfl (lv_at hl 0 rfl) ?_
    refine lv_dup hx hb dX4_put_20 rfl ?_
    refine va_get (D := gD g) (ci := 2) (v := .int llen) (C := RX4) (T := TX4) (N := 2) hx hb hts inX4 hown hK hP 0 rfl rfl 1 (by decide) (hts _ mU_270) (fun _ h9 => h9) rfl dX4_put_21 ?_
    refine lv_iconst (v := 1) hx hb dX4_put_24 (by decide) ?_
    refine lv_iadd hx hb dX4_put_25 ?_
    refine va_put (D := gD g) (ci := 2) (v := .int (llen + 1)) (ty := .int) (C := RX4) (T := TX4) (N := 2) hx hb hts inX4 tyX4 tyX4_ok nmX4 hown hK hP hD hS 0 rfl rfl 1 (by decide) (hts _ mU_270) (fun _ h9 => h9) rfl (by decide +kernel) rfl rfl (Nat.le_of_ble_eq_true rfl) dX4_put_26 (fun H locs hP hD hS => ?_)
    have hP : va_P (gD g) zCl (wLine g e0 e1 (upd lch (Int32.toNatClampNeg llen) (vp_nar .char p1)) (llen + 1)) H := hP
    have hD : va_D A (wLine g e0 e1 (upd lch (Int32.toNatClampNeg llen) (vp_nar .char p1)) (llen + 1)) := hD
    have ho := (Option.some.inj hF).symm
    exact W.vret hx hb hr (fun t ht hW => ⟨⟨((upd lch (Int32.toNatClampNeg llen) (vp_nar .char p1)), (llen + 1)), rfl, ho, z_end ht hP⟩, hS.F ht⟩) hS.2.2 dX4_put_29
abbrev w_X4_putDigit : List Cond := .code yX4_putDigit cX4_putDigit 2 none :: wU
abbrev r_X4_putDigit : Room := { frames := 1, cells := 0, slots := 0, locals := 21 }
abbrev q_X4_putDigit (g : GG) (e0 e1 : Nat) (lch : Nat → Int32) (llen : Int32) (o : (Nat → Int32) × Int32) (A : Nat → Prop) := va_Qv (fun (u : (Nat → Int32) × Int32) => o = u) (fun u t => va_P (gD g) zCl (wLine g e0 e1 u.1 u.2) t.heap) A
set_option maxHeartbeats 4000000 in
set_option maxRecDepth 100000 in
theorem c_X4_putDigit (l : Launch) (g : GG) (e0 e1 : Nat) (lch : Nat → Int32) (llen : Int32) (sz : Nat) (p1 : Int32) (o : (Nat → Int32) × Int32) (hF : F_X4_putDigit lch llen p1 = some o) : Met l yX4_putDigit w_X4_putDigit r_X4_putDigit (va_Pc [.ref e0, .int p1] (zP g (wLine g e0 e1 lch llen) sz)) (q_X4_putDigit g e0 e1 lch llen o (va_A (wLine g e0 e1 lch llen) sz)) 0 0 (va_A (wLine g e0 e1 lch llen) sz) := by
  refine Met.ofW (cc := cX4_putDigit) (maxL := 2) (ret := none) (by decide) rfl ?_
  intro p e s m args below meth c s₁ B hml hv
  obtain ⟨rfl, rfl, hP, hK, hD0, hB⟩ := hv
  have hx := B.exec
  have hb := B.bytes
  have hr := B.returns
  have hts : ∀ w ∈ wU, w.before _ s = true := fun w h => atoms_spec (ws := w_X4_putDigit) B.pre w (List.mem_cons_of_mem _ h)
  have hown : s.vm.findClass RX4 = some m.cls := findClass_of_methodNamed B.named
  have hlocks := B.notSynchronized
  have hD := hD0.self (sz := s.heap.size)
  generalize hAe : va_A (wLine g e0 e1 lch llen) s.heap.size = A at hD hB ⊢
  have hA : ∀ q : Nat, s.heap.size ≤ q → A q := fun q h => by rw [← hAe]; exact Or.inr h
  have hS : va_S A s.heap s.heap [] := va_S.rf
  have hl := lv_entry ([.ref e0, .int p1]) (n := 2) (Nat.le_of_ble_eq_true rfl)
  rw [lg_entry_eq]
  generalize (lg_sl ([.ref e0, .int p1]) ++ List.replicate (2 - (lg_sl ([.ref e0, .int p1])).length) Slot.unset).toArray = ls at hl ⊢
  have hl : lv_has ls 2 [(0, .ref e0), (1, .int p1)] := hl
  unfold F_X4_putDigit at hF
  refine lv_aload_n hx hb dX4_putDigit_0 rfl (lv_at hl 0 rfl) ?_
  refine lv_bipush (v := 48) hx hb dX4_putDigit_1 (by decide) ?_
  refine lv_iload_n hx hb dX4_putDigit_3 rfl (lv_at hl 1 rfl) ?_
  refine lv_iadd hx hb dX4_putDigit_4 ?_
  refine lv_i2c (v := (zchar (48 + p1))) hx hb dX4_putDigit_5 rfl ?_
  obtain ⟨zo1, hzo1, hF⟩ := z_bind hF
  refine z_callvE (fun (u : (Nat → Int32) × Int32) => (wLine g e0 e1 u.1 u.2)) (va_runV (As := [.int (zchar (48 + p1))]) (rest := []) ⟨hx, hb, hml, hown, hts⟩ (c_X4_put l g e0 e1 lch llen _ (zchar (48 + p1)) _ hzo1) (cwV 1 hts (gdV mU_1192 mU_1193 mU_1194 mU_74 mU_1195) rfl rfl rfl (by decide +kernel) ⟨Nat.le_of_ble_eq_true rfl, Nat.le_of_ble_eq_true rfl⟩) ⟨z_blind _ _ _ _, va_recv hK hP (ci := 2) (q0 := 0) rfl rfl, fun U hU hW => z_preE hP hD hK hB hS hA hU hW⟩ rfl rfl hl.1 rfl (lv_room (Nat.le_of_ble_eq_true rfl)) dX4_putDigit_6 ⟨Nat.le_of_ble_eq_true rfl, Nat.le_of_ble_eq_true rfl⟩) hD hS hA (fun _ => rfl) (fun u H locs hw hP hD hS => ?_)
  subst hw
  have hP : va_P (gD g) zCl (wLine g e0 e1 zo1.1 zo1.2) H := hP
  have hD : va_D A (wLine g e0 e1 zo1.1 zo1.2) := hD
  have ho := (Option.some.inj hF).symm
  exact W.vret hx hb hr (fun t ht hW => ⟨⟨(zo1.1, zo1.2), rfl, ho, z_end ht hP⟩, hS.F ht⟩) hS.2.2 dX4_putDigit_9
abbrev w_X4_putWhole : List Cond := .code yX4_putWhole cX4_putWhole 6 none :: wU
abbrev r_X4_putWhole : Room := { frames := 2, cells := 0, slots := 0, locals := 42 }
abbrev q_X4_putWhole (g : GG) (e0 e1 : Nat) (lch : Nat → Int32) (llen : Int32) (o : (Nat → Int32) × Int32) (A : Nat → Prop) := va_Qv (fun (u : (Nat → Int32) × Int32) => o = u) (fun u t => va_P (gD g) zCl (wLine g e0 e1 u.1 u.2) t.heap) A
set_option maxHeartbeats 4000000 in
set_option maxRecDepth 100000 in
theorem c_X4_putWhole (l : Launch) (g : GG) (e0 e1 : Nat) (lch : Nat → Int32) (llen : Int32) (sz : Nat) (p1 : Int64) (fu : Nat) (o : (Nat → Int32) × Int32) (hF : F_X4_putWhole fu lch llen p1 = some o) : Met l yX4_putWhole w_X4_putWhole r_X4_putWhole (va_Pc [.ref e0, .long p1] (zP g (wLine g e0 e1 lch llen) sz)) (q_X4_putWhole g e0 e1 lch llen o (va_A (wLine g e0 e1 lch llen) sz)) 0 0 (va_A (wLine g e0 e1 lch llen) sz) := by
  refine Met.ofW (cc := cX4_putWhole) (maxL := 6) (ret := none) (by decide) rfl ?_
  intro p e s m args below meth c s₁ B hml hv
  obtain ⟨rfl, rfl, hP, hK, hD0, hB⟩ := hv
  have hx := B.exec
  have hb := B.bytes
  have hr := B.returns
  have hts : ∀ w ∈ wU, w.before _ s = true := fun w h => atoms_spec (ws := w_X4_putWhole) B.pre w (List.mem_cons_of_mem _ h)
  have hown : s.vm.findClass RX4 = some m.cls := findClass_of_methodNamed B.named
  have hlocks := B.notSynchronized
  have hD := hD0.self (sz := s.heap.size)
  generalize hAe : va_A (wLine g e0 e1 lch llen) s.heap.size = A at hD hB ⊢
  have hA : ∀ q : Nat, s.heap.size ≤ q → A q := fun q h => by rw [← hAe]; exact Or.inr h
  have hS : va_S A s.heap s.heap [] := va_S.rf
  have hl := lv_entry ([.ref e0, .long p1]) (n := 6) (Nat.le_of_ble_eq_true rfl)
  rw [lg_entry_eq]
  generalize (lg_sl ([.ref e0, .long p1]) ++ List.replicate (6 - (lg_sl ([.ref e0, .long p1])).length) Slot.unset).toArray = ls at hl ⊢
  have hl : lv_has ls 6 [(0, .ref e0), (1, .long p1)] := hl
  unfold F_X4_putWhole at hF
  have K6 : ∀ (n6 : Nat) (lch : Nat → Int32) (llen : Int32) (x3 : Int32) (x4 : Int32), F_X4_putWhole_6 fu n6 lch llen p1 x3 x4 = some o → ∀ (H : Heap) (locs : List Loc) (ls : Array Slot), lv_has ls 6 [(0, .ref e0), (1, .long p1), (3, .int x3), (4, .int x4)] → va_P (gD g) zCl (wLine g e0 e1 lch llen) H → va_D A (wLine g e0 e1 lch llen) → va_S A s.heap H locs → W p l e (headSpec w_X4_putWhole r_X4_putWhole).room s m ([.ref e0, .long p1] : List Value).toArray below meth c H locs 0 0 (MQ below (q_X4_putWhole g e0 e1 lch llen o A) ([.ref e0, .long p1] : List Value).toArray s 0 0 A) (F0 m 6 ls []) := by
    intro n6
    induction n6 with
    | zero =>
      intro lch llen x3 x4 hF
      exact absurd hF (by simp [F_X4_putWhole_6])
    | succ n6 ih6 =>
      have K37 : ∀ (_ : Unit) (lch : Nat → Int32) (llen : Int32) (x4 : Int32) (x5 : Int32), F_X4_putWhole_37 (F_X4_putWhole_6 fu n6) fu lch llen p1 x4 x5 = some o → ∀ (H : Heap) (locs : List Loc) (ls : Array Slot), lv_has ls 6 [(0, .ref e0), (1, .long p1), (4, .int x4), (5, .int x5)] → va_P (gD g) zCl (wLine g e0 e1 lch llen) H → va_D A (wLine g e0 e1 lch llen) → va_S A s.heap H locs → W p l e (headSpec w_X4_putWhole r_X4_putWhole).room s m ([.ref e0, .long p1] : List Value).toArray below meth c H locs 0 0 (MQ below (q_X4_putWhole g e0 e1 lch llen o A) ([.ref e0, .long p1] : List Value).toArray s 0 0 A) (F0 m 37 ls []) := by
        intro _ lch llen x4 x5 hF H locs ls hl hP hD hS
        unfold F_X4_putWhole_37 at hF
        refine lv_iconst (v := 0) hx hb dX4_putWhole_37 (by decide) ?_
        refine lv_istore_n (lv' := [(3, .int 0), (0, .ref e0), (1, .long p1), (4, .int x4), (5, .int x5)]) hx hb dX4_putWhole_38 rfl hl (by decide) rfl (fun ls hl => ?_)
        refine lv_iload_n hx hb dX4_putWhole_39 rfl (lv_at hl 0 rfl) ?_
        refine lv_if_ne (tgt := 49) hx hb dX4_putWhole_40 (by decide) (fun zc => absurd zc (by decide)) (fun _ => ?_)
        refine lv_aload_n hx hb dX4_putWhole_43 rfl (lv_at hl 1 rfl) ?_
        refine lv_iload hx hb dX4_putWhole_44 (lv_at hl 4 rfl) ?_
        obtain ⟨zo1, hzo1, hF⟩ := z_bind hF
        refine z_callvE (fun (u : (Nat → Int32) × Int32) => (wLine g e0 e1 u.1 u.2)) (va_runV (As := [.int x5]) (rest := []) ⟨hx, hb, hml, hown, hts⟩ (c_X4_putDigit l g e0 e1 lch llen _ x5 _ hzo1) (cwV 1 hts (gdV mU_1188 mU_1189 mU_1190 mU_74 mU_1191) rfl rfl rfl (by decide +kernel) ⟨Nat.le_of_ble_eq_true rfl, Nat.le_of_ble_eq_true rfl⟩) ⟨z_blind _ _ _ _, va_recv hK hP (ci := 2) (q0 := 0) rfl rfl, fun U hU hW => z_preE hP hD hK hB hS hA hU hW⟩ rfl rfl hl.1 rfl (lv_room (Nat.le_of_ble_eq_true rfl)) dX4_putWhole_46 ⟨Nat.le_of_ble_eq_true rfl, Nat.le_of_ble_eq_true rfl⟩) hD hS hA (fun _ => rfl) (fun u H locs hw hP hD hS => ?_)
        subst hw
        have hP : va_P (gD g) zCl (wLine g e0 e1 zo1.1 zo1.2) H := hP
        have hD : va_D A (wLine g e0 e1 zo1.1 zo1.2) := hD
        obtain ⟨zv2, ezv2, hF⟩ := z_let hF
        refine lv_iinc (v := zv2) (lv' := [(4, .int zv2), (3, .int 0), (0, .ref e0), (1, .long p1), (5, .int x5)]) hx hb dX4_putWhole_49 hl (k := 3) rfl (by rw [ezv2]; rfl) (by decide) rfl (fun ls hl => ?_)
        refine lv_goto (tgt := 6) hx hb dX4_putWhole_52 (by decide) ?_
        exact ih6 zo1.1 zo1.2 0 zv2 hF _ _ _ (lv_sub hl [2, 3, 1, 0] rfl) hP hD hS
      intro lch llen x3 x4 hF H locs ls hl hP hD hS
      unfold F_X4_putWhole_6 at hF
      refine lv_iload hx hb dX4_putWhole_6 (lv_at hl 3 rfl) ?_
      refine lv_if_lt (tgt := 55) hx hb dX4_putWhole_8 (by decide) (fun zc3 => ?_) (fun zc3 => ?_)
      · have hF := z_pos hF zc3
        have ho := (Option.some.inj hF).symm
        exact W.vret hx hb hr (fun t ht hW => ⟨⟨(lch, llen), rfl, ho, z_end ht hP⟩, hS.F ht⟩) hS.2.2 dX4_putWhole_55
      · have hF := z_neg hF zc3
        refine lv_lload_n hx hb dX4_putWhole_11 rfl (lv_at hl 1 rfl) ?_
        refine lv_iload hx hb dX4_putWhole_12 (lv_at hl 3 rfl) ?_
        obtain ⟨zo4, hzo4, hF⟩ := z_bind hF
        refine z_calli (fun (_ : Unit) => []) [] (va_runSN (As := [.long p1, .int x4]) (rest := []) ⟨hx, hb, hml, hown, hts⟩ (c_X10_digitAt l g _ p1 x4 fu _ hzo4) ⟨va_cnB 2 hts (gdU mU_408) rfl rfl rfl (hB.2.1.1 _ zn_1187) (hts _ mU_66) (by decide +kernel) ⟨Nat.le_of_ble_eq_true rfl, Nat.le_of_ble_eq_true rfl⟩, hts _ mU_407, trivial⟩ ⟨z_blind _ _ _ _, fun U hU hW => z_pre [] hP hD hK hB hS hA rfl rfl hU hW⟩ rfl rfl hl.1 rfl (lv_room (Nat.le_of_ble_eq_true rfl)) dX4_putWhole_14 ⟨Nat.le_of_ble_eq_true rfl, Nat.le_of_ble_eq_true rfl⟩) hP hD hS hA rfl (fun _ => rfl) (fun r u H locs hw hP hD hS => ?_)
        subst hw
        have hP : va_P (gD g) zCl (wLine g e0 e1 lch llen) H := hP
        have hD : va_D A (wLine g e0 e1 lch llen) := hD
        refine lv_istore (lv' := [(5, .int zo4), (0, .ref e0), (1, .long p1), (3, .int x3), (4, .int x4)]) hx hb dX4_putWhole_17 hl (by decide) rfl (fun ls hl => ?_)
        refine lv_iload_n hx hb dX4_putWhole_19 rfl (lv_at hl 3 rfl) ?_
        refine lv_if_eq (tgt := 37) hx hb dX4_putWhole_20 (by decide) (fun zc5 => ?_) (fun zc5 => ?_)
        · have hF := z_pos hF zc5
          exact K37 () lch llen x4 zo4 hF _ _ _ (lv_sub hl [1, 2, 4, 0] rfl) hP hD hS
        · have hF := z_neg hF zc5
          refine lv_iload hx hb dX4_putWhole_23 (lv_at hl 0 rfl) ?_
          refine lv_if_ne (tgt := 37) hx hb dX4_putWhole_25 (by decide) (fun zc6 => ?_) (fun zc6 => ?_)
          · have hF := z_neg hF zc6
            exact K37 () lch llen x4 zo4 hF _ _ _ (lv_sub hl [1, 2, 4, 0] rfl) hP hD hS
          · have hF := z_pos hF zc6
            refine lv_iload hx hb dX4_putWhole_28 (lv_at hl 4 rfl) ?_
            refine lv_if_le (tgt := 37) hx hb dX4_putWhole_30 (by decide) (fun zc7 => ?_) (fun zc7 => ?_)
            · have hF := z_pos hF zc7
              exact K37 () lch llen x4 zo4 hF _ _ _ (lv_sub hl [1, 2, 4, 0] rfl) hP hD hS
            · have hF := z_neg hF zc7
              refine lv_iconst (v := 1) hx hb dX4_putWhole_33 (by decide) ?_
              refine lv_goto (tgt := 38) hx hb dX4_putWhole_34 (by decide) ?_
              refine lv_istore_n (lv' := [(3, .int 1), (5, .int zo4), (0, .ref e0), (1, .long p1), (4, .int x4)]) hx hb dX4_putWhole_38 rfl hl (by decide) rfl (fun ls hl => ?_)
              refine lv_iload_n hx hb dX4_putWhole_39 rfl (lv_at hl 0 rfl) ?_
              refine lv_if_ne (tgt := 49) hx hb dX4_putWhole_40 (by decide) (fun _ => ?_) (fun zc => absurd zc (by decide))
              obtain ⟨zv8, ezv8, hF⟩ := z_let hF
              refine lv_iinc (v := zv8) (lv' := [(4, .int zv8), (3, .int 1), (5, .int zo4), (0, .ref e0), (1, .long p1)]) hx hb dX4_putWhole_49 hl (k := 4) rfl (by rw [ezv8]; rfl) (by decide) rfl (fun ls hl => ?_)
              refine lv_goto (tgt := 6) hx hb dX4_putWhole_52 (by decide) ?_
              exact ih6 lch llen 1 zv8 hF _ _ _ (lv_sub hl [3, 4, 1, 0] rfl) hP hD hS
  refine lv_iconst (v := 1) hx hb dX4_putWhole_0 (by decide) ?_
  refine lv_istore_n (lv' := [(3, .int 1), (0, .ref e0), (1, .long p1)]) hx hb dX4_putWhole_1 rfl hl (by decide) rfl (fun ls hl => ?_)
  refine lv_bipush (v := 9) hx hb dX4_putWhole_2 (by decide) ?_
  refine lv_istore (lv' := [(4, .int 9), (3, .int 1), (0, .ref e0), (1, .long p1)]) hx hb dX4_putWhole_4 hl (by decide) rfl (fun ls hl => ?_)
  exact K6 fu lch llen 1 9 hF _ _ _ (lv_sub hl [2, 3, 1, 0] rfl) hP hD hS
abbrev w_X4_putQuotientDigits : List Cond := .code yX4_putQuotientDigits cX4_putQuotientDigits 6 (some .int) :: wU
abbrev r_X4_putQuotientDigits : Room := { frames := 2, cells := 0, slots := 0, locals := 42 }
abbrev q_X4_putQuotientDigits (g : GG) (e0 e1 : Nat) (lch : Nat → Int32) (llen : Int32) (o : Int32 × (Nat → Int32) × Int32) (A : Nat → Prop) := va_Qi (fun (r : Int32) (u : (Nat → Int32) × Int32) => o.1 = r ∧ o.2 = u) (fun u t => va_P (gD g) zCl (wLine g e0 e1 u.1 u.2) t.heap) A
set_option maxHeartbeats 4000000 in
set_option maxRecDepth 100000 in
theorem c_X4_putQuotientDigits (l : Launch) (g : GG) (e0 e1 : Nat) (lch : Nat → Int32) (llen : Int32) (sz : Nat) (p1 : Int32) (p2 : Int32) (p3 : Int32) (fu : Nat) (o : Int32 × (Nat → Int32) × Int32) (hF : F_X4_putQuotientDigits fu lch llen p1 p2 p3 = some o) : Met l yX4_putQuotientDigits w_X4_putQuotientDigits r_X4_putQuotientDigits (va_Pc [.ref e0, .int p1, .int p2, .int p3] (zP g (wLine g e0 e1 lch llen) sz)) (q_X4_putQuotientDigits g e0 e1 lch llen o (va_A (wLine g e0 e1 lch llen) sz)) 0 0 (va_A (wLine g e0 e1 lch llen) sz) := by
  refine Met.ofW (cc := cX4_putQuotientDigits) (maxL := 6) (ret := (some .int)) (by decide) rfl ?_
  intro p e s m args below meth c s₁ B hml hv
  obtain ⟨rfl, rfl, hP, hK, hD0, hB⟩ := hv
  have hx := B.exec
  have hb := B.bytes
  have hr := B.returns
  have hts : ∀ w ∈ wU, w.before _ s = true := fun w h => atoms_spec (ws := w_X4_putQuotientDigits) B.pre w (List.mem_cons_of_mem _ h)
  have hown : s.vm.findClass RX4 = some m.cls := findClass_of_methodNamed B.named
  have hlocks := B.notSynchronized
  have hD := hD0.self (sz := s.heap.size)
  generalize hAe : va_A (wLine g e0 e1 lch llen) s.heap.size = A at hD hB ⊢
  have hA : ∀ q : Nat, s.heap.size ≤ q → A q := fun q h => by rw [← hAe]; exact Or.inr h
  have hS : va_S A s.heap s.heap [] := va_S.rf
  have hl := lv_entry ([.ref e0, .int p1, .int p2, .int p3]) (n := 6) (Nat.le_of_ble_eq_true rfl)
  rw [lg_entry_eq]
  generalize (lg_sl ([.ref e0, .int p1, .int p2, .int p3]) ++ List.replicate (6 - (lg_sl ([.ref e0, .int p1, .int p2, .int p3])).length) Slot.unset).toArray = ls at hl ⊢
  have hl : lv_has ls 6 [(0, .ref e0), (1, .int p1), (2, .int p2), (3, .int p3)] := hl
  unfold F_X4_putQuotientDigits at hF
  have K6 : ∀ (n6 : Nat) (lch : Nat → Int32) (llen : Int32) (x4 : Int32) (x5 : Int32), F_X4_putQuotientDigits_6 fu n6 lch llen p2 p3 x4 x5 = some o → ∀ (H : Heap) (locs : List Loc) (ls : Array Slot), lv_has ls 6 [(0, .ref e0), (2, .int p2), (3, .int p3), (4, .int x4), (5, .int x5)] → va_P (gD g) zCl (wLine g e0 e1 lch llen) H → va_D A (wLine g e0 e1 lch llen) → va_S A s.heap H locs → W p l e (headSpec w_X4_putQuotientDigits r_X4_putQuotientDigits).room s m ([.ref e0, .int p1, .int p2, .int p3] : List Value).toArray below meth c H locs 0 0 (MQ below (q_X4_putQuotientDigits g e0 e1 lch llen o A) ([.ref e0, .int p1, .int p2, .int p3] : List Value).toArray s 0 0 A) (F0 m 6 ls []) := by
    intro n6
    induction n6 with
    | zero =>
      intro lch llen x4 x5 hF
      exact absurd hF (by simp [F_X4_putQuotientDigits_6])
    | succ n6 ih6 =>
      intro lch llen x4 x5 hF H locs ls hl hP hD hS
      unfold F_X4_putQuotientDigits_6 at hF
      refine lv_iload hx hb dX4_putQuotientDigits_6 (lv_at hl 4 rfl) ?_
      refine lv_iload_n hx hb dX4_putQuotientDigits_8 rfl (lv_at hl 2 rfl) ?_
      refine lv_icmp_ge (tgt := 38) hx hb dX4_putQuotientDigits_9 (by decide) (fun zc1 => ?_) (fun zc1 => ?_)
      · have hF := z_pos hF zc1
        refine lv_iload hx hb dX4_putQuotientDigits_38 (lv_at hl 3 rfl) ?_
        have ho := (Option.some.inj hF).symm
        exact W.iret (v := x4) hx hb hr (fun t ht hW => ⟨⟨x4, (lch, llen), rfl, ⟨by rw [ho], by rw [ho]⟩, z_end ht hP⟩, hS.F ht⟩) hS.2.2 dX4_putQuotientDigits_40
      · have hF := z_neg hF zc1
        refine lv_aload_n hx hb dX4_putQuotientDigits_12 rfl (lv_at hl 0 rfl) ?_
        refine lv_iload hx hb dX4_putQuotientDigits_13 (lv_at hl 3 rfl) ?_
        refine lv_bipush (v := 10) hx hb dX4_putQuotientDigits_15 (by decide) ?_
        refine lv_imul hx hb dX4_putQuotientDigits_17 ?_
        refine lv_iload_n hx hb dX4_putQuotientDigits_18 rfl (lv_at hl 1 rfl) ?_
        obtain ⟨zg2, hF⟩ := z_grd hF
        refine lv_idiv hx hb dX4_putQuotientDigits_19 zg2 ?_
        obtain ⟨zo3, hzo3, hF⟩ := z_bind hF
        refine z_callvE (fun (u : (Nat → Int32) × Int32) => (wLine g e0 e1 u.1 u.2)) (va_runV (As := [.int ((x4 * 10) / p2)]) (rest := []) ⟨hx, hb, hml, hown, hts⟩ (c_X4_putDigit l g e0 e1 lch llen _ ((x4 * 10) / p2) _ hzo3) (cwV 1 hts (gdV mU_1188 mU_1189 mU_1190 mU_74 mU_1191) rfl rfl rfl (by decide +kernel) ⟨Nat.le_of_ble_eq_true rfl, Nat.le_of_ble_eq_true rfl⟩) ⟨z_blind _ _ _ _, va_recv hK hP (ci := 2) (q0 := 0) rfl rfl, fun U hU hW => z_preE hP hD hK hB hS hA hU hW⟩ rfl rfl hl.1 rfl (lv_room (Nat.le_of_ble_eq_true rfl)) dX4_putQuotientDigits_20 ⟨Nat.le_of_ble_eq_true rfl, Nat.le_of_ble_eq_true rfl⟩) hD hS hA (fun _ => rfl) (fun u H locs hw hP hD hS => ?_)
        subst hw
        have hP : va_P (gD g) zCl (wLine g e0 e1 zo3.1 zo3.2) H := hP
        have hD : va_D A (wLine g e0 e1 zo3.1 zo3.2) := hD
        refine lv_iload hx hb dX4_putQuotientDigits_23 (lv_at hl 3 rfl) ?_
        refine lv_bipush (v := 10) hx hb dX4_putQuotientDigits_25 (by decide) ?_
        refine lv_imul hx hb dX4_putQuotientDigits_27 ?_
        refine lv_iload_n hx hb dX4_putQuotientDigits_28 rfl (lv_at hl 1 rfl) ?_
        obtain ⟨zg4, hF⟩ := z_grd hF
        refine lv_irem hx hb dX4_putQuotientDigits_29 zg4 ?_
        obtain ⟨zv5, ezv5, hF⟩ := z_let hF
        refine z_topi ezv5 ?_
        refine lv_istore (lv' := [(4, .int zv5), (0, .ref e0), (2, .int p2), (3, .int p3), (5, .int x5)]) hx hb dX4_putQuotientDigits_30 hl (by decide) rfl (fun ls hl => ?_)
        obtain ⟨zv6, ezv6, hF⟩ := z_let hF
        refine lv_iinc (v := zv6) (lv' := [(5, .int zv6), (4, .int zv5), (0, .ref e0), (2, .int p2), (3, .int p3)]) hx hb dX4_putQuotientDigits_32 hl (k := 4) rfl (by rw [ezv6]; rfl) (by decide) rfl (fun ls hl => ?_)
        refine lv_goto (tgt := 6) hx hb dX4_putQuotientDigits_35 (by decide) ?_
        exact ih6 zo3.1 zo3.2 zv5 zv6 hF _ _ _ (lv_sub hl [2, 3, 4, 1, 0] rfl) hP hD hS
  refine lv_iload_n hx hb dX4_putQuotientDigits_0 rfl (lv_at hl 1 rfl) ?_
  refine lv_istore (lv' := [(4, .int p1), (0, .ref e0), (1, .int p1), (2, .int p2), (3, .int p3)]) hx hb dX4_putQuotientDigits_1 hl (by decide) rfl (fun ls hl => ?_)
  refine lv_iconst (v := 0) hx hb dX4_putQuotientDigits_3 (by decide) ?_
  refine lv_istore (lv' := [(5, .int 0), (4, .int p1), (0, .ref e0), (1, .int p1), (2, .int p2), (3, .int p3)]) hx hb dX4_putQuotientDigits_4 hl (by decide) rfl (fun ls hl => ?_)
  exact K6 fu lch llen p1 0 hF _ _ _ (lv_sub hl [2, 4, 5, 1, 0] rfl) hP hD hS
