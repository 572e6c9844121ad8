abbrev w_X6_isFull : List Cond := .code yX6_isFull cX6_isFull 1 (some .boolean) :: wU
abbrev r_X6_isFull : Room := { frames := 0, cells := 0, slots := 0, locals := 0 }
abbrev q_X6_isFull (g : GG) (t0 t1 t2 : Nat) (ptx : Nat → Int32) (plen : Int32) (ppos : Int32) (pcnt : Int32) (o : Int32) (A : Nat → Prop) := va_Qi (fun (r : Int32) (u : Unit) => o = r) (fun u t => va_P (gD g) zCl (wPT g t0 t1 t2 ptx plen ppos pcnt) t.heap) A
set_option maxHeartbeats 4000000 in
set_option maxRecDepth 100000 in
theorem c_X6_isFull (l : Launch) (g : GG) (t0 t1 t2 : Nat) (ptx : Nat → Int32) (plen : Int32) (ppos : Int32) (pcnt : Int32) (sz : Nat) (o : Int32) (hF : F_X6_isFull plen = some o) : Met l yX6_isFull w_X6_isFull r_X6_isFull (va_Pc [.ref t0] (zP g (wPT g t0 t1 t2 ptx plen ppos pcnt) sz)) (q_X6_isFull g t0 t1 t2 ptx plen ppos pcnt o (va_A (wPT g t0 t1 t2 ptx plen ppos pcnt) sz)) 0 0 (va_A (wPT g t0 t1 t2 ptx plen ppos pcnt) sz) := by
  refine Met.ofW (cc := cX6_isFull) (maxL := 1) (ret := (some .boolean)) (by decide) rfl ?_
  intro p e s m args below meth c s₁ B hml hv
  obtain ⟨rfl, rfl, hP, hK, hD0, hB⟩ := hv
  have hx := B.exec
  have hb := B.bytes
  have hr := B.returns
  have hts : ∀ w ∈ wU, w.before _ s = true := fun w h => atoms_spec (ws := w_X6_isFull) B.pre w (List.mem_cons_of_mem _ h)
  have hown : s.vm.findClass RX6 = some m.cls := findClass_of_methodNamed B.named
  have hlocks := B.notSynchronized
  have hD := hD0.self (sz := s.heap.size)
  generalize hAe : va_A (wPT g t0 t1 t2 ptx plen ppos pcnt) s.heap.size = A at hD hB ⊢
  have hA : ∀ q : Nat, s.heap.size ≤ q → A q := fun q h => by rw [← hAe]; exact Or.inr h
  have hS : va_S A s.heap s.heap [] := va_S.rf
  have hl := lv_entry ([.ref t0]) (n := 1) (Nat.le_of_ble_eq_true rfl)
  rw [lg_entry_eq]
  generalize (lg_sl ([.ref t0]) ++ List.replicate (1 - (lg_sl ([.ref t0])).length) Slot.unset).toArray = ls at hl ⊢
  have hl : lv_has ls 1 [(0, .ref t0)] := hl
  unfold F_X6_isFull at hF
  refine lv_aload_n hx hb dX6_isFull_0 rfl (lv_at hl 0 rfl) ?_
  refine va_get (D := gD g) (ci := 4) (v := .int plen) (C := RX6) (T := TX6) (N := 5) hx hb hts inX6 hown hK hP 0 rfl rfl 1 (by decide) (hts _ mU_243) (fun _ h9 => h9) rfl dX6_isFull_1 ?_
  refine lv_bipush (v := 60) hx hb dX6_isFull_4 (by decide) ?_
  refine lv_icmp_lt (tgt := 13) hx hb dX6_isFull_6 (by decide) (fun zc1 => ?_) (fun zc1 => ?_)
  · have hF := z_pos hF zc1
    refine lv_iconst (v := 0) hx hb dX6_isFull_13 (by decide) ?_
    have ho := (Option.some.inj hF).symm
    exact W.zret (v := 0) hx hb hr rfl (fun t ht hW => ⟨⟨0, (), rfl, ho, z_end ht hP⟩, hS.F ht⟩) hS.2.2 dX6_isFull_14
  · have hF := z_neg hF zc1
    refine lv_iconst (v := 1) hx hb dX6_isFull_9 (by decide) ?_
    refine lv_goto (tgt := 14) hx hb dX6_isFull_10 (by decide) ?_
    have ho := (Option.some.inj hF).symm
    exact W.zret (v := 1) hx hb hr rfl (fun t ht hW => ⟨⟨1, (), rfl, ho, z_end ht hP⟩, hS.F ht⟩) hS.2.2 dX6_isFull_14
abbrev w_X6_put : List Cond := .code yX6_put cX6_put 2 none :: wU
abbrev r_X6_put : Room := { frames := 0, cells := 0, slots := 0, locals := 0 }
abbrev q_X6_put (g : GG) (t0 t1 t2 : Nat) (ptx : Nat → Int32) (plen : Int32) (ppos : Int32) (pcnt : Int32) (o : (Nat → Int32) × Int32) (A : Nat → Prop) := va_Qv (fun (u : (Nat → Int32) × Int32) => o = u) (fun u t => va_P (gD g) zCl (wPT g t0 t1 t2 u.1 u.2 ppos pcnt) t.heap) A
set_option maxHeartbeats 4000000 in
set_option maxRecDepth 100000 in
theorem c_X6_put (l : Launch) (g : GG) (t0 t1 t2 : Nat) (ptx : Nat → Int32) (plen : Int32) (ppos : Int32) (pcnt : Int32) (sz : Nat) (p1 : Int32) (o : (Nat → Int32) × Int32) (hF : F_X6_put ptx plen p1 = some o) : Met l yX6_put w_X6_put r_X6_put (va_Pc [.ref t0, .int p1] (zP g (wPT g t0 t1 t2 ptx plen ppos pcnt) sz)) (q_X6_put g t0 t1 t2 ptx plen ppos pcnt o (va_A (wPT g t0 t1 t2 ptx plen ppos pcnt) sz)) 0 0 (va_A (wPT g t0 t1 t2 ptx plen ppos pcnt) sz) := by
  refine Met.ofW (cc := cX6_put) (maxL := 2) (ret := none) (by decide) rfl ?_
  intro p e s m args below meth c s₁ B hml hv
  obtain ⟨rfl, rfl, hP, hK, hD0, hB⟩ := hv
  have hx := B.exec
  have hb := B.bytes
  have hr := B.returns
  have hts : ∀ w ∈ wU, w.before _ s = true := fun w h => atoms_spec (ws := w_X6_put) B.pre w (List.mem_cons_of_mem _ h)
  have hown : s.vm.findClass RX6 = some m.cls := findClass_of_methodNamed B.named
  have hlocks := B.notSynchronized
  have hD := hD0.self (sz := s.heap.size)
  generalize hAe : va_A (wPT g t0 t1 t2 ptx plen ppos pcnt) s.heap.size = A at hD hB ⊢
  have hA : ∀ q : Nat, s.heap.size ≤ q → A q := fun q h => by rw [← hAe]; exact Or.inr h
  have hS : va_S A s.heap s.heap [] := va_S.rf
  have hl := lv_entry ([.ref t0, .int p1]) (n := 2) (Nat.le_of_ble_eq_true rfl)
  rw [lg_entry_eq]
  generalize (lg_sl ([.ref t0, .int p1]) ++ List.replicate (2 - (lg_sl ([.ref t0, .int p1])).length) Slot.unset).toArray = ls at hl ⊢
  have hl : lv_has ls 2 [(0, .ref t0), (1, .int p1)] := hl
  unfold F_X6_put at hF
  refine lv_aload_n hx hb dX6_put_0 rfl (lv_at hl 0 rfl) ?_
  refine va_get (D := gD g) (ci := 4) (v := .ref t1) (C := RX6) (T := TX6) (N := 5) hx hb hts inX6 hown hK hP 0 rfl rfl 0 (by decide) (hts _ mU_242) (fun _ h9 => h9) rfl dX6_put_1 ?_
  refine lv_aload_n hx hb dX6_put_4 rfl (lv_at hl 0 rfl) ?_
  refine va_get (D := gD g) (ci := 4) (v := .int plen) (C := RX6) (T := TX6) (N := 5) hx hb hts inX6 hown hK hP 0 rfl rfl 1 (by decide) (hts _ mU_243) (fun _ h9 => h9) rfl dX6_put_5 ?_
  refine lv_iload_n hx hb dX6_put_8 rfl (lv_at hl 1 rfl) ?_
  obtain ⟨zg1, hF⟩ := z_grd hF
  refine va_cast hx hb hK hP hD hS 1 0 rfl rfl zg1 dX6_put_9 (fun H locs hP hD hS => ?_)
  have hP : va_P (gD g) zCl (wPT g t0 t1 t2 (upd ptx (Int32.toNatClampNeg plen) (vp_nar .char p1)) plen ppos pcnt) H := hP
  have hD : va_D A (wPT g t0 t1 t2 (upd ptx (Int32.toNatClampNeg plen) (vp_nar .char p1)) plen ppos pcnt) := hD
  refine lv_aload_n hx hb dX6_put_10 rfl (lv_at hl 0 rfl) ?_
  refine lv_dup hx hb dX6_put_11 rfl ?_
  refine va_get (D := gD g) (ci := 4) (v := .int plen) (C := RX6) (T := TX6) (N := 5) hx hb hts inX6 hown hK hP 0 rfl rfl 1 (by decide) (hts _ mU_243) (fun _ h9 => h9) rfl dX6_put_12 ?_
  refine lv_iconst (v := 1) hx hb dX6_put_15 (by decide) ?_
  refine lv_iadd hx hb dX6_put_16 ?_
  refine va_put (D := gD g) (ci := 4) (v := .int (plen + 1)) (ty := .int) (C := RX6) (T := TX6) (N := 5) hx hb hts inX6 tyX6 tyX6_ok nmX6 hown hK hP hD hS 0 rfl rfl 1 (by decide) (hts _ mU_243) (fun _ h9 => h9) rfl (by decide +kernel) rfl rfl (Nat.le_of_ble_eq_true rfl) dX6_put_17 (fun H locs hP hD hS => ?_)
  have hP : va_P (gD g) zCl (wPT g t0 t1 t2 (upd ptx (Int32.toNatClampNeg plen) (vp_nar .char p1)) (plen + 1) ppos pcnt) H := hP
  have hD : va_D A (wPT g t0 t1 t2 (upd ptx (Int32.toNatClampNeg plen) (vp_nar .char p1)) (plen + 1) ppos pcnt) := hD
  have ho := (Option.some.inj hF).symm
  exact W.vret hx hb hr (fun t ht hW => ⟨⟨((upd ptx (Int32.toNatClampNeg plen) (vp_nar .char p1)), (plen + 1)), rfl, ho, z_end ht hP⟩, hS.F ht⟩) hS.2.2 dX6_put_20
abbrev w_X6_readCharacter : List Cond := .code yX6_readCharacter cX6_readCharacter 2 (some .boolean) :: wU
abbrev r_X6_readCharacter : Room := { frames := 0, cells := 0, slots := 0, locals := 0 }
abbrev q_X6_readCharacter (g : GG) (t0 t1 t2 : Nat) (ptx : Nat → Int32) (plen : Int32) (ppos : Int32) (pcnt : Int32) (o : Int32 × Int32) (A : Nat → Prop) := va_Qi (fun (r : Int32) (u : Int32) => o.1 = r ∧ o.2 = u) (fun u t => va_P (gD g) zCl (wPT g t0 t1 t2 ptx plen u pcnt) t.heap) A
set_option maxHeartbeats 4000000 in
set_option maxRecDepth 100000 in
theorem c_X6_readCharacter (l : Launch) (g : GG) (t0 t1 t2 : Nat) (ptx : Nat → Int32) (plen : Int32) (ppos : Int32) (pcnt : Int32) (sz : Nat) (p1 : Int32) (o : Int32 × Int32) (hF : F_X6_readCharacter ptx plen ppos p1 = some o) : Met l yX6_readCharacter w_X6_readCharacter r_X6_readCharacter (va_Pc [.ref t0, .int p1] (zP g (wPT g t0 t1 t2 ptx plen ppos pcnt) sz)) (q_X6_readCharacter g t0 t1 t2 ptx plen ppos pcnt o (va_A (wPT g t0 t1 t2 ptx plen ppos pcnt) sz)) 0 0 (va_A (wPT g t0 t1 t2 ptx plen ppos pcnt) sz) := by
  refine Met.ofW (cc := cX6_readCharacter) (maxL := 2) (ret := (some .boolean)) (by decide) rfl ?_
  intro p e s m args below meth c s₁ B hml hv
  obtain ⟨rfl, rfl, hP, hK, hD0, hB⟩ := hv
  have hx := B.exec
  have hb := B.bytes
  have hr := B.returns
  have hts : ∀ w ∈ wU, w.before _ s = true := fun w h => atoms_spec (ws := w_X6_readCharacter) B.pre w (List.mem_cons_of_mem _ h)
  have hown : s.vm.findClass RX6 = some m.cls := findClass_of_methodNamed B.named
  have hlocks := B.notSynchronized
  have hD := hD0.self (sz := s.heap.size)
  generalize hAe : va_A (wPT g t0 t1 t2 ptx plen ppos pcnt) s.heap.size = A at hD hB ⊢
  have hA : ∀ q : Nat, s.heap.size ≤ q → A q := fun q h => by rw [← hAe]; exact Or.inr h
  have hS : va_S A s.heap s.heap [] := va_S.rf
  have hl := lv_entry ([.ref t0, .int p1]) (n := 2) (Nat.le_of_ble_eq_true rfl)
  rw [lg_entry_eq]
  generalize (lg_sl ([.ref t0, .int p1]) ++ List.replicate (2 - (lg_sl ([.ref t0, .int p1])).length) Slot.unset).toArray = ls at hl ⊢
  have hl : lv_has ls 2 [(0, .ref t0), (1, .int p1)] := hl
  unfold F_X6_readCharacter at hF
  refine lv_aload_n hx hb dX6_readCharacter_0 rfl (lv_at hl 0 rfl) ?_
  refine va_get (D := gD g) (ci := 4) (v := .int ppos) (C := RX6) (T := TX6) (N := 5) hx hb hts inX6 hown hK hP 0 rfl rfl 2 (by decide) (hts _ mU_245) (fun _ h9 => h9) rfl dX6_readCharacter_1 ?_
  refine lv_aload_n hx hb dX6_readCharacter_4 rfl (lv_at hl 0 rfl) ?_
  refine va_get (D := gD g) (ci := 4) (v := .int plen) (C := RX6) (T := TX6) (N := 5) hx hb hts inX6 hown hK hP 0 rfl rfl 1 (by decide) (hts _ mU_243) (fun _ h9 => h9) rfl dX6_readCharacter_5 ?_
  refine lv_icmp_ge (tgt := 24) hx hb dX6_readCharacter_8 (by decide) (fun zc1 => ?_) (fun zc1 => ?_)
  · have hF := z_pos hF zc1
    refine lv_iconst (v := 0) hx hb dX6_readCharacter_24 (by decide) ?_
    have ho := (Option.some.inj hF).symm
    exact W.zret (v := 0) hx hb hr rfl (fun t ht hW => ⟨⟨0, ppos, rfl, ⟨by rw [ho], by rw [ho]⟩, z_end ht hP⟩, hS.F ht⟩) hS.2.2 dX6_readCharacter_25
  · have hF := z_neg hF zc1
    refine lv_aload_n hx hb dX6_readCharacter_11 rfl (lv_at hl 0 rfl) ?_
    refine va_get (D := gD g) (ci := 4) (v := .ref t1) (C := RX6) (T := TX6) (N := 5) hx hb hts inX6 hown hK hP 0 rfl rfl 0 (by decide) (hts _ mU_242) (fun _ h9 => h9) rfl dX6_readCharacter_12 ?_
    refine lv_aload_n hx hb dX6_readCharacter_15 rfl (lv_at hl 0 rfl) ?_
    refine va_get (D := gD g) (ci := 4) (v := .int ppos) (C := RX6) (T := TX6) (N := 5) hx hb hts inX6 hown hK hP 0 rfl rfl 2 (by decide) (hts _ mU_245) (fun _ h9 => h9) rfl dX6_readCharacter_16 ?_
    obtain ⟨zg2, hF⟩ := z_grd hF
    refine va_cald hx hb hK hP 1 0 rfl rfl zg2 dX6_readCharacter_19 ?_
    refine lv_iload_n hx hb dX6_readCharacter_20 rfl (lv_at hl 1 rfl) ?_
    refine lv_icmp_eq (tgt := 26) hx hb dX6_readCharacter_21 (by decide) (fun zc3 => ?_) (fun zc3 => ?_)
    · have hF := z_pos hF zc3
      refine lv_aload_n hx hb dX6_readCharacter_26 rfl (lv_at hl 0 rfl) ?_
      refine lv_dup hx hb dX6_readCharacter_27 rfl ?_
      refine va_get (D := gD g) (ci := 4) (v := .int ppos) (C := RX6) (T := TX6) (N := 5) hx hb hts inX6 hown hK hP 0 rfl rfl 2 (by decide) (hts _ mU_245) (fun _ h9 => h9) rfl dX6_readCharacter_28 ?_
      refine lv_iconst (v := 1) hx hb dX6_readCharacter_31 (by decide) ?_
      refine lv_iadd hx hb dX6_readCharacter_32 ?_
      refine va_put (D := gD g) (ci := 4) (v := .int (ppos + 1)) (ty := .int) (C := RX6) (T := TX6) (N := 5) hx hb hts inX6 tyX6 tyX6_ok nmX6 hown hK hP hD hS 0 rfl rfl 2 (by decide) (hts _ mU_245) (fun _ h9 => h9) rfl (by decide +kernel) rfl rfl (Nat.le_of_ble_eq_true rfl) dX6_readCharacter_33 (fun H locs hP hD hS => ?_)
      have hP : va_P (gD g) zCl (wPT g t0 t1 t2 ptx plen (ppos + 1) pcnt) H := hP
      have hD : va_D A (wPT g t0 t1 t2 ptx plen (ppos + 1) pcnt) := hD
      refine lv_iconst (v := 1) hx hb dX6_readCharacter_36 (by decide) ?_
      have ho := (Option.some.inj hF).symm
      exact W.zret (v := 1) hx hb hr rfl (fun t ht hW => ⟨⟨1, (ppos + 1), rfl, ⟨by rw [ho], by rw [ho]⟩, z_end ht hP⟩, hS.F ht⟩) hS.2.2 dX6_readCharacter_37
    · have hF := z_neg hF zc3
      refine lv_iconst (v := 0) hx hb dX6_readCharacter_24 (by decide) ?_
      have ho := (Option.some.inj hF).symm
      exact W.zret (v := 0) hx hb hr rfl (fun t ht hW => ⟨⟨0, ppos, rfl, ⟨by rw [ho], by rw [ho]⟩, z_end ht hP⟩, hS.F ht⟩) hS.2.2 dX6_readCharacter_25
abbrev w_X6_readDigit : List Cond := .code yX6_readDigit cX6_readDigit 1 (some .int) :: wU
abbrev r_X6_readDigit : Room := { frames := 0, cells := 0, slots := 0, locals := 0 }
abbrev q_X6_readDigit (g : GG) (t0 t1 t2 : Nat) (ptx : Nat → Int32) (plen : Int32) (ppos : Int32) (pcnt : Int32) (o : Int32 × Int32) (A : Nat → Prop) := va_Qi (fun (r : Int32) (u : Int32) => o.1 = r ∧ o.2 = u) (fun u t => va_P (gD g) zCl (wPT g t0 t1 t2 ptx plen u pcnt) t.heap) A
set_option maxHeartbeats 4000000 in
set_option maxRecDepth 100000 in
theorem c_X6_readDigit (l : Launch) (g : GG) (t0 t1 t2 : Nat) (ptx : Nat → Int32) (plen : Int32) (ppos : Int32) (pcnt : Int32) (sz : Nat) (o : Int32 × Int32) (hF : F_X6_readDigit ptx plen ppos = some o) : Met l yX6_readDigit w_X6_readDigit r_X6_readDigit (va_Pc [.ref t0] (zP g (wPT g t0 t1 t2 ptx plen ppos pcnt) sz)) (q_X6_readDigit g t0 t1 t2 ptx plen ppos pcnt o (va_A (wPT g t0 t1 t2 ptx plen ppos pcnt) sz)) 0 0 (va_A (wPT g t0 t1 t2 ptx plen ppos pcnt) sz) := by
  refine Met.ofW (cc := cX6_readDigit) (maxL := 1) (ret := (some .int)) (by decide) rfl ?_
  intro p e s m args below meth c s₁ B hml hv
  obtain ⟨rfl, rfl, hP, hK, hD0, hB⟩ := hv
  have hx := B.exec
  have hb := B.bytes
  have hr := B.returns
  have hts : ∀ w ∈ wU, w.before _ s = true := fun w h => atoms_spec (ws := w_X6_readDigit) B.pre w (List.mem_cons_of_mem _ h)
  have hown : s.vm.findClass RX6 = some m.cls := findClass_of_methodNamed B.named
  have hlocks := B.notSynchronized
  have hD := hD0.self (sz := s.heap.size)
  generalize hAe : va_A (wPT g t0 t1 t2 ptx plen ppos pcnt) s.heap.size = A at hD hB ⊢
  have hA : ∀ q : Nat, s.heap.size ≤ q → A q := fun q h => by rw [← hAe]; exact Or.inr h
  have hS : va_S A s.heap s.heap [] := va_S.rf
  have hl := lv_entry ([.ref t0]) (n := 1) (Nat.le_of_ble_eq_true rfl)
  rw [lg_entry_eq]
  generalize (lg_sl ([.ref t0]) ++ List.replicate (1 - (lg_sl ([.ref t0])).length) Slot.unset).toArray = ls at hl ⊢
  have hl : lv_has ls 1 [(0, .ref t0)] := hl
  unfold F_X6_readDigit at hF
  refine lv_aload_n hx hb dX6_readDigit_0 rfl (lv_at hl 0 rfl) ?_
  refine va_get (D := gD g) (ci := 4) (v := .int ppos) (C := RX6) (T := TX6) (N := 5) hx hb hts inX6 hown hK hP 0 rfl rfl 2 (by decide) (hts _ mU_245) (fun _ h9 => h9) rfl dX6_readDigit_1 ?_
  refine lv_aload_n hx hb dX6_readDigit_4 rfl (lv_at hl 0 rfl) ?_
  refine va_get (D := gD g) (ci := 4) (v := .int plen) (C := RX6) (T := TX6) (N := 5) hx hb hts inX6 hown hK hP 0 rfl rfl 1 (by decide) (hts _ mU_243) (fun _ h9 => h9) rfl dX6_readDigit_5 ?_
  refine lv_icmp_ge (tgt := 39) hx hb dX6_readDigit_8 (by decide) (fun zc1 => ?_) (fun zc1 => ?_)
  · have hF := z_pos hF zc1
    refine lv_iconst (v := (-1)) hx hb dX6_readDigit_39 (by decide) ?_
    have ho := (Option.some.inj hF).symm
    exact W.iret (v := (-1)) hx hb hr (fun t ht hW => ⟨⟨(-1), ppos, rfl, ⟨by rw [ho], by rw [ho]⟩, z_end ht hP⟩, hS.F ht⟩) hS.2.2 dX6_readDigit_40
  · have hF := z_neg hF zc1
    refine lv_aload_n hx hb dX6_readDigit_11 rfl (lv_at hl 0 rfl) ?_
    refine va_get (D := gD g) (ci := 4) (v := .ref t1) (C := RX6) (T := TX6) (N := 5) hx hb hts inX6 hown hK hP 0 rfl rfl 0 (by decide) (hts _ mU_242) (fun _ h9 => h9) rfl dX6_readDigit_12 ?_
    refine lv_aload_n hx hb dX6_readDigit_15 rfl (lv_at hl 0 rfl) ?_
    refine va_get (D := gD g) (ci := 4) (v := .int ppos) (C := RX6) (T := TX6) (N := 5) hx hb hts inX6 hown hK hP 0 rfl rfl 2 (by decide) (hts _ mU_245) (fun _ h9 => h9) rfl dX6_readDigit_16 ?_
    obtain ⟨zg2, hF⟩ := z_grd hF
    refine va_cald hx hb hK hP 1 0 rfl rfl zg2 dX6_readDigit_19 ?_
    refine lv_bipush (v := 48) hx hb dX6_readDigit_20 (by decide) ?_
    refine lv_icmp_lt (tgt := 39) hx hb dX6_readDigit_22 (by decide) (fun zc3 => ?_) (fun zc3 => ?_)
    · have hF := z_pos hF zc3
      refine lv_iconst (v := (-1)) hx hb dX6_readDigit_39 (by decide) ?_
      have ho := (Option.some.inj hF).symm
      exact W.iret (v := (-1)) hx hb hr (fun t ht hW => ⟨⟨(-1), ppos, rfl, ⟨by rw [ho], by rw [ho]⟩, z_end ht hP⟩, hS.F ht⟩) hS.2.2 dX6_readDigit_40
    · have hF := z_neg hF zc3
      refine lv_aload_n hx hb dX6_readDigit_25 rfl (lv_at hl 0 rfl) ?_
      refine va_get (D := gD g) (ci := 4) (v := .ref t1) (C := RX6) (T := TX6) (N := 5) hx hb hts inX6 hown hK hP 0 rfl rfl 0 (by decide) (hts _ mU_242) (fun _ h9 => h9) rfl dX6_readDigit_26 ?_
      refine lv_aload_n hx hb dX6_readDigit_29 rfl (lv_at hl 0 rfl) ?_
      refine va_get (D := gD g) (ci := 4) (v := .int ppos) (C := RX6) (T := TX6) (N := 5) hx hb hts inX6 hown hK hP 0 rfl rfl 2 (by decide) (hts _ mU_245) (fun _ h9 => h9) rfl dX6_readDigit_30 ?_
      obtain ⟨zg4, hF⟩ := z_grd hF
      refine va_cald hx hb hK hP 1 0 rfl rfl zg4 dX6_readDigit_33 ?_
      refine lv_bipush (v := 57) hx hb dX6_readDigit_34 (by decide) ?_
      refine lv_icmp_le (tgt := 41) hx hb dX6_readDigit_36 (by decide) (fun zc5 => ?_) (fun zc5 => ?_)
      · have hF := z_pos hF zc5
        refine lv_aload_n hx hb dX6_readDigit_41 rfl (lv_at hl 0 rfl) ?_
        refine lv_dup hx hb dX6_readDigit_42 rfl ?_
        refine va_get (D := gD g) (ci := 4) (v := .int ppos) (C := RX6) (T := TX6) (N := 5) hx hb hts inX6 hown hK hP 0 rfl rfl 2 (by decide) (hts _ mU_245) (fun _ h9 => h9) rfl dX6_readDigit_43 ?_
        refine lv_iconst (v := 1) hx hb dX6_readDigit_46 (by decide) ?_
        refine lv_iadd hx hb dX6_readDigit_47 ?_
        refine va_put (D := gD g) (ci := 4) (v := .int (ppos + 1)) (ty := .int) (C := RX6) (T := TX6) (N := 5) hx hb hts inX6 tyX6 tyX6_ok nmX6 hown hK hP hD hS 0 rfl rfl 2 (by decide) (hts _ mU_245) (fun _ h9 => h9) rfl (by decide +kernel) rfl rfl (Nat.le_of_ble_eq_true rfl) dX6_readDigit_48 (fun H locs hP hD hS => ?_)
        have hP : va_P (gD g) zCl (wPT g t0 t1 t2 ptx plen (ppos + 1) pcnt) H := hP
        have hD : va_D A (wPT g t0 t1 t2 ptx plen (ppos + 1) pcnt) := hD
        refine lv_aload_n hx hb dX6_readDigit_51 rfl (lv_at hl 0 rfl) ?_
        refine va_get (D := gD g) (ci := 4) (v := .ref t1) (C := RX6) (T := TX6) (N := 5) hx hb hts inX6 hown hK hP 0 rfl rfl 0 (by decide) (hts _ mU_242) (fun _ h9 => h9) rfl dX6_readDigit_52 ?_
        refine lv_aload_n hx hb dX6_readDigit_55 rfl (lv_at hl 0 rfl) ?_
        refine va_get (D := gD g) (ci := 4) (v := .int (ppos + 1)) (C := RX6) (T := TX6) (N := 5) hx hb hts inX6 hown hK hP 0 rfl rfl 2 (by decide) (hts _ mU_245) (fun _ h9 => h9) rfl dX6_readDigit_56 ?_
        refine lv_iconst (v := 1) hx hb dX6_readDigit_59 (by decide) ?_
        refine lv_isub hx hb dX6_readDigit_60 ?_
        obtain ⟨zg6, hF⟩ := z_grd hF
        refine va_cald hx hb hK hP 1 0 rfl rfl zg6 dX6_readDigit_61 ?_
        refine lv_bipush (v := 48) hx hb dX6_readDigit_62 (by decide) ?_
        refine lv_isub hx hb dX6_readDigit_64 ?_
        have ho := (Option.some.inj hF).symm
        exact W.iret (v := ((ptx (Int32.toNatClampNeg ((ppos + 1) - 1))) - 48)) hx hb hr (fun t ht hW => ⟨⟨((ptx (Int32.toNatClampNeg ((ppos + 1) - 1))) - 48), (ppos + 1), rfl, ⟨by rw [ho], by rw [ho]⟩, z_end ht hP⟩, hS.F ht⟩) hS.2.2 dX6_readDigit_65
      · have hF := z_neg hF zc5
        refine lv_iconst (v := (-1)) hx hb dX6_readDigit_39 (by decide) ?_
        have ho := (Option.some.inj hF).symm
        exact W.iret (v := (-1)) hx hb hr (fun t ht hW => ⟨⟨(-1), ppos, rfl, ⟨by rw [ho], by rw [ho]⟩, z_end ht hP⟩, hS.F ht⟩) hS.2.2 dX6_readDigit_40
abbrev w_X6_readNumber : List Cond := .code yX6_readNumber cX6_readNumber 4 (some .int) :: wU
abbrev r_X6_readNumber : Room := { frames := 1, cells := 0, slots := 0, locals := 20 }
abbrev q_X6_readNumber (g : GG) (t0 t1 t2 : Nat) (ptx : Nat → Int32) (plen : Int32) (ppos : Int32) (pcnt : Int32) (o : Int32 × Int32) (A : Nat → Prop) := va_Qi (fun (r : Int32) (u : Int32) => o.1 = r ∧ o.2 = u) (fun u t => va_P (gD g) zCl (wPT g t0 t1 t2 ptx plen u pcnt) t.heap) A
set_option maxHeartbeats 4000000 in
set_option maxRecDepth 100000 in
theorem c_X6_readNumber (l : Launch) (g : GG) (t0 t1 t2 : Nat) (ptx : Nat → Int32) (plen : Int32) (ppos : Int32) (pcnt : Int32) (sz : Nat) (fu : Nat) (o : Int32 × Int32) (hF : F_X6_readNumber fu ptx plen ppos = some o) : Met l yX6_readNumber w_X6_readNumber r_X6_readNumber (va_Pc [.ref t0] (zP g (wPT g t0 t1 t2 ptx plen ppos pcnt) sz)) (q_X6_readNumber g t0 t1 t2 ptx plen ppos pcnt o (va_A (wPT g t0 t1 t2 ptx plen ppos pcnt) sz)) 0 0 (va_A (wPT g t0 t1 t2 ptx plen ppos pcnt) sz) := by
  refine Met.ofW (cc := cX6_readNumber) (maxL := 4) (ret := (some .int)) (by decide) rfl ?_
  intro p e s m args below meth c s₁ B hml hv
  obtain ⟨rfl, rfl, hP, hK, hD0, hB⟩ := hv
  have hx := B.exec
  have hb := B.bytes
  have hr := B.returns
  have hts : ∀ w ∈ wU, w.before _ s = true := fun w h => atoms_spec (ws := w_X6_readNumber) B.pre w (List.mem_cons_of_mem _ h)
  have hown : s.vm.findClass RX6 = some m.cls := findClass_of_methodNamed B.named
  have hlocks := B.notSynchronized
  have hD := hD0.self (sz := s.heap.size)
  generalize hAe : va_A (wPT g t0 t1 t2 ptx plen ppos pcnt) s.heap.size = A at hD hB ⊢
  have hA : ∀ q : Nat, s.heap.size ≤ q → A q := fun q h => by rw [← hAe]; exact Or.inr h
  have hS : va_S A s.heap s.heap [] := va_S.rf
  have hl := lv_entry ([.ref t0]) (n := 4) (Nat.le_of_ble_eq_true rfl)
  rw [lg_entry_eq]
  generalize (lg_sl ([.ref t0]) ++ List.replicate (4 - (lg_sl ([.ref t0])).length) Slot.unset).toArray = ls at hl ⊢
  have hl : lv_has ls 4 [(0, .ref t0)] := hl
  unfold F_X6_readNumber at hF
  have K9 : ∀ (n9 : Nat) (ppos : Int32) (x1 : Int32) (x2 : Int32) (x3 : Int32), F_X6_readNumber_9 fu n9 ptx plen ppos x1 x2 x3 = some o → ∀ (H : Heap) (locs : List Loc) (ls : Array Slot), lv_has ls 4 [(0, .ref t0), (1, .int x1), (2, .int x2), (3, .int x3)] → va_P (gD g) zCl (wPT g t0 t1 t2 ptx plen ppos pcnt) H → va_D A (wPT g t0 t1 t2 ptx plen ppos pcnt) → va_S A s.heap H locs → W p l e (headSpec w_X6_readNumber r_X6_readNumber).room s m ([.ref t0] : List Value).toArray below meth c H locs 0 0 (MQ below (q_X6_readNumber g t0 t1 t2 ptx plen ppos pcnt o A) ([.ref t0] : List Value).toArray s 0 0 A) (F0 m 9 ls []) := by
    intro n9
    induction n9 with
    | zero =>
      intro ppos x1 x2 x3 hF
      exact absurd hF (by simp [F_X6_readNumber_9])
    | succ n9 ih9 =>
      intro ppos x1 x2 x3 hF H locs ls hl hP hD hS
      unfold F_X6_readNumber_9 at hF
      refine lv_iload_n hx hb dX6_readNumber_9 rfl (lv_at hl 3 rfl) ?_
      refine lv_bipush (v := 6) hx hb dX6_readNumber_10 (by decide) ?_
      refine lv_icmp_ge (tgt := 47) hx hb dX6_readNumber_12 (by decide) (fun zc1 => ?_) (fun zc1 => ?_)
      · have hF := z_pos hF zc1
        refine lv_iload_n hx hb dX6_readNumber_47 rfl (lv_at hl 1 rfl) ?_
        have ho := (Option.some.inj hF).symm
        exact W.iret (v := x1) hx hb hr (fun t ht hW => ⟨⟨x1, ppos, rfl, ⟨by rw [ho], by rw [ho]⟩, z_end ht hP⟩, hS.F ht⟩) hS.2.2 dX6_readNumber_48
      · have hF := z_neg hF zc1
        refine lv_iload_n hx hb dX6_readNumber_15 rfl (lv_at hl 2 rfl) ?_
        refine lv_iconst (v := (-1)) hx hb dX6_readNumber_16 (by decide) ?_
        refine lv_icmp_eq (tgt := 47) hx hb dX6_readNumber_17 (by decide) (fun zc2 => ?_) (fun zc2 => ?_)
        · have hF := z_pos hF zc2
          refine lv_iload_n hx hb dX6_readNumber_47 rfl (lv_at hl 1 rfl) ?_
          have ho := (Option.some.inj hF).symm
          exact W.iret (v := x1) hx hb hr (fun t ht hW => ⟨⟨x1, ppos, rfl, ⟨by rw [ho], by rw [ho]⟩, z_end ht hP⟩, hS.F ht⟩) hS.2.2 dX6_readNumber_48
        · have hF := z_neg hF zc2
          refine lv_aload_n hx hb dX6_readNumber_20 rfl (lv_at hl 0 rfl) ?_
          obtain ⟨zo3, hzo3, hF⟩ := z_bind hF
          refine z_calliE (fun (u : Int32) => (wPT g t0 t1 t2 ptx plen u pcnt)) (va_runV (As := []) (rest := []) ⟨hx, hb, hml, hown, hts⟩ (c_X6_readDigit l g t0 t1 t2 ptx plen ppos pcnt _ _ hzo3) (cwV 0 hts (gdV mU_1110 mU_1112 mU_19 mU_70 mU_1113) rfl rfl rfl (by decide +kernel) ⟨Nat.le_of_ble_eq_true rfl, Nat.le_of_ble_eq_true rfl⟩) ⟨z_blind _ _ _ _, va_recv hK hP (ci := 4) (q0 := 0) rfl rfl, fun U hU hW => z_preE hP hD hK hB hS hA hU hW⟩ rfl rfl hl.1 rfl (lv_room (Nat.le_of_ble_eq_true rfl)) dX6_readNumber_21 ⟨Nat.le_of_ble_eq_true rfl, Nat.le_of_ble_eq_true rfl⟩) hD hS hA (fun _ => rfl) (fun r u H locs hw hP hD hS => ?_)
          obtain ⟨rfl, rfl⟩ := hw
          have hP : va_P (gD g) zCl (wPT g t0 t1 t2 ptx plen zo3.2 pcnt) H := hP
          have hD : va_D A (wPT g t0 t1 t2 ptx plen zo3.2 pcnt) := hD
          refine lv_istore_n (lv' := [(2, .int zo3.1), (0, .ref t0), (1, .int x1), (3, .int x3)]) hx hb dX6_readNumber_24 rfl hl (by decide) rfl (fun ls hl => ?_)
          refine lv_iload_n hx hb dX6_readNumber_25 rfl (lv_at hl 0 rfl) ?_
          refine lv_iconst (v := (-1)) hx hb dX6_readNumber_26 (by decide) ?_
          refine lv_icmp_ne (tgt := 34) hx hb dX6_readNumber_27 (by decide) (fun zc4 => ?_) (fun zc4 => ?_)
          · have hF := z_neg hF zc4
            refine lv_iload_n hx hb dX6_readNumber_34 rfl (lv_at hl 2 rfl) ?_
            refine lv_bipush (v := 10) hx hb dX6_readNumber_35 (by decide) ?_
            refine lv_imul hx hb dX6_readNumber_37 ?_
            refine lv_iload_n hx hb dX6_readNumber_38 rfl (lv_at hl 0 rfl) ?_
            refine lv_iadd hx hb dX6_readNumber_39 ?_
            obtain ⟨zv5, ezv5, hF⟩ := z_let hF
            refine z_topi ezv5 ?_
            refine lv_istore_n (lv' := [(1, .int zv5), (2, .int zo3.1), (0, .ref t0), (3, .int x3)]) hx hb dX6_readNumber_40 rfl hl (by decide) rfl (fun ls hl => ?_)
            obtain ⟨zv6, ezv6, hF⟩ := z_let hF
            refine lv_iinc (v := zv6) (lv' := [(3, .int zv6), (1, .int zv5), (2, .int zo3.1), (0, .ref t0)]) hx hb dX6_readNumber_41 hl (k := 3) rfl (by rw [ezv6]; rfl) (by decide) rfl (fun ls hl => ?_)
            refine lv_goto (tgt := 9) hx hb dX6_readNumber_44 (by decide) ?_
            exact ih9 zo3.2 zv5 zo3.1 zv6 hF _ _ _ (lv_sub hl [3, 1, 2, 0] rfl) hP hD hS
          · have hF := z_pos hF zc4
            refine lv_iload_n hx hb dX6_readNumber_30 rfl (lv_at hl 2 rfl) ?_
            refine lv_goto (tgt := 40) hx hb dX6_readNumber_31 (by decide) ?_
            refine lv_istore_n (lv' := [(1, .int x1), (2, .int zo3.1), (0, .ref t0), (3, .int x3)]) hx hb dX6_readNumber_40 rfl hl (by decide) rfl (fun ls hl => ?_)
            obtain ⟨zv7, ezv7, hF⟩ := z_let hF
            refine lv_iinc (v := zv7) (lv' := [(3, .int zv7), (1, .int x1), (2, .int zo3.1), (0, .ref t0)]) hx hb dX6_readNumber_41 hl (k := 3) rfl (by rw [ezv7]; rfl) (by decide) rfl (fun ls hl => ?_)
            refine lv_goto (tgt := 9) hx hb dX6_readNumber_44 (by decide) ?_
            exact ih9 zo3.2 x1 zo3.1 zv7 hF _ _ _ (lv_sub hl [3, 1, 2, 0] rfl) hP hD hS
  refine lv_aload_n hx hb dX6_readNumber_0 rfl (lv_at hl 0 rfl) ?_
  obtain ⟨zo8, hzo8, hF⟩ := z_bind hF
  refine z_calliE (fun (u : Int32) => (wPT g t0 t1 t2 ptx plen u pcnt)) (va_runV (As := []) (rest := []) ⟨hx, hb, hml, hown, hts⟩ (c_X6_readDigit l g t0 t1 t2 ptx plen ppos pcnt _ _ hzo8) (cwV 0 hts (gdV mU_1110 mU_1112 mU_19 mU_70 mU_1113) rfl rfl rfl (by decide +kernel) ⟨Nat.le_of_ble_eq_true rfl, Nat.le_of_ble_eq_true rfl⟩) ⟨z_blind _ _ _ _, va_recv hK hP (ci := 4) (q0 := 0) rfl rfl, fun U hU hW => z_preE hP hD hK hB hS hA hU hW⟩ rfl rfl hl.1 rfl (lv_room (Nat.le_of_ble_eq_true rfl)) dX6_readNumber_1 ⟨Nat.le_of_ble_eq_true rfl, Nat.le_of_ble_eq_true rfl⟩) hD hS hA (fun _ => rfl) (fun r u H locs hw hP hD hS => ?_)
  obtain ⟨rfl, rfl⟩ := hw
  have hP : va_P (gD g) zCl (wPT g t0 t1 t2 ptx plen zo8.2 pcnt) H := hP
  have hD : va_D A (wPT g t0 t1 t2 ptx plen zo8.2 pcnt) := hD
  refine lv_istore_n (lv' := [(1, .int zo8.1), (0, .ref t0)]) hx hb dX6_readNumber_4 rfl hl (by decide) rfl (fun ls hl => ?_)
  refine lv_iload_n hx hb dX6_readNumber_5 rfl (lv_at hl 0 rfl) ?_
  refine lv_istore_n (lv' := [(2, .int zo8.1), (1, .int zo8.1), (0, .ref t0)]) hx hb dX6_readNumber_6 rfl hl (by decide) rfl (fun ls hl => ?_)
  refine lv_iconst (v := 1) hx hb dX6_readNumber_7 (by decide) ?_
  refine lv_istore_n (lv' := [(3, .int 1), (2, .int zo8.1), (1, .int zo8.1), (0, .ref t0)]) hx hb dX6_readNumber_8 rfl hl (by decide) rfl (fun ls hl => ?_)
  exact K9 fu zo8.2 zo8.1 zo8.1 1 hF _ _ _ (lv_sub hl [3, 2, 1, 0] rfl) hP hD hS
abbrev w_X6_fittingCharacters : List Cond := .code yX6_fittingCharacters cX6_fittingCharacters 3 (some .int) :: wU
abbrev r_X6_fittingCharacters : Room := { frames := 4, cells := 0, slots := 0, locals := 85 }
abbrev q_X6_fittingCharacters (g : GG) (t0 t1 t2 : Nat) (ptx : Nat → Int32) (plen : Int32) (ppos : Int32) (pcnt : Int32) (o : Int32) (A : Nat → Prop) := va_Qi (fun (r : Int32) (u : Unit) => o = r) (fun u t => va_P (gD g) zCl (wPT g t0 t1 t2 ptx plen ppos pcnt) t.heap) A
set_option maxHeartbeats 4000000 in
set_option maxRecDepth 100000 in
theorem c_X6_fittingCharacters (l : Launch) (g : GG) (t0 t1 t2 : Nat) (ptx : Nat → Int32) (plen : Int32) (ppos : Int32) (pcnt : Int32) (sz : Nat) (k0 : Nat) (hk0 : k0 < 9) (fu : Nat) (o : Int32) (hF : F_X6_fittingCharacters fu ptx plen ppos k0 = some o) : Met l yX6_fittingCharacters w_X6_fittingCharacters r_X6_fittingCharacters (va_Pc [.ref t0, .ref (gaK g k0)] (zP g (wPT g t0 t1 t2 ptx plen ppos pcnt) sz)) (q_X6_fittingCharacters g t0 t1 t2 ptx plen ppos pcnt o (va_A (wPT g t0 t1 t2 ptx plen ppos pcnt) sz)) 0 0 (va_A (wPT g t0 t1 t2 ptx plen ppos pcnt) sz) := by
  refine Met.ofW (cc := cX6_fittingCharacters) (maxL := 3) (ret := (some .int)) (by decide) rfl ?_
  intro p e s m args below meth c s₁ B hml hv
  obtain ⟨rfl, rfl, hP, hK, hD0, hB⟩ := hv
  have hx := B.exec
  have hb := B.bytes
  have hr := B.returns
  have hts : ∀ w ∈ wU, w.before _ s = true := fun w h => atoms_spec (ws := w_X6_fittingCharacters) B.pre w (List.mem_cons_of_mem _ h)
  have hown : s.vm.findClass RX6 = some m.cls := findClass_of_methodNamed B.named
  have hlocks := B.notSynchronized
  have hD := hD0.self (sz := s.heap.size)
  generalize hAe : va_A (wPT g t0 t1 t2 ptx plen ppos pcnt) s.heap.size = A at hD hB ⊢
  have hA : ∀ q : Nat, s.heap.size ≤ q → A q := fun q h => by rw [← hAe]; exact Or.inr h
  have hS : va_S A s.heap s.heap [] := va_S.rf
  have hl := lv_entry ([.ref t0, .ref (gaK g k0)]) (n := 3) (Nat.le_of_ble_eq_true rfl)
  rw [lg_entry_eq]
  generalize (lg_sl ([.ref t0, .ref (gaK g k0)]) ++ List.replicate (3 - (lg_sl ([.ref t0, .ref (gaK g k0)])).length) Slot.unset).toArray = ls at hl ⊢
  have hl : lv_has ls 3 [(0, .ref t0), (1, .ref (gaK g k0))] := hl
  unfold F_X6_fittingCharacters at hF
  have K2 : ∀ (n2 : Nat) (x2 : Int32), F_X6_fittingCharacters_2 fu n2 ptx plen ppos k0 x2 = some o → ∀ (H : Heap) (locs : List Loc) (ls : Array Slot), lv_has ls 3 [(0, .ref t0), (1, .ref (gaK g k0)), (2, .int x2)] → va_P (gD g) zCl (wPT g t0 t1 t2 ptx plen ppos pcnt) H → va_D A (wPT g t0 t1 t2 ptx plen ppos pcnt) → va_S A s.heap H locs → W p l e (headSpec w_X6_fittingCharacters r_X6_fittingCharacters).room s m ([.ref t0, .ref (gaK g k0)] : List Value).toArray below meth c H locs 0 0 (MQ below (q_X6_fittingCharacters g t0 t1 t2 ptx plen ppos pcnt o A) ([.ref t0, .ref (gaK g k0)] : List Value).toArray s 0 0 A) (F0 m 2 ls []) := by
    intro n2
    induction n2 with
    | zero =>
      intro x2 hF
      exact absurd hF (by simp [F_X6_fittingCharacters_2])
    | succ n2 ih2 =>
      intro x2 hF H locs ls hl hP hD hS
      unfold F_X6_fittingCharacters_2 at hF
      refine lv_iload_n hx hb dX6_fittingCharacters_2 rfl (lv_at hl 2 rfl) ?_
      refine lv_aload_n hx hb dX6_fittingCharacters_3 rfl (lv_at hl 1 rfl) ?_
      obtain ⟨zo1, hzo1, hF⟩ := z_bind hF
      refine z_calli (fun (_ : Unit) => []) [] (va_runV (As := []) (rest := [.int x2]) ⟨hx, hb, hml, hown, hts⟩ (c_J0_length_8abf5 l g _ k0 hk0 _ hzo1) (cwV 0 hts (gdV mU_1072 mU_551 mU_552 mU_81 mU_553) rfl rfl rfl (by decide +kernel) ⟨Nat.le_of_ble_eq_true rfl, Nat.le_of_ble_eq_true rfl⟩) ⟨z_blind _ _ _ _, vk_recv hB.2.2.1.1 hk0 hS, fun U hU hW => z_pre [] hP hD hK hB hS hA rfl rfl hU hW⟩ rfl rfl hl.1 rfl (lv_room (Nat.le_of_ble_eq_true rfl)) dX6_fittingCharacters_4 ⟨Nat.le_of_ble_eq_true rfl, Nat.le_of_ble_eq_true rfl⟩) hP hD hS hA rfl (fun _ => rfl) (fun r u H locs hw hP hD hS => ?_)
      subst hw
      have hP : va_P (gD g) zCl (wPT g t0 t1 t2 ptx plen ppos pcnt) H := hP
      have hD : va_D A (wPT g t0 t1 t2 ptx plen ppos pcnt) := hD
      refine lv_icmp_ge (tgt := 48) hx hb dX6_fittingCharacters_7 (by decide) (fun zc2 => ?_) (fun zc2 => ?_)
      · have hF := z_pos hF zc2
        refine lv_iload_n hx hb dX6_fittingCharacters_48 rfl (lv_at hl 2 rfl) ?_
        have ho := (Option.some.inj hF).symm
        exact W.iret (v := x2) hx hb hr (fun t ht hW => ⟨⟨x2, (), rfl, ho, z_end ht hP⟩, hS.F ht⟩) hS.2.2 dX6_fittingCharacters_49
      · have hF := z_neg hF zc2
        refine lv_aload_n hx hb dX6_fittingCharacters_10 rfl (lv_at hl 0 rfl) ?_
        refine va_get (D := gD g) (ci := 4) (v := .int ppos) (C := RX6) (T := TX6) (N := 5) hx hb hts inX6 hown hK hP 0 rfl rfl 2 (by decide) (hts _ mU_245) (fun _ h9 => h9) rfl dX6_fittingCharacters_11 ?_
        refine lv_iload_n hx hb dX6_fittingCharacters_14 rfl (lv_at hl 2 rfl) ?_
        refine lv_iadd hx hb dX6_fittingCharacters_15 ?_
        refine lv_aload_n hx hb dX6_fittingCharacters_16 rfl (lv_at hl 0 rfl) ?_
        refine va_get (D := gD g) (ci := 4) (v := .int plen) (C := RX6) (T := TX6) (N := 5) hx hb hts inX6 hown hK hP 0 rfl rfl 1 (by decide) (hts _ mU_243) (fun _ h9 => h9) rfl dX6_fittingCharacters_17 ?_
        refine lv_icmp_ge (tgt := 48) hx hb dX6_fittingCharacters_20 (by decide) (fun zc3 => ?_) (fun zc3 => ?_)
        · have hF := z_pos hF zc3
          refine lv_iload_n hx hb dX6_fittingCharacters_48 rfl (lv_at hl 2 rfl) ?_
          have ho := (Option.some.inj hF).symm
          exact W.iret (v := x2) hx hb hr (fun t ht hW => ⟨⟨x2, (), rfl, ho, z_end ht hP⟩, hS.F ht⟩) hS.2.2 dX6_fittingCharacters_49
        · have hF := z_neg hF zc3
          refine lv_aload_n hx hb dX6_fittingCharacters_23 rfl (lv_at hl 0 rfl) ?_
          refine va_get (D := gD g) (ci := 4) (v := .ref t1) (C := RX6) (T := TX6) (N := 5) hx hb hts inX6 hown hK hP 0 rfl rfl 0 (by decide) (hts _ mU_242) (fun _ h9 => h9) rfl dX6_fittingCharacters_24 ?_
          refine lv_aload_n hx hb dX6_fittingCharacters_27 rfl (lv_at hl 0 rfl) ?_
          refine va_get (D := gD g) (ci := 4) (v := .int ppos) (C := RX6) (T := TX6) (N := 5) hx hb hts inX6 hown hK hP 0 rfl rfl 2 (by decide) (hts _ mU_245) (fun _ h9 => h9) rfl dX6_fittingCharacters_28 ?_
          refine lv_iload_n hx hb dX6_fittingCharacters_31 rfl (lv_at hl 2 rfl) ?_
          refine lv_iadd hx hb dX6_fittingCharacters_32 ?_
          obtain ⟨zg4, hF⟩ := z_grd hF
          refine va_cald hx hb hK hP 1 0 rfl rfl zg4 dX6_fittingCharacters_33 ?_
          refine lv_aload_n hx hb dX6_fittingCharacters_34 rfl (lv_at hl 1 rfl) ?_
          refine lv_iload_n hx hb dX6_fittingCharacters_35 rfl (lv_at hl 2 rfl) ?_
          obtain ⟨zo5, hzo5, hF⟩ := z_bind hF
          refine z_calli (fun (_ : Unit) => []) [] (va_runV (As := [.int x2]) (rest := [.int (ptx (Int32.toNatClampNeg (ppos + x2)))]) ⟨hx, hb, hml, hown, hts⟩ (c_J0_charAt_5068e l g _ k0 hk0 x2 _ hzo5) (cwV 1 hts (gdV mU_1073 mU_1074 mU_1075 mU_81 mU_1076) rfl rfl rfl (by decide +kernel) ⟨Nat.le_of_ble_eq_true rfl, Nat.le_of_ble_eq_true rfl⟩) ⟨z_blind _ _ _ _, vk_recv hB.2.2.1.1 hk0 hS, fun U hU hW => z_pre [] hP hD hK hB hS hA rfl rfl hU hW⟩ rfl rfl hl.1 rfl (lv_room (Nat.le_of_ble_eq_true rfl)) dX6_fittingCharacters_36 ⟨Nat.le_of_ble_eq_true rfl, Nat.le_of_ble_eq_true rfl⟩) hP hD hS hA rfl (fun _ => rfl) (fun r u H locs hw hP hD hS => ?_)
          subst hw
          have hP : va_P (gD g) zCl (wPT g t0 t1 t2 ptx plen ppos pcnt) H := hP
          have hD : va_D A (wPT g t0 t1 t2 ptx plen ppos pcnt) := hD
          refine lv_icmp_ne (tgt := 48) hx hb dX6_fittingCharacters_39 (by decide) (fun zc6 => ?_) (fun zc6 => ?_)
          · have hF := z_neg hF zc6
            refine lv_iload_n hx hb dX6_fittingCharacters_48 rfl (lv_at hl 2 rfl) ?_
            have ho := (Option.some.inj hF).symm
            exact W.iret (v := x2) hx hb hr (fun t ht hW => ⟨⟨x2, (), rfl, ho, z_end ht hP⟩, hS.F ht⟩) hS.2.2 dX6_fittingCharacters_49
          · have hF := z_pos hF zc6
            obtain ⟨zv7, ezv7, hF⟩ := z_let hF
            refine lv_iinc (v := zv7) (lv' := [(2, .int zv7), (0, .ref t0), (1, .ref (gaK g k0))]) hx hb dX6_fittingCharacters_42 hl (k := 2) rfl (by rw [ezv7]; rfl) (by decide) rfl (fun ls hl => ?_)
            refine lv_goto (tgt := 2) hx hb dX6_fittingCharacters_45 (by decide) ?_
            exact ih2 zv7 hF _ _ _ (lv_sub hl [1, 2, 0] rfl) hP hD hS
  refine lv_iconst (v := 0) hx hb dX6_fittingCharacters_0 (by decide) ?_
  refine lv_istore_n (lv' := [(2, .int 0), (0, .ref t0), (1, .ref (gaK g k0))]) hx hb dX6_fittingCharacters_1 rfl hl (by decide) rfl (fun ls hl => ?_)
  exact K2 fu 0 hF _ _ _ (lv_sub hl [1, 2, 0] rfl) hP hD hS
abbrev w_X6_readFirst : List Cond := .code yX6_readFirst cX6_readFirst 2 (some .boolean) :: wU
abbrev r_X6_readFirst : Room := { frames := 2, cells := 0, slots := 0, locals := 43 }
abbrev q_X6_readFirst (g : GG) (t0 t1 t2 u0 : Nat) (ptx : Nat → Int32) (plen : Int32) (ppos : Int32) (pcnt : Int32) (cc : CC) (o : Int32 × Int32 × CC) (A : Nat → Prop) := va_Qi (fun (r : Int32) (u : Int32 × CC) => o.1 = r ∧ o.2 = u) (fun u t => va_P (gD g) zCl (wPC g t0 t1 t2 u0 ptx plen u.1 pcnt u.2) t.heap) A
set_option maxHeartbeats 4000000 in
set_option maxRecDepth 100000 in
theorem c_X6_readFirst (l : Launch) (g : GG) (t0 t1 t2 u0 : Nat) (ptx : Nat → Int32) (plen : Int32) (ppos : Int32) (pcnt : Int32) (cc : CC) (sz : Nat) (fu : Nat) (o : Int32 × Int32 × CC) (hF : F_X6_readFirst fu ptx plen ppos cc = some o) : Met l yX6_readFirst w_X6_readFirst r_X6_readFirst (va_Pc [.ref t0, .ref u0] (zP g (wPC g t0 t1 t2 u0 ptx plen ppos pcnt cc) sz)) (q_X6_readFirst g t0 t1 t2 u0 ptx plen ppos pcnt cc o (va_A (wPC g t0 t1 t2 u0 ptx plen ppos pcnt cc) sz)) 0 0 (va_A (wPC g t0 t1 t2 u0 ptx plen ppos pcnt cc) sz) := by
  refine Met.ofW (cc := cX6_readFirst) (maxL := 2) (ret := (some .boolean)) (by decide) rfl ?_
  intro p e s m args below meth c s₁ B hml hv
  obtain ⟨rfl, rfl, hP, hK, hD0, hB⟩ := hv
  have hx := B.exec
  have hb := B.bytes
  have hr := B.returns
  have hts : ∀ w ∈ wU, w.before _ s = true := fun w h => atoms_spec (ws := w_X6_readFirst) B.pre w (List.mem_cons_of_mem _ h)
  have hown : s.vm.findClass RX6 = some m.cls := findClass_of_methodNamed B.named
  have hlocks := B.notSynchronized
  have hD := hD0.self (sz := s.heap.size)
  generalize hAe : va_A (wPC g t0 t1 t2 u0 ptx plen ppos pcnt cc) s.heap.size = A at hD hB ⊢
  have hA : ∀ q : Nat, s.heap.size ≤ q → A q := fun q h => by rw [← hAe]; exact Or.inr h
  have hS : va_S A s.heap s.heap [] := va_S.rf
  have hl := lv_entry ([.ref t0, .ref u0]) (n := 2) (Nat.le_of_ble_eq_true rfl)
  rw [lg_entry_eq]
  generalize (lg_sl ([.ref t0, .ref u0]) ++ List.replicate (2 - (lg_sl ([.ref t0, .ref u0])).length) Slot.unset).toArray = ls at hl ⊢
  have hl : lv_has ls 2 [(0, .ref t0), (1, .ref u0)] := hl
  unfold F_X6_readFirst at hF
  refine lv_aload_n hx hb dX6_readFirst_0 rfl (lv_at hl 1 rfl) ?_
  refine lv_aload_n hx hb dX6_readFirst_1 rfl (lv_at hl 0 rfl) ?_
  obtain ⟨zo1, hzo1, hF⟩ := z_bind hF
  refine z_calli (fun (u : Int32) => (wPT g t0 t1 t2 ptx plen u pcnt)) [0, 1] (va_runV (As := []) (rest := [.ref u0]) ⟨hx, hb, hml, hown, hts⟩ (c_X6_readNumber l g t0 t1 t2 ptx plen ppos pcnt _ fu _ hzo1) (cwV 0 hts (gdV mU_1106 mU_1108 mU_18 mU_70 mU_1109) rfl rfl rfl (by decide +kernel) ⟨Nat.le_of_ble_eq_true rfl, Nat.le_of_ble_eq_true rfl⟩) ⟨z_blind _ _ _ _, va_recv hK hP (ci := 4) (q0 := 0) rfl rfl, fun U hU hW => z_pre [0, 1] hP hD hK hB hS hA rfl rfl hU hW⟩ rfl rfl hl.1 rfl (lv_room (Nat.le_of_ble_eq_true rfl)) dX6_readFirst_2 ⟨Nat.le_of_ble_eq_true rfl, Nat.le_of_ble_eq_true rfl⟩) hP hD hS hA rfl (fun _ => rfl) (fun r u H locs hw hP hD hS => ?_)
  obtain ⟨rfl, rfl⟩ := hw
  have hP : va_P (gD g) zCl (wPC g t0 t1 t2 u0 ptx plen zo1.2 pcnt cc) H := hP
  have hD : va_D A (wPC g t0 t1 t2 u0 ptx plen zo1.2 pcnt cc) := hD
  refine va_putN (D := gD g) (ci := 0) (v := .int zo1.1) (ty := .int) (C := RX1) (T := TX1) (N := 7) hx hb hts inX1 tyX1 tyX1_ok nmX1 hown hK hP hD hS 2 rfl rfl 1 (by decide) (va_Nw.use rfl (hB.2.1.1 _ zn_215)) (fun _ h9 => h9) rfl (by decide +kernel) rfl rfl (Nat.le_of_ble_eq_true rfl) dX6_readFirst_5 (fun H locs hP hD hS => ?_)
  have hP : va_P (gD g) zCl (wPC g t0 t1 t2 u0 ptx plen zo1.2 pcnt ((k_kind cc), zo1.1, (k_second cc), (k_whole cc), (k_frac cc), (k_scale cc), (k_mode cc))) H := hP
  have hD : va_D A (wPC g t0 t1 t2 u0 ptx plen zo1.2 pcnt ((k_kind cc), zo1.1, (k_second cc), (k_whole cc), (k_frac cc), (k_scale cc), (k_mode cc))) := hD
  refine lv_aload_n hx hb dX6_readFirst_8 rfl (lv_at hl 1 rfl) ?_
  refine va_getN (D := gD g) (ci := 0) (v := .int zo1.1) (C := RX1) (T := TX1) (N := 7) hx hb hts inX1 hown hK hP 2 rfl rfl 1 (by decide) (va_Nw.use rfl (hB.2.1.1 _ zn_215)) (fun _ h9 => h9) rfl dX6_readFirst_9 ?_
  refine lv_iconst (v := (-1)) hx hb dX6_readFirst_12 (by decide) ?_
  refine lv_icmp_eq (tgt := 20) hx hb dX6_readFirst_13 (by decide) (fun zc2 => ?_) (fun zc2 => ?_)
  · have hF := z_pos hF zc2
    refine lv_iconst (v := 0) hx hb dX6_readFirst_20 (by decide) ?_
    have ho := (Option.some.inj hF).symm
    exact W.zret (v := 0) hx hb hr rfl (fun t ht hW => ⟨⟨0, (zo1.2, ((k_kind cc), zo1.1, (k_second cc), (k_whole cc), (k_frac cc), (k_scale cc), (k_mode cc))), rfl, ⟨by rw [ho], by rw [ho]⟩, z_end ht hP⟩, hS.F ht⟩) hS.2.2 dX6_readFirst_21
  · have hF := z_neg hF zc2
    refine lv_iconst (v := 1) hx hb dX6_readFirst_16 (by decide) ?_
    refine lv_goto (tgt := 21) hx hb dX6_readFirst_17 (by decide) ?_
    have ho := (Option.some.inj hF).symm
    exact W.zret (v := 1) hx hb hr rfl (fun t ht hW => ⟨⟨1, (zo1.2, ((k_kind cc), zo1.1, (k_second cc), (k_whole cc), (k_frac cc), (k_scale cc), (k_mode cc))), rfl, ⟨by rw [ho], by rw [ho]⟩, z_end ht hP⟩, hS.F ht⟩) hS.2.2 dX6_readFirst_21
abbrev w_X6_readSecond : List Cond := .code yX6_readSecond cX6_readSecond 2 (some .boolean) :: wU
abbrev r_X6_readSecond : Room := { frames := 2, cells := 0, slots := 0, locals := 43 }
abbrev q_X6_readSecond (g : GG) (t0 t1 t2 u0 : Nat) (ptx : Nat → Int32) (plen : Int32) (ppos : Int32) (pcnt : Int32) (cc : CC) (o : Int32 × Int32 × CC) (A : Nat → Prop) := va_Qi (fun (r : Int32) (u : Int32 × CC) => o.1 = r ∧ o.2 = u) (fun u t => va_P (gD g) zCl (wPC g t0 t1 t2 u0 ptx plen u.1 pcnt u.2) t.heap) A
set_option maxHeartbeats 4000000 in
set_option maxRecDepth 100000 in
theorem c_X6_readSecond (l : Launch) (g : GG) (t0 t1 t2 u0 : Nat) (ptx : Nat → Int32) (plen : Int32) (ppos : Int32) (pcnt : Int32) (cc : CC) (sz : Nat) (fu : Nat) (o : Int32 × Int32 × CC) (hF : F_X6_readSecond fu ptx plen ppos cc = some o) : Met l yX6_readSecond w_X6_readSecond r_X6_readSecond (va_Pc [.ref t0, .ref u0] (zP g (wPC g t0 t1 t2 u0 ptx plen ppos pcnt cc) sz)) (q_X6_readSecond g t0 t1 t2 u0 ptx plen ppos pcnt cc o (va_A (wPC g t0 t1 t2 u0 ptx plen ppos pcnt cc) sz)) 0 0 (va_A (wPC g t0 t1 t2 u0 ptx plen ppos pcnt cc) sz) := by
  refine Met.ofW (cc := cX6_readSecond) (maxL := 2) (ret := (some .boolean)) (by decide) rfl ?_
  intro p e s m args below meth c s₁ B hml hv
  obtain ⟨rfl, rfl, hP, hK, hD0, hB⟩ := hv
  have hx := B.exec
  have hb := B.bytes
  have hr := B.returns
  have hts : ∀ w ∈ wU, w.before _ s = true := fun w h => atoms_spec (ws := w_X6_readSecond) B.pre w (List.mem_cons_of_mem _ h)
  have hown : s.vm.findClass RX6 = some m.cls := findClass_of_methodNamed B.named
  have hlocks := B.notSynchronized
  have hD := hD0.self (sz := s.heap.size)
  generalize hAe : va_A (wPC g t0 t1 t2 u0 ptx plen ppos pcnt cc) s.heap.size = A at hD hB ⊢
  have hA : ∀ q : Nat, s.heap.size ≤ q → A q := fun q h => by rw [← hAe]; exact Or.inr h
  have hS : va_S A s.heap s.heap [] := va_S.rf
  have hl := lv_entry ([.ref t0, .ref u0]) (n := 2) (Nat.le_of_ble_eq_true rfl)
  rw [lg_entry_eq]
  generalize (lg_sl ([.ref t0, .ref u0]) ++ List.replicate (2 - (lg_sl ([.ref t0, .ref u0])).length) Slot.unset).toArray = ls at hl ⊢
  have hl : lv_has ls 2 [(0, .ref t0), (1, .ref u0)] := hl
  unfold F_X6_readSecond at hF
  refine lv_aload_n hx hb dX6_readSecond_0 rfl (lv_at hl 1 rfl) ?_
  refine lv_aload_n hx hb dX6_readSecond_1 rfl (lv_at hl 0 rfl) ?_
  obtain ⟨zo1, hzo1, hF⟩ := z_bind hF
  refine z_calli (fun (u : Int32) => (wPT g t0 t1 t2 ptx plen u pcnt)) [0, 1] (va_runV (As := []) (rest := [.ref u0]) ⟨hx, hb, hml, hown, hts⟩ (c_X6_readNumber l g t0 t1 t2 ptx plen ppos pcnt _ fu _ hzo1) (cwV 0 hts (gdV mU_1106 mU_1108 mU_18 mU_70 mU_1109) rfl rfl rfl (by decide +kernel) ⟨Nat.le_of_ble_eq_true rfl, Nat.le_of_ble_eq_true rfl⟩) ⟨z_blind _ _ _ _, va_recv hK hP (ci := 4) (q0 := 0) rfl rfl, fun U hU hW => z_pre [0, 1] hP hD hK hB hS hA rfl rfl hU hW⟩ rfl rfl hl.1 rfl (lv_room (Nat.le_of_ble_eq_true rfl)) dX6_readSecond_2 ⟨Nat.le_of_ble_eq_true rfl, Nat.le_of_ble_eq_true rfl⟩) hP hD hS hA rfl (fun _ => rfl) (fun r u H locs hw hP hD hS => ?_)
  obtain ⟨rfl, rfl⟩ := hw
  have hP : va_P (gD g) zCl (wPC g t0 t1 t2 u0 ptx plen zo1.2 pcnt cc) H := hP
  have hD : va_D A (wPC g t0 t1 t2 u0 ptx plen zo1.2 pcnt cc) := hD
  refine va_putN (D := gD g) (ci := 0) (v := .int zo1.1) (ty := .int) (C := RX1) (T := TX1) (N := 7) hx hb hts inX1 tyX1 tyX1_ok nmX1 hown hK hP hD hS 2 rfl rfl 2 (by decide) (va_Nw.use rfl (hB.2.1.1 _ zn_217)) (fun _ h9 => h9) rfl (by decide +kernel) rfl rfl (Nat.le_of_ble_eq_true rfl) dX6_readSecond_5 (fun H locs hP hD hS => ?_)
  have hP : va_P (gD g) zCl (wPC g t0 t1 t2 u0 ptx plen zo1.2 pcnt ((k_kind cc), (k_first cc), zo1.1, (k_whole cc), (k_frac cc), (k_scale cc), (k_mode cc))) H := hP
  have hD : va_D A (wPC g t0 t1 t2 u0 ptx plen zo1.2 pcnt ((k_kind cc), (k_first cc), zo1.1, (k_whole cc), (k_frac cc), (k_scale cc), (k_mode cc))) := hD
  refine lv_aload_n hx hb dX6_readSecond_8 rfl (lv_at hl 1 rfl) ?_
  refine va_getN (D := gD g) (ci := 0) (v := .int zo1.1) (C := RX1) (T := TX1) (N := 7) hx hb hts inX1 hown hK hP 2 rfl rfl 2 (by decide) (va_Nw.use rfl (hB.2.1.1 _ zn_217)) (fun _ h9 => h9) rfl dX6_readSecond_9 ?_
  refine lv_iconst (v := (-1)) hx hb dX6_readSecond_12 (by decide) ?_
  refine lv_icmp_eq (tgt := 20) hx hb dX6_readSecond_13 (by decide) (fun zc2 => ?_) (fun zc2 => ?_)
  · have hF := z_pos hF zc2
    refine lv_iconst (v := 0) hx hb dX6_readSecond_20 (by decide) ?_
    have ho := (Option.some.inj hF).symm
    exact W.zret (v := 0) hx hb hr rfl (fun t ht hW => ⟨⟨0, (zo1.2, ((k_kind cc), (k_first cc), zo1.1, (k_whole cc), (k_frac cc), (k_scale cc), (k_mode cc))), rfl, ⟨by rw [ho], by rw [ho]⟩, z_end ht hP⟩, hS.F ht⟩) hS.2.2 dX6_readSecond_21
  · have hF := z_neg hF zc2
    refine lv_iconst (v := 1) hx hb dX6_readSecond_16 (by decide) ?_
    refine lv_goto (tgt := 21) hx hb dX6_readSecond_17 (by decide) ?_
    have ho := (Option.some.inj hF).symm
    exact W.zret (v := 1) hx hb hr rfl (fun t ht hW => ⟨⟨1, (zo1.2, ((k_kind cc), (k_first cc), zo1.1, (k_whole cc), (k_frac cc), (k_scale cc), (k_mode cc))), rfl, ⟨by rw [ho], by rw [ho]⟩, z_end ht hP⟩, hS.F ht⟩) hS.2.2 dX6_readSecond_21
abbrev w_X6_readFraction : List Cond := .code yX6_readFraction cX6_readFraction 5 (some .boolean) :: wU
abbrev r_X6_readFraction : Room := { frames := 1, cells := 0, slots := 0, locals := 40 }
abbrev q_X6_readFraction (g : GG) (t0 t1 t2 u0 : Nat) (ptx : Nat → Int32) (plen : Int32) (ppos : Int32) (pcnt : Int32) (cc : CC) (o : Int32 × Int32 × CC) (A : Nat → Prop) := va_Qi (fun (r : Int32) (u : Int32 × CC) => o.1 = r ∧ o.2 = u) (fun u t => va_P (gD g) zCl (wPC g t0 t1 t2 u0 ptx plen u.1 pcnt u.2) t.heap) A
set_option maxHeartbeats 4000000 in
set_option maxRecDepth 100000 in
theorem c_X6_readFraction (l : Launch) (g : GG) (t0 t1 t2 u0 : Nat) (ptx : Nat → Int32) (plen : Int32) (ppos : Int32) (pcnt : Int32) (cc : CC) (sz : Nat) (fu : Nat) (o : Int32 × Int32 × CC) (hF : F_X6_readFraction fu ptx plen ppos cc = some o) : Met l yX6_readFraction w_X6_readFraction r_X6_readFraction (va_Pc [.ref t0, .ref u0] (zP g (wPC g t0 t1 t2 u0 ptx plen ppos pcnt cc) sz)) (q_X6_readFraction g t0 t1 t2 u0 ptx plen ppos pcnt cc o (va_A (wPC g t0 t1 t2 u0 ptx plen ppos pcnt cc) sz)) 0 0 (va_A (wPC g t0 t1 t2 u0 ptx plen ppos pcnt cc) sz) := by
  refine Met.ofW (cc := cX6_readFraction) (maxL := 5) (ret := (some .boolean)) (by decide) rfl ?_
  intro p e s m args below meth c s₁ B hml hv
  obtain ⟨rfl, rfl, hP, hK, hD0, hB⟩ := hv
  have hx := B.exec
  have hb := B.bytes
  have hr := B.returns
  have hts : ∀ w ∈ wU, w.before _ s = true := fun w h => atoms_spec (ws := w_X6_readFraction) B.pre w (List.mem_cons_of_mem _ h)
  have hown : s.vm.findClass RX6 = some m.cls := findClass_of_methodNamed B.named
  have hlocks := B.notSynchronized
  have hD := hD0.self (sz := s.heap.size)
  generalize hAe : va_A (wPC g t0 t1 t2 u0 ptx plen ppos pcnt cc) s.heap.size = A at hD hB ⊢
  have hA : ∀ q : Nat, s.heap.size ≤ q → A q := fun q h => by rw [← hAe]; exact Or.inr h
  have hS : va_S A s.heap s.heap [] := va_S.rf
  have hl := lv_entry ([.ref t0, .ref u0]) (n := 5) (Nat.le_of_ble_eq_true rfl)
  rw [lg_entry_eq]
  generalize (lg_sl ([.ref t0, .ref u0]) ++ List.replicate (5 - (lg_sl ([.ref t0, .ref u0])).length) Slot.unset).toArray = ls at hl ⊢
  have hl : lv_has ls 5 [(0, .ref t0), (1, .ref u0)] := hl
  unfold F_X6_readFraction at hF
  have K17 : ∀ (n17 : Nat) (ppos : Int32) (cc : CC) (x2 : Int32) (x3 : Int32) (x4 : Int32), F_X6_readFraction_17 fu n17 ptx plen ppos cc x2 x3 x4 = some o → ∀ (H : Heap) (locs : List Loc) (ls : Array Slot), lv_has ls 5 [(0, .ref t0), (1, .ref u0), (2, .int x2), (3, .int x3), (4, .int x4)] → va_P (gD g) zCl (wPC g t0 t1 t2 u0 ptx plen ppos pcnt cc) H → va_D A (wPC g t0 t1 t2 u0 ptx plen ppos pcnt cc) → va_S A s.heap H locs → W p l e (headSpec w_X6_readFraction r_X6_readFraction).room s m ([.ref t0, .ref u0] : List Value).toArray below meth c H locs 0 0 (MQ below (q_X6_readFraction g t0 t1 t2 u0 ptx plen ppos pcnt cc o A) ([.ref t0, .ref u0] : List Value).toArray s 0 0 A) (F0 m 17 ls []) := by
    intro n17
    induction n17 with
    | zero =>
      intro ppos cc x2 x3 x4 hF
      exact absurd hF (by simp [F_X6_readFraction_17])
    | succ n17 ih17 =>
      have K36 : ∀ (_ : Unit) (ppos : Int32) (cc : CC) (x3 : Int32) (x4 : Int32) (y0 : Int32), F_X6_readFraction_36 (F_X6_readFraction_17 fu n17) fu ptx plen ppos cc x3 x4 y0 = some o → ∀ (H : Heap) (locs : List Loc) (ls : Array Slot), lv_has ls 5 [(0, .ref t0), (1, .ref u0), (3, .int x3), (4, .int x4)] → va_P (gD g) zCl (wPC g t0 t1 t2 u0 ptx plen ppos pcnt cc) H → va_D A (wPC g t0 t1 t2 u0 ptx plen ppos pcnt cc) → va_S A s.heap H locs → W p l e (headSpec w_X6_readFraction r_X6_readFraction).room s m ([.ref t0, .ref u0] : List Value).toArray below meth c H locs 0 0 (MQ below (q_X6_readFraction g t0 t1 t2 u0 ptx plen ppos pcnt cc o A) ([.ref t0, .ref u0] : List Value).toArray s 0 0 A) (F0 m 36 ls [.int y0]) := by
        intro _ ppos cc x3 x4 y0 hF H locs ls hl hP hD hS
        unfold F_X6_readFraction_36 at hF
        refine lv_istore_n (lv' := [(2, .int y0), (0, .ref t0), (1, .ref u0), (3, .int x3), (4, .int x4)]) hx hb dX6_readFraction_36 rfl hl (by decide) rfl (fun ls hl => ?_)
        refine lv_iload_n hx hb dX6_readFraction_37 rfl (lv_at hl 3 rfl) ?_
        refine lv_bipush (v := 10) hx hb dX6_readFraction_38 (by decide) ?_
        refine lv_imul hx hb dX6_readFraction_40 ?_
        refine lv_iload_n hx hb dX6_readFraction_41 rfl (lv_at hl 0 rfl) ?_
        refine lv_iconst (v := 0) hx hb dX6_readFraction_42 (by decide) ?_
        refine va_mmax hx hb (hml.trans hl.1.symm) hown (hts _ mU_1093) (hts _ mU_565) (hts _ mU_83) (hts _ mU_566) (Nat.le_of_ble_eq_true rfl) (Nat.le_of_ble_eq_true rfl) (Nat.le_of_ble_eq_true rfl) (Nat.le_of_ble_eq_true rfl) dX6_readFraction_43 ?_
        refine lv_iadd hx hb dX6_readFraction_46 ?_
        obtain ⟨zv1, ezv1, hF⟩ := z_let hF
        refine z_topi ezv1 ?_
        refine lv_istore_n (lv' := [(3, .int zv1), (2, .int y0), (0, .ref t0), (1, .ref u0), (4, .int x4)]) hx hb dX6_readFraction_47 rfl hl (by decide) rfl (fun ls hl => ?_)
        obtain ⟨zv2, ezv2, hF⟩ := z_let hF
        refine lv_iinc (v := zv2) (lv' := [(4, .int zv2), (3, .int zv1), (2, .int y0), (0, .ref t0), (1, .ref u0)]) hx hb dX6_readFraction_48 hl (k := 4) rfl (by rw [ezv2]; rfl) (by decide) rfl (fun ls hl => ?_)
        refine lv_goto (tgt := 17) hx hb dX6_readFraction_51 (by decide) ?_
        exact ih17 ppos cc y0 zv1 zv2 hF _ _ _ (lv_sub hl [3, 4, 2, 1, 0] rfl) hP hD hS
      intro ppos cc x2 x3 x4 hF H locs ls hl hP hD hS
      unfold F_X6_readFraction_17 at hF
      refine lv_iload hx hb dX6_readFraction_17 (lv_at hl 4 rfl) ?_
      refine lv_iconst (v := 4) hx hb dX6_readFraction_19 (by decide) ?_
      refine lv_icmp_ge (tgt := 54) hx hb dX6_readFraction_20 (by decide) (fun zc3 => ?_) (fun zc3 => ?_)
      · have hF := z_pos hF zc3
        refine lv_aload_n hx hb dX6_readFraction_54 rfl (lv_at hl 1 rfl) ?_
        refine lv_iload_n hx hb dX6_readFraction_55 rfl (lv_at hl 3 rfl) ?_
        refine va_putN (D := gD g) (ci := 0) (v := .int x3) (ty := .int) (C := RX1) (T := TX1) (N := 7) hx hb hts inX1 tyX1 tyX1_ok nmX1 hown hK hP hD hS 2 rfl rfl 4 (by decide) (va_Nw.use rfl (hB.2.1.1 _ zn_221)) (fun _ h9 => h9) rfl (by decide +kernel) rfl rfl (Nat.le_of_ble_eq_true rfl) dX6_readFraction_56 (fun H locs hP hD hS => ?_)
        have hP : va_P (gD g) zCl (wPC g t0 t1 t2 u0 ptx plen ppos pcnt ((k_kind cc), (k_first cc), (k_second cc), (k_whole cc), x3, (k_scale cc), (k_mode cc))) H := hP
        have hD : va_D A (wPC g t0 t1 t2 u0 ptx plen ppos pcnt ((k_kind cc), (k_first cc), (k_second cc), (k_whole cc), x3, (k_scale cc), (k_mode cc))) := hD
        refine lv_iconst (v := 1) hx hb dX6_readFraction_59 (by decide) ?_
        have ho := (Option.some.inj hF).symm
        exact W.zret (v := 1) hx hb hr rfl (fun t ht hW => ⟨⟨1, (ppos, ((k_kind cc), (k_first cc), (k_second cc), (k_whole cc), x3, (k_scale cc), (k_mode cc))), rfl, ⟨by rw [ho], by rw [ho]⟩, z_end ht hP⟩, hS.F ht⟩) hS.2.2 dX6_readFraction_60
      · have hF := z_neg hF zc3
        refine lv_iload_n hx hb dX6_readFraction_23 rfl (lv_at hl 2 rfl) ?_
        refine lv_iconst (v := (-1)) hx hb dX6_readFraction_24 (by decide) ?_
        refine lv_icmp_ne (tgt := 32) hx hb dX6_readFraction_25 (by decide) (fun zc4 => ?_) (fun zc4 => ?_)
        · have hF := z_neg hF zc4
          refine lv_aload_n hx hb dX6_readFraction_32 rfl (lv_at hl 0 rfl) ?_
          obtain ⟨zo5, hzo5, hF⟩ := z_bind hF
          refine z_calli (fun (u : Int32) => (wPT g t0 t1 t2 ptx plen u pcnt)) [0, 1] (va_runV (As := []) (rest := []) ⟨hx, hb, hml, hown, hts⟩ (c_X6_readDigit l g t0 t1 t2 ptx plen ppos pcnt _ _ hzo5) (cwV 0 hts (gdV mU_1110 mU_1112 mU_19 mU_70 mU_1113) rfl rfl rfl (by decide +kernel) ⟨Nat.le_of_ble_eq_true rfl, Nat.le_of_ble_eq_true rfl⟩) ⟨z_blind _ _ _ _, va_recv hK hP (ci := 4) (q0 := 0) rfl rfl, fun U hU hW => z_pre [0, 1] hP hD hK hB hS hA rfl rfl hU hW⟩ rfl rfl hl.1 rfl (lv_room (Nat.le_of_ble_eq_true rfl)) dX6_readFraction_33 ⟨Nat.le_of_ble_eq_true rfl, Nat.le_of_ble_eq_true rfl⟩) hP hD hS hA rfl (fun _ => rfl) (fun r u H locs hw hP hD hS => ?_)
          obtain ⟨rfl, rfl⟩ := hw
          have hP : va_P (gD g) zCl (wPC g t0 t1 t2 u0 ptx plen zo5.2 pcnt cc) H := hP
          have hD : va_D A (wPC g t0 t1 t2 u0 ptx plen zo5.2 pcnt cc) := hD
          exact K36 () zo5.2 cc x3 x4 zo5.1 hF _ _ _ (lv_sub hl [0, 1, 3, 4] rfl) hP hD hS
        · have hF := z_pos hF zc4
          refine lv_iconst (v := (-1)) hx hb dX6_readFraction_28 (by decide) ?_
          refine lv_goto (tgt := 36) hx hb dX6_readFraction_29 (by decide) ?_
          exact K36 () ppos cc x3 x4 (-1) hF _ _ _ (lv_sub hl [0, 1, 3, 4] rfl) hP hD hS
  refine lv_aload_n hx hb dX6_readFraction_0 rfl (lv_at hl 0 rfl) ?_
  obtain ⟨zo6, hzo6, hF⟩ := z_bind hF
  refine z_calli (fun (u : Int32) => (wPT g t0 t1 t2 ptx plen u pcnt)) [0, 1] (va_runV (As := []) (rest := []) ⟨hx, hb, hml, hown, hts⟩ (c_X6_readDigit l g t0 t1 t2 ptx plen ppos pcnt _ _ hzo6) (cwV 0 hts (gdV mU_1110 mU_1112 mU_19 mU_70 mU_1113) rfl rfl rfl (by decide +kernel) ⟨Nat.le_of_ble_eq_true rfl, Nat.le_of_ble_eq_true rfl⟩) ⟨z_blind _ _ _ _, va_recv hK hP (ci := 4) (q0 := 0) rfl rfl, fun U hU hW => z_pre [0, 1] hP hD hK hB hS hA rfl rfl hU hW⟩ rfl rfl hl.1 rfl (lv_room (Nat.le_of_ble_eq_true rfl)) dX6_readFraction_1 ⟨Nat.le_of_ble_eq_true rfl, Nat.le_of_ble_eq_true rfl⟩) hP hD hS hA rfl (fun _ => rfl) (fun r u H locs hw hP hD hS => ?_)
  obtain ⟨rfl, rfl⟩ := hw
  have hP : va_P (gD g) zCl (wPC g t0 t1 t2 u0 ptx plen zo6.2 pcnt cc) H := hP
  have hD : va_D A (wPC g t0 t1 t2 u0 ptx plen zo6.2 pcnt cc) := hD
  refine lv_istore_n (lv' := [(2, .int zo6.1), (0, .ref t0), (1, .ref u0)]) hx hb dX6_readFraction_4 rfl hl (by decide) rfl (fun ls hl => ?_)
  refine lv_iload_n hx hb dX6_readFraction_5 rfl (lv_at hl 0 rfl) ?_
  refine lv_iconst (v := (-1)) hx hb dX6_readFraction_6 (by decide) ?_
  refine lv_icmp_ne (tgt := 12) hx hb dX6_readFraction_7 (by decide) (fun zc7 => ?_) (fun zc7 => ?_)
  · have hF := z_neg hF zc7
    refine lv_iload_n hx hb dX6_readFraction_12 rfl (lv_at hl 0 rfl) ?_
    refine lv_istore_n (lv' := [(3, .int zo6.1), (2, .int zo6.1), (0, .ref t0), (1, .ref u0)]) hx hb dX6_readFraction_13 rfl hl (by decide) rfl (fun ls hl => ?_)
    refine lv_iconst (v := 1) hx hb dX6_readFraction_14 (by decide) ?_
    refine lv_istore (lv' := [(4, .int 1), (3, .int zo6.1), (2, .int zo6.1), (0, .ref t0), (1, .ref u0)]) hx hb dX6_readFraction_15 hl (by decide) rfl (fun ls hl => ?_)
    exact K17 fu zo6.2 cc zo6.1 zo6.1 1 hF _ _ _ (lv_sub hl [3, 4, 2, 1, 0] rfl) hP hD hS
  · have hF := z_pos hF zc7
    refine lv_iconst (v := 0) hx hb dX6_readFraction_10 (by decide) ?_
    have ho := (Option.some.inj hF).symm
    exact W.zret (v := 0) hx hb hr rfl (fun t ht hW => ⟨⟨0, (zo6.2, cc), rfl, ⟨by rw [ho], by rw [ho]⟩, z_end ht hP⟩, hS.F ht⟩) hS.2.2 dX6_readFraction_11
abbrev w_X6_readDecimal : List Cond := .code yX6_readDecimal cX6_readDecimal 2 (some .boolean) :: wU
abbrev r_X6_readDecimal : Room := { frames := 2, cells := 0, slots := 0, locals := 64 }
abbrev q_X6_readDecimal (g : GG) (t0 t1 t2 u0 : Nat) (ptx : Nat → Int32) (plen : Int32) (ppos : Int32) (pcnt : Int32) (cc : CC) (o : Int32 × Int32 × CC) (A : Nat → Prop) := va_Qi (fun (r : Int32) (u : Int32 × CC) => o.1 = r ∧ o.2 = u) (fun u t => va_P (gD g) zCl (wPC g t0 t1 t2 u0 ptx plen u.1 pcnt u.2) t.heap) A
set_option maxHeartbeats 4000000 in
set_option maxRecDepth 100000 in
theorem c_X6_readDecimal (l : Launch) (g : GG) (t0 t1 t2 u0 : Nat) (ptx : Nat → Int32) (plen : Int32) (ppos : Int32) (pcnt : Int32) (cc : CC) (sz : Nat) (fu : Nat) (o : Int32 × Int32 × CC) (hF : F_X6_readDecimal fu ptx plen ppos cc = some o) : Met l yX6_readDecimal w_X6_readDecimal r_X6_readDecimal (va_Pc [.ref t0, .ref u0] (zP g (wPC g t0 t1 t2 u0 ptx plen ppos pcnt cc) sz)) (q_X6_readDecimal g t0 t1 t2 u0 ptx plen ppos pcnt cc o (va_A (wPC g t0 t1 t2 u0 ptx plen ppos pcnt cc) sz)) 0 0 (va_A (wPC g t0 t1 t2 u0 ptx plen ppos pcnt cc) sz) := by
  refine Met.ofW (cc := cX6_readDecimal) (maxL := 2) (ret := (some .boolean)) (by decide) rfl ?_
  intro p e s m args below meth c s₁ B hml hv
  obtain ⟨rfl, rfl, hP, hK, hD0, hB⟩ := hv
  have hx := B.exec
  have hb := B.bytes
  have hr := B.returns
  have hts : ∀ w ∈ wU, w.before _ s = true := fun w h => atoms_spec (ws := w_X6_readDecimal) B.pre w (List.mem_cons_of_mem _ h)
  have hown : s.vm.findClass RX6 = some m.cls := findClass_of_methodNamed B.named
  have hlocks := B.notSynchronized
  have hD := hD0.self (sz := s.heap.size)
  generalize hAe : va_A (wPC g t0 t1 t2 u0 ptx plen ppos pcnt cc) s.heap.size = A at hD hB ⊢
  have hA : ∀ q : Nat, s.heap.size ≤ q → A q := fun q h => by rw [← hAe]; exact Or.inr h
  have hS : va_S A s.heap s.heap [] := va_S.rf
  have hl := lv_entry ([.ref t0, .ref u0]) (n := 2) (Nat.le_of_ble_eq_true rfl)
  rw [lg_entry_eq]
  generalize (lg_sl ([.ref t0, .ref u0]) ++ List.replicate (2 - (lg_sl ([.ref t0, .ref u0])).length) Slot.unset).toArray = ls at hl ⊢
  have hl : lv_has ls 2 [(0, .ref t0), (1, .ref u0)] := hl
  unfold F_X6_readDecimal at hF
  refine lv_aload_n hx hb dX6_readDecimal_0 rfl (lv_at hl 1 rfl) ?_
  refine lv_aload_n hx hb dX6_readDecimal_1 rfl (lv_at hl 0 rfl) ?_
  obtain ⟨zo1, hzo1, hF⟩ := z_bind hF
  refine z_calli (fun (u : Int32) => (wPT g t0 t1 t2 ptx plen u pcnt)) [0, 1] (va_runV (As := []) (rest := [.ref u0]) ⟨hx, hb, hml, hown, hts⟩ (c_X6_readNumber l g t0 t1 t2 ptx plen ppos pcnt _ fu _ hzo1) (cwV 0 hts (gdV mU_1106 mU_1108 mU_18 mU_70 mU_1109) rfl rfl rfl (by decide +kernel) ⟨Nat.le_of_ble_eq_true rfl, Nat.le_of_ble_eq_true rfl⟩) ⟨z_blind _ _ _ _, va_recv hK hP (ci := 4) (q0 := 0) rfl rfl, fun U hU hW => z_pre [0, 1] hP hD hK hB hS hA rfl rfl hU hW⟩ rfl rfl hl.1 rfl (lv_room (Nat.le_of_ble_eq_true rfl)) dX6_readDecimal_2 ⟨Nat.le_of_ble_eq_true rfl, Nat.le_of_ble_eq_true rfl⟩) hP hD hS hA rfl (fun _ => rfl) (fun r u H locs hw hP hD hS => ?_)
  obtain ⟨rfl, rfl⟩ := hw
  have hP : va_P (gD g) zCl (wPC g t0 t1 t2 u0 ptx plen zo1.2 pcnt cc) H := hP
  have hD : va_D A (wPC g t0 t1 t2 u0 ptx plen zo1.2 pcnt cc) := hD
  refine va_putN (D := gD g) (ci := 0) (v := .int zo1.1) (ty := .int) (C := RX1) (T := TX1) (N := 7) hx hb hts inX1 tyX1 tyX1_ok nmX1 hown hK hP hD hS 2 rfl rfl 3 (by decide) (va_Nw.use rfl (hB.2.1.1 _ zn_219)) (fun _ h9 => h9) rfl (by decide +kernel) rfl rfl (Nat.le_of_ble_eq_true rfl) dX6_readDecimal_5 (fun H locs hP hD hS => ?_)
  have hP : va_P (gD g) zCl (wPC g t0 t1 t2 u0 ptx plen zo1.2 pcnt ((k_kind cc), (k_first cc), (k_second cc), zo1.1, (k_frac cc), (k_scale cc), (k_mode cc))) H := hP
  have hD : va_D A (wPC g t0 t1 t2 u0 ptx plen zo1.2 pcnt ((k_kind cc), (k_first cc), (k_second cc), zo1.1, (k_frac cc), (k_scale cc), (k_mode cc))) := hD
  refine lv_aload_n hx hb dX6_readDecimal_8 rfl (lv_at hl 1 rfl) ?_
  refine lv_iconst (v := 0) hx hb dX6_readDecimal_9 (by decide) ?_
  refine va_putN (D := gD g) (ci := 0) (v := .int 0) (ty := .int) (C := RX1) (T := TX1) (N := 7) hx hb hts inX1 tyX1 tyX1_ok nmX1 hown hK hP hD hS 2 rfl rfl 4 (by decide) (va_Nw.use rfl (hB.2.1.1 _ zn_221)) (fun _ h9 => h9) rfl (by decide +kernel) rfl rfl (Nat.le_of_ble_eq_true rfl) dX6_readDecimal_10 (fun H locs hP hD hS => ?_)
  have hP : va_P (gD g) zCl (wPC g t0 t1 t2 u0 ptx plen zo1.2 pcnt ((k_kind cc), (k_first cc), (k_second cc), zo1.1, 0, (k_scale cc), (k_mode cc))) H := hP
  have hD : va_D A (wPC g t0 t1 t2 u0 ptx plen zo1.2 pcnt ((k_kind cc), (k_first cc), (k_second cc), zo1.1, 0, (k_scale cc), (k_mode cc))) := hD
  refine lv_aload_n hx hb dX6_readDecimal_13 rfl (lv_at hl 1 rfl) ?_
  refine va_getN (D := gD g) (ci := 0) (v := .int zo1.1) (C := RX1) (T := TX1) (N := 7) hx hb hts inX1 hown hK hP 2 rfl rfl 3 (by decide) (va_Nw.use rfl (hB.2.1.1 _ zn_219)) (fun _ h9 => h9) rfl dX6_readDecimal_14 ?_
  refine lv_iconst (v := (-1)) hx hb dX6_readDecimal_17 (by decide) ?_
  refine lv_icmp_ne (tgt := 23) hx hb dX6_readDecimal_18 (by decide) (fun zc2 => ?_) (fun zc2 => ?_)
  · have hF := z_neg hF zc2
    refine lv_aload_n hx hb dX6_readDecimal_23 rfl (lv_at hl 0 rfl) ?_
    refine lv_bipush (v := 46) hx hb dX6_readDecimal_24 (by decide) ?_
    obtain ⟨zo3, hzo3, hF⟩ := z_bind hF
    refine z_calli (fun (u : Int32) => (wPT g t0 t1 t2 ptx plen u pcnt)) [0, 1] (va_runV (As := [.int 46]) (rest := []) ⟨hx, hb, hml, hown, hts⟩ (c_X6_readCharacter l g t0 t1 t2 ptx plen zo1.2 pcnt _ 46 _ hzo3) (cwV 1 hts (gdV mU_1114 mU_1116 mU_20 mU_70 mU_1117) rfl rfl rfl (by decide +kernel) ⟨Nat.le_of_ble_eq_true rfl, Nat.le_of_ble_eq_true rfl⟩) ⟨z_blind _ _ _ _, va_recv hK hP (ci := 4) (q0 := 0) rfl rfl, fun U hU hW => z_pre [0, 1] hP hD hK hB hS hA rfl rfl hU hW⟩ rfl rfl hl.1 rfl (lv_room (Nat.le_of_ble_eq_true rfl)) dX6_readDecimal_26 ⟨Nat.le_of_ble_eq_true rfl, Nat.le_of_ble_eq_true rfl⟩) hP hD hS hA rfl (fun _ => rfl) (fun r u H locs hw hP hD hS => ?_)
    obtain ⟨rfl, rfl⟩ := hw
    have hP : va_P (gD g) zCl (wPC g t0 t1 t2 u0 ptx plen zo3.2 pcnt ((k_kind cc), (k_first cc), (k_second cc), zo1.1, 0, (k_scale cc), (k_mode cc))) H := hP
    have hD : va_D A (wPC g t0 t1 t2 u0 ptx plen zo3.2 pcnt ((k_kind cc), (k_first cc), (k_second cc), zo1.1, 0, (k_scale cc), (k_mode cc))) := hD
    refine lv_if_eq (tgt := 40) hx hb dX6_readDecimal_29 (by decide) (fun zc4 => ?_) (fun zc4 => ?_)
    · have hF := z_pos hF zc4
      refine lv_iconst (v := 1) hx hb dX6_readDecimal_40 (by decide) ?_
      refine lv_goto (tgt := 45) hx hb dX6_readDecimal_41 (by decide) ?_
      have ho := (Option.some.inj hF).symm
      exact W.zret (v := 1) hx hb hr rfl (fun t ht hW => ⟨⟨1, (zo3.2, ((k_kind cc), (k_first cc), (k_second cc), zo1.1, 0, (k_scale cc), (k_mode cc))), rfl, ⟨by rw [ho], by rw [ho]⟩, z_end ht hP⟩, hS.F ht⟩) hS.2.2 dX6_readDecimal_45
    · have hF := z_neg hF zc4
      refine lv_aload_n hx hb dX6_readDecimal_32 rfl (lv_at hl 0 rfl) ?_
      refine lv_aload_n hx hb dX6_readDecimal_33 rfl (lv_at hl 1 rfl) ?_
      obtain ⟨zo5, hzo5, hF⟩ := z_bind hF
      refine z_calliE (fun (u : Int32 × CC) => (wPC g t0 t1 t2 u0 ptx plen u.1 pcnt u.2)) (va_runV (As := [.ref u0]) (rest := []) ⟨hx, hb, hml, hown, hts⟩ (c_X6_readFraction l g t0 t1 t2 u0 ptx plen zo3.2 pcnt ((k_kind cc), (k_first cc), (k_second cc), zo1.1, 0, (k_scale cc), (k_mode cc)) _ fu _ hzo5) (cwV 1 hts (gdV mU_1118 mU_1120 mU_21 mU_70 mU_1121) rfl rfl rfl (by decide +kernel) ⟨Nat.le_of_ble_eq_true rfl, Nat.le_of_ble_eq_true rfl⟩) ⟨z_blind _ _ _ _, va_recv hK hP (ci := 4) (q0 := 0) rfl rfl, fun U hU hW => z_preE hP hD hK hB hS hA hU hW⟩ rfl rfl hl.1 rfl (lv_room (Nat.le_of_ble_eq_true rfl)) dX6_readDecimal_34 ⟨Nat.le_of_ble_eq_true rfl, Nat.le_of_ble_eq_true rfl⟩) hD hS hA (fun _ => rfl) (fun r u H locs hw hP hD hS => ?_)
      obtain ⟨rfl, rfl⟩ := hw
      have hP : va_P (gD g) zCl (wPC g t0 t1 t2 u0 ptx plen zo5.2.1 pcnt zo5.2.2) H := hP
      have hD : va_D A (wPC g t0 t1 t2 u0 ptx plen zo5.2.1 pcnt zo5.2.2) := hD
      refine lv_if_eq (tgt := 44) hx hb dX6_readDecimal_37 (by decide) (fun zc6 => ?_) (fun zc6 => ?_)
      · have hF := z_pos hF zc6
        refine lv_iconst (v := 0) hx hb dX6_readDecimal_44 (by decide) ?_
        have ho := (Option.some.inj hF).symm
        exact W.zret (v := 0) hx hb hr rfl (fun t ht hW => ⟨⟨0, (zo5.2.1, zo5.2.2), rfl, ⟨by rw [ho], by rw [ho]⟩, z_end ht hP⟩, hS.F ht⟩) hS.2.2 dX6_readDecimal_45
      · have hF := z_neg hF zc6
        refine lv_iconst (v := 1) hx hb dX6_readDecimal_40 (by decide) ?_
        refine lv_goto (tgt := 45) hx hb dX6_readDecimal_41 (by decide) ?_
        have ho := (Option.some.inj hF).symm
        exact W.zret (v := 1) hx hb hr rfl (fun t ht hW => ⟨⟨1, (zo5.2.1, zo5.2.2), rfl, ⟨by rw [ho], by rw [ho]⟩, z_end ht hP⟩, hS.F ht⟩) hS.2.2 dX6_readDecimal_45
  · have hF := z_pos hF zc2
    refine lv_iconst (v := 0) hx hb dX6_readDecimal_21 (by decide) ?_
    have ho := (Option.some.inj hF).symm
    exact W.zret (v := 0) hx hb hr rfl (fun t ht hW => ⟨⟨0, (zo1.2, ((k_kind cc), (k_first cc), (k_second cc), zo1.1, 0, (k_scale cc), (k_mode cc))), rfl, ⟨by rw [ho], by rw [ho]⟩, z_end ht hP⟩, hS.F ht⟩) hS.2.2 dX6_readDecimal_22
abbrev w_X6_readScale : List Cond := .code yX6_readScale cX6_readScale 2 (some .boolean) :: wU
abbrev r_X6_readScale : Room := { frames := 1, cells := 0, slots := 0, locals := 20 }
abbrev q_X6_readScale (g : GG) (t0 t1 t2 u0 : Nat) (ptx : Nat → Int32) (plen : Int32) (ppos : Int32) (pcnt : Int32) (cc : CC) (o : Int32 × Int32 × CC) (A : Nat → Prop) := va_Qi (fun (r : Int32) (u : Int32 × CC) => o.1 = r ∧ o.2 = u) (fun u t => va_P (gD g) zCl (wPC g t0 t1 t2 u0 ptx plen u.1 pcnt u.2) t.heap) A
set_option maxHeartbeats 4000000 in
set_option maxRecDepth 100000 in
theorem c_X6_readScale (l : Launch) (g : GG) (t0 t1 t2 u0 : Nat) (ptx : Nat → Int32) (plen : Int32) (ppos : Int32) (pcnt : Int32) (cc : CC) (sz : Nat) (o : Int32 × Int32 × CC) (hF : F_X6_readScale ptx plen ppos cc = some o) : Met l yX6_readScale w_X6_readScale r_X6_readScale (va_Pc [.ref t0, .ref u0] (zP g (wPC g t0 t1 t2 u0 ptx plen ppos pcnt cc) sz)) (q_X6_readScale g t0 t1 t2 u0 ptx plen ppos pcnt cc o (va_A (wPC g t0 t1 t2 u0 ptx plen ppos pcnt cc) sz)) 0 0 (va_A (wPC g t0 t1 t2 u0 ptx plen ppos pcnt cc) sz) := by
  refine Met.ofW (cc := cX6_readScale) (maxL := 2) (ret := (some .boolean)) (by decide) rfl ?_
  intro p e s m args below meth c s₁ B hml hv
  obtain ⟨rfl, rfl, hP, hK, hD0, hB⟩ := hv
  have hx := B.exec
  have hb := B.bytes
  have hr := B.returns
  have hts : ∀ w ∈ wU, w.before _ s = true := fun w h => atoms_spec (ws := w_X6_readScale) B.pre w (List.mem_cons_of_mem _ h)
  have hown : s.vm.findClass RX6 = some m.cls := findClass_of_methodNamed B.named
  have hlocks := B.notSynchronized
  have hD := hD0.self (sz := s.heap.size)
  generalize hAe : va_A (wPC g t0 t1 t2 u0 ptx plen ppos pcnt cc) s.heap.size = A at hD hB ⊢
  have hA : ∀ q : Nat, s.heap.size ≤ q → A q := fun q h => by rw [← hAe]; exact Or.inr h
  have hS : va_S A s.heap s.heap [] := va_S.rf
  have hl := lv_entry ([.ref t0, .ref u0]) (n := 2) (Nat.le_of_ble_eq_true rfl)
  rw [lg_entry_eq]
  generalize (lg_sl ([.ref t0, .ref u0]) ++ List.replicate (2 - (lg_sl ([.ref t0, .ref u0])).length) Slot.unset).toArray = ls at hl ⊢
  have hl : lv_has ls 2 [(0, .ref t0), (1, .ref u0)] := hl
  unfold F_X6_readScale at hF
  refine lv_aload_n hx hb dX6_readScale_0 rfl (lv_at hl 1 rfl) ?_
  refine lv_aload_n hx hb dX6_readScale_1 rfl (lv_at hl 0 rfl) ?_
  obtain ⟨zo1, hzo1, hF⟩ := z_bind hF
  refine z_calli (fun (u : Int32) => (wPT g t0 t1 t2 ptx plen u pcnt)) [0, 1] (va_runV (As := []) (rest := [.ref u0]) ⟨hx, hb, hml, hown, hts⟩ (c_X6_readDigit l g t0 t1 t2 ptx plen ppos pcnt _ _ hzo1) (cwV 0 hts (gdV mU_1110 mU_1112 mU_19 mU_70 mU_1113) rfl rfl rfl (by decide +kernel) ⟨Nat.le_of_ble_eq_true rfl, Nat.le_of_ble_eq_true rfl⟩) ⟨z_blind _ _ _ _, va_recv hK hP (ci := 4) (q0 := 0) rfl rfl, fun U hU hW => z_pre [0, 1] hP hD hK hB hS hA rfl rfl hU hW⟩ rfl rfl hl.1 rfl (lv_room (Nat.le_of_ble_eq_true rfl)) dX6_readScale_2 ⟨Nat.le_of_ble_eq_true rfl, Nat.le_of_ble_eq_true rfl⟩) hP hD hS hA rfl (fun _ => rfl) (fun r u H locs hw hP hD hS => ?_)
  obtain ⟨rfl, rfl⟩ := hw
  have hP : va_P (gD g) zCl (wPC g t0 t1 t2 u0 ptx plen zo1.2 pcnt cc) H := hP
  have hD : va_D A (wPC g t0 t1 t2 u0 ptx plen zo1.2 pcnt cc) := hD
  refine va_putN (D := gD g) (ci := 0) (v := .int zo1.1) (ty := .int) (C := RX1) (T := TX1) (N := 7) hx hb hts inX1 tyX1 tyX1_ok nmX1 hown hK hP hD hS 2 rfl rfl 5 (by decide) (va_Nw.use rfl (hB.2.1.1 _ zn_223)) (fun _ h9 => h9) rfl (by decide +kernel) rfl rfl (Nat.le_of_ble_eq_true rfl) dX6_readScale_5 (fun H locs hP hD hS => ?_)
  have hP : va_P (gD g) zCl (wPC g t0 t1 t2 u0 ptx plen zo1.2 pcnt ((k_kind cc), (k_first cc), (k_second cc), (k_whole cc), (k_frac cc), zo1.1, (k_mode cc))) H := hP
  have hD : va_D A (wPC g t0 t1 t2 u0 ptx plen zo1.2 pcnt ((k_kind cc), (k_first cc), (k_second cc), (k_whole cc), (k_frac cc), zo1.1, (k_mode cc))) := hD
  refine lv_aload_n hx hb dX6_readScale_8 rfl (lv_at hl 1 rfl) ?_
  refine va_getN (D := gD g) (ci := 0) (v := .int zo1.1) (C := RX1) (T := TX1) (N := 7) hx hb hts inX1 hown hK hP 2 rfl rfl 5 (by decide) (va_Nw.use rfl (hB.2.1.1 _ zn_223)) (fun _ h9 => h9) rfl dX6_readScale_9 ?_
  refine lv_iconst (v := (-1)) hx hb dX6_readScale_12 (by decide) ?_
  refine lv_icmp_eq (tgt := 20) hx hb dX6_readScale_13 (by decide) (fun zc2 => ?_) (fun zc2 => ?_)
  · have hF := z_pos hF zc2
    refine lv_iconst (v := 0) hx hb dX6_readScale_20 (by decide) ?_
    have ho := (Option.some.inj hF).symm
    exact W.zret (v := 0) hx hb hr rfl (fun t ht hW => ⟨⟨0, (zo1.2, ((k_kind cc), (k_first cc), (k_second cc), (k_whole cc), (k_frac cc), zo1.1, (k_mode cc))), rfl, ⟨by rw [ho], by rw [ho]⟩, z_end ht hP⟩, hS.F ht⟩) hS.2.2 dX6_readScale_21
  · have hF := z_neg hF zc2
    refine lv_iconst (v := 1) hx hb dX6_readScale_16 (by decide) ?_
    refine lv_goto (tgt := 21) hx hb dX6_readScale_17 (by decide) ?_
    have ho := (Option.some.inj hF).symm
    exact W.zret (v := 1) hx hb hr rfl (fun t ht hW => ⟨⟨1, (zo1.2, ((k_kind cc), (k_first cc), (k_second cc), (k_whole cc), (k_frac cc), zo1.1, (k_mode cc))), rfl, ⟨by rw [ho], by rw [ho]⟩, z_end ht hP⟩, hS.F ht⟩) hS.2.2 dX6_readScale_21
abbrev w_X6_readMode : List Cond := .code yX6_readMode cX6_readMode 2 (some .boolean) :: wU
abbrev r_X6_readMode : Room := { frames := 4, cells := 0, slots := 0, locals := 106 }
abbrev q_X6_readMode (g : GG) (t0 t1 t2 u0 : Nat) (ptx : Nat → Int32) (plen : Int32) (ppos : Int32) (pcnt : Int32) (cc : CC) (o : Int32 × Int32 × CC) (A : Nat → Prop) := va_Qi (fun (r : Int32) (u : Int32 × CC) => o.1 = r ∧ o.2 = u) (fun u t => va_P (gD g) zCl (wPC g t0 t1 t2 u0 ptx plen u.1 pcnt u.2) t.heap) A
set_option maxHeartbeats 4000000 in
set_option maxRecDepth 100000 in
theorem c_X6_readMode (l : Launch) (g : GG) (t0 t1 t2 u0 : Nat) (ptx : Nat → Int32) (plen : Int32) (ppos : Int32) (pcnt : Int32) (cc : CC) (sz : Nat) (fu : Nat) (o : Int32 × Int32 × CC) (hF : F_X6_readMode fu ptx plen ppos cc = some o) : Met l yX6_readMode w_X6_readMode r_X6_readMode (va_Pc [.ref t0, .ref u0] (zP g (wPC g t0 t1 t2 u0 ptx plen ppos pcnt cc) sz)) (q_X6_readMode g t0 t1 t2 u0 ptx plen ppos pcnt cc o (va_A (wPC g t0 t1 t2 u0 ptx plen ppos pcnt cc) sz)) 0 0 (va_A (wPC g t0 t1 t2 u0 ptx plen ppos pcnt cc) sz) := by
  refine Met.ofW (cc := cX6_readMode) (maxL := 2) (ret := (some .boolean)) (by decide) rfl ?_
  intro p e s m args below meth c s₁ B hml hv
  obtain ⟨rfl, rfl, hP, hK, hD0, hB⟩ := hv
  have hx := B.exec
  have hb := B.bytes
  have hr := B.returns
  have hts : ∀ w ∈ wU, w.before _ s = true := fun w h => atoms_spec (ws := w_X6_readMode) B.pre w (List.mem_cons_of_mem _ h)
  have hown : s.vm.findClass RX6 = some m.cls := findClass_of_methodNamed B.named
  have hlocks := B.notSynchronized
  have hD := hD0.self (sz := s.heap.size)
  generalize hAe : va_A (wPC g t0 t1 t2 u0 ptx plen ppos pcnt cc) s.heap.size = A at hD hB ⊢
  have hA : ∀ q : Nat, s.heap.size ≤ q → A q := fun q h => by rw [← hAe]; exact Or.inr h
  have hS : va_S A s.heap s.heap [] := va_S.rf
  have hl := lv_entry ([.ref t0, .ref u0]) (n := 2) (Nat.le_of_ble_eq_true rfl)
  rw [lg_entry_eq]
  generalize (lg_sl ([.ref t0, .ref u0]) ++ List.replicate (2 - (lg_sl ([.ref t0, .ref u0])).length) Slot.unset).toArray = ls at hl ⊢
  have hl : lv_has ls 2 [(0, .ref t0), (1, .ref u0)] := hl
  unfold F_X6_readMode at hF
  refine lv_aload_n hx hb dX6_readMode_0 rfl (lv_at hl 0 rfl) ?_
  refine va_get (D := gD g) (ci := 4) (v := .int ppos) (C := RX6) (T := TX6) (N := 5) hx hb hts inX6 hown hK hP 0 rfl rfl 2 (by decide) (hts _ mU_245) (fun _ h9 => h9) rfl dX6_readMode_1 ?_
  refine lv_aload_n hx hb dX6_readMode_4 rfl (lv_at hl 0 rfl) ?_
  refine va_get (D := gD g) (ci := 4) (v := .int plen) (C := RX6) (T := TX6) (N := 5) hx hb hts inX6 hown hK hP 0 rfl rfl 1 (by decide) (hts _ mU_243) (fun _ h9 => h9) rfl dX6_readMode_5 ?_
  refine lv_icmp_ge (tgt := 28) hx hb dX6_readMode_8 (by decide) (fun zc1 => ?_) (fun zc1 => ?_)
  · have hF := z_pos hF zc1
    refine lv_iconst (v := 0) hx hb dX6_readMode_28 (by decide) ?_
    have ho := (Option.some.inj hF).symm
    exact W.zret (v := 0) hx hb hr rfl (fun t ht hW => ⟨⟨0, (ppos, cc), rfl, ⟨by rw [ho], by rw [ho]⟩, z_end ht hP⟩, hS.F ht⟩) hS.2.2 dX6_readMode_29
  · have hF := z_neg hF zc1
    refine va_ldcS hx hb hown hB.2.1.2.2.2.2 dX6_readMode_11 ?_
    refine lv_aload_n hx hb dX6_readMode_13 rfl (lv_at hl 0 rfl) ?_
    refine va_get (D := gD g) (ci := 4) (v := .ref t1) (C := RX6) (T := TX6) (N := 5) hx hb hts inX6 hown hK hP 0 rfl rfl 0 (by decide) (hts _ mU_242) (fun _ h9 => h9) rfl dX6_readMode_14 ?_
    refine lv_aload_n hx hb dX6_readMode_17 rfl (lv_at hl 0 rfl) ?_
    refine va_get (D := gD g) (ci := 4) (v := .int ppos) (C := RX6) (T := TX6) (N := 5) hx hb hts inX6 hown hK hP 0 rfl rfl 2 (by decide) (hts _ mU_245) (fun _ h9 => h9) rfl dX6_readMode_18 ?_
    obtain ⟨zg2, hF⟩ := z_grd hF
    refine va_cald hx hb hK hP 1 0 rfl rfl zg2 dX6_readMode_21 ?_
    obtain ⟨zo3, hzo3, hF⟩ := z_bind hF
    refine z_calli (fun (_ : Unit) => []) [] (va_runV (As := [.int (ptx (Int32.toNatClampNeg ppos))]) (rest := []) ⟨hx, hb, hml, hown, hts⟩ (c_J0_indexOf_0f7a4 l g _ 0 (by decide) (ptx (Int32.toNatClampNeg ppos)) fu _ hzo3) (cwV 1 hts (gdV mU_1135 mU_537 mU_538 mU_81 mU_539) rfl rfl rfl (by decide +kernel) ⟨Nat.le_of_ble_eq_true rfl, Nat.le_of_ble_eq_true rfl⟩) ⟨z_blind _ _ _ _, vk_recv hB.2.2.1.1 (by decide) hS, fun U hU hW => z_pre [] hP hD hK hB hS hA rfl rfl hU hW⟩ rfl rfl hl.1 rfl (lv_room (Nat.le_of_ble_eq_true rfl)) dX6_readMode_22 ⟨Nat.le_of_ble_eq_true rfl, Nat.le_of_ble_eq_true rfl⟩) hP hD hS hA rfl (fun _ => rfl) (fun r u H locs hw hP hD hS => ?_)
    subst hw
    have hP : va_P (gD g) zCl (wPC g t0 t1 t2 u0 ptx plen ppos pcnt cc) H := hP
    have hD : va_D A (wPC g t0 t1 t2 u0 ptx plen ppos pcnt cc) := hD
    refine lv_if_ge (tgt := 30) hx hb dX6_readMode_25 (by decide) (fun zc4 => ?_) (fun zc4 => ?_)
    · have hF := z_pos hF zc4
      refine lv_aload_n hx hb dX6_readMode_30 rfl (lv_at hl 1 rfl) ?_
      refine lv_aload_n hx hb dX6_readMode_31 rfl (lv_at hl 0 rfl) ?_
      refine va_get (D := gD g) (ci := 4) (v := .ref t1) (C := RX6) (T := TX6) (N := 5) hx hb hts inX6 hown hK hP 0 rfl rfl 0 (by decide) (hts _ mU_242) (fun _ h9 => h9) rfl dX6_readMode_32 ?_
      refine lv_aload_n hx hb dX6_readMode_35 rfl (lv_at hl 0 rfl) ?_
      refine va_get (D := gD g) (ci := 4) (v := .int ppos) (C := RX6) (T := TX6) (N := 5) hx hb hts inX6 hown hK hP 0 rfl rfl 2 (by decide) (hts _ mU_245) (fun _ h9 => h9) rfl dX6_readMode_36 ?_
      obtain ⟨zg5, hF⟩ := z_grd hF
      refine va_cald hx hb hK hP 1 0 rfl rfl zg5 dX6_readMode_39 ?_
      obtain ⟨zg6, hF⟩ := z_grd hF
      refine va_putN (D := gD g) (ci := 0) (v := .int (ptx (Int32.toNatClampNeg ppos))) (ty := .char) (C := RX1) (T := TX1) (N := 7) hx hb hts inX1 tyX1 tyX1_ok nmX1 hown hK hP hD hS 2 rfl rfl 6 (by decide) (va_Nw.use rfl (hB.2.1.1 _ zn_225)) (fun _ h9 => h9) rfl (by decide +kernel) (z_narc (Classical.not_not.mp zg6)).1 (z_narc (Classical.not_not.mp zg6)).2 (Nat.le_of_ble_eq_true rfl) dX6_readMode_40 (fun H locs hP hD hS => ?_)
      have hP : va_P (gD g) zCl (wPC g t0 t1 t2 u0 ptx plen ppos pcnt ((k_kind cc), (k_first cc), (k_second cc), (k_whole cc), (k_frac cc), (k_scale cc), (ptx (Int32.toNatClampNeg ppos)))) H := hP
      have hD : va_D A (wPC g t0 t1 t2 u0 ptx plen ppos pcnt ((k_kind cc), (k_first cc), (k_second cc), (k_whole cc), (k_frac cc), (k_scale cc), (ptx (Int32.toNatClampNeg ppos)))) := hD
      refine lv_aload_n hx hb dX6_readMode_43 rfl (lv_at hl 0 rfl) ?_
      refine lv_dup hx hb dX6_readMode_44 rfl ?_
      refine va_get (D := gD g) (ci := 4) (v := .int ppos) (C := RX6) (T := TX6) (N := 5) hx hb hts inX6 hown hK hP 0 rfl rfl 2 (by decide) (hts _ mU_245) (fun _ h9 => h9) rfl dX6_readMode_45 ?_
      refine lv_iconst (v := 1) hx hb dX6_readMode_48 (by decide) ?_
      refine lv_iadd hx hb dX6_readMode_49 ?_
      refine va_put (D := gD g) (ci := 4) (v := .int (ppos + 1)) (ty := .int) (C := RX6) (T := TX6) (N := 5) hx hb hts inX6 tyX6 tyX6_ok nmX6 hown hK hP hD hS 0 rfl rfl 2 (by decide) (hts _ mU_245) (fun _ h9 => h9) rfl (by decide +kernel) rfl rfl (Nat.le_of_ble_eq_true rfl) dX6_readMode_50 (fun H locs hP hD hS => ?_)
      have hP : va_P (gD g) zCl (wPC g t0 t1 t2 u0 ptx plen (ppos + 1) pcnt ((k_kind cc), (k_first cc), (k_second cc), (k_whole cc), (k_frac cc), (k_scale cc), (ptx (Int32.toNatClampNeg ppos)))) H := hP
      have hD : va_D A (wPC g t0 t1 t2 u0 ptx plen (ppos + 1) pcnt ((k_kind cc), (k_first cc), (k_second cc), (k_whole cc), (k_frac cc), (k_scale cc), (ptx (Int32.toNatClampNeg ppos)))) := hD
      refine lv_iconst (v := 1) hx hb dX6_readMode_53 (by decide) ?_
      have ho := (Option.some.inj hF).symm
      exact W.zret (v := 1) hx hb hr rfl (fun t ht hW => ⟨⟨1, ((ppos + 1), ((k_kind cc), (k_first cc), (k_second cc), (k_whole cc), (k_frac cc), (k_scale cc), (ptx (Int32.toNatClampNeg ppos)))), rfl, ⟨by rw [ho], by rw [ho]⟩, z_end ht hP⟩, hS.F ht⟩) hS.2.2 dX6_readMode_54
    · have hF := z_neg hF zc4
      refine lv_iconst (v := 0) hx hb dX6_readMode_28 (by decide) ?_
      have ho := (Option.some.inj hF).symm
      exact W.zret (v := 0) hx hb hr rfl (fun t ht hW => ⟨⟨0, (ppos, cc), rfl, ⟨by rw [ho], by rw [ho]⟩, z_end ht hP⟩, hS.F ht⟩) hS.2.2 dX6_readMode_29
abbrev w_X6_readScaleAndMode : List Cond := .code yX6_readScaleAndMode cX6_readScaleAndMode 2 (some .boolean) :: wU
abbrev r_X6_readScaleAndMode : Room := { frames := 5, cells := 0, slots := 0, locals := 127 }
abbrev q_X6_readScaleAndMode (g : GG) (t0 t1 t2 u0 : Nat) (ptx : Nat → Int32) (plen : Int32) (ppos : Int32) (pcnt : Int32) (cc : CC) (o : Int32 × Int32 × CC) (A : Nat → Prop) := va_Qi (fun (r : Int32) (u : Int32 × CC) => o.1 = r ∧ o.2 = u) (fun u t => va_P (gD g) zCl (wPC g t0 t1 t2 u0 ptx plen u.1 pcnt u.2) t.heap) A
set_option maxHeartbeats 4000000 in
set_option maxRecDepth 100000 in
theorem c_X6_readScaleAndMode (l : Launch) (g : GG) (t0 t1 t2 u0 : Nat) (ptx : Nat → Int32) (plen : Int32) (ppos : Int32) (pcnt : Int32) (cc : CC) (sz : Nat) (fu : Nat) (o : Int32 × Int32 × CC) (hF : F_X6_readScaleAndMode fu ptx plen ppos cc = some o) : Met l yX6_readScaleAndMode w_X6_readScaleAndMode r_X6_readScaleAndMode (va_Pc [.ref t0, .ref u0] (zP g (wPC g t0 t1 t2 u0 ptx plen ppos pcnt cc) sz)) (q_X6_readScaleAndMode g t0 t1 t2 u0 ptx plen ppos pcnt cc o (va_A (wPC g t0 t1 t2 u0 ptx plen ppos pcnt cc) sz)) 0 0 (va_A (wPC g t0 t1 t2 u0 ptx plen ppos pcnt cc) sz) := by
  refine Met.ofW (cc := cX6_readScaleAndMode) (maxL := 2) (ret := (some .boolean)) (by decide) rfl ?_
  intro p e s m args below meth c s₁ B hml hv
  obtain ⟨rfl, rfl, hP, hK, hD0, hB⟩ := hv
  have hx := B.exec
  have hb := B.bytes
  have hr := B.returns
  have hts : ∀ w ∈ wU, w.before _ s = true := fun w h => atoms_spec (ws := w_X6_readScaleAndMode) B.pre w (List.mem_cons_of_mem _ h)
  have hown : s.vm.findClass RX6 = some m.cls := findClass_of_methodNamed B.named
  have hlocks := B.notSynchronized
  have hD := hD0.self (sz := s.heap.size)
  generalize hAe : va_A (wPC g t0 t1 t2 u0 ptx plen ppos pcnt cc) s.heap.size = A at hD hB ⊢
  have hA : ∀ q : Nat, s.heap.size ≤ q → A q := fun q h => by rw [← hAe]; exact Or.inr h
  have hS : va_S A s.heap s.heap [] := va_S.rf
  have hl := lv_entry ([.ref t0, .ref u0]) (n := 2) (Nat.le_of_ble_eq_true rfl)
  rw [lg_entry_eq]
  generalize (lg_sl ([.ref t0, .ref u0]) ++ List.replicate (2 - (lg_sl ([.ref t0, .ref u0])).length) Slot.unset).toArray = ls at hl ⊢
  have hl : lv_has ls 2 [(0, .ref t0), (1, .ref u0)] := hl
  unfold F_X6_readScaleAndMode at hF
  refine lv_aload_n hx hb dX6_readScaleAndMode_0 rfl (lv_at hl 0 rfl) ?_
  refine lv_aload_n hx hb dX6_readScaleAndMode_1 rfl (lv_at hl 1 rfl) ?_
  obtain ⟨zo1, hzo1, hF⟩ := z_bind hF
  refine z_calliE (fun (u : Int32 × CC) => (wPC g t0 t1 t2 u0 ptx plen u.1 pcnt u.2)) (va_runV (As := [.ref u0]) (rest := []) ⟨hx, hb, hml, hown, hts⟩ (c_X6_readScale l g t0 t1 t2 u0 ptx plen ppos pcnt cc _ _ hzo1) (cwV 1 hts (gdV mU_1126 mU_1128 mU_23 mU_70 mU_1129) rfl rfl rfl (by decide +kernel) ⟨Nat.le_of_ble_eq_true rfl, Nat.le_of_ble_eq_true rfl⟩) ⟨z_blind _ _ _ _, va_recv hK hP (ci := 4) (q0 := 0) rfl rfl, fun U hU hW => z_preE hP hD hK hB hS hA hU hW⟩ rfl rfl hl.1 rfl (lv_room (Nat.le_of_ble_eq_true rfl)) dX6_readScaleAndMode_2 ⟨Nat.le_of_ble_eq_true rfl, Nat.le_of_ble_eq_true rfl⟩) hD hS hA (fun _ => rfl) (fun r u H locs hw hP hD hS => ?_)
  obtain ⟨rfl, rfl⟩ := hw
  have hP : va_P (gD g) zCl (wPC g t0 t1 t2 u0 ptx plen zo1.2.1 pcnt zo1.2.2) H := hP
  have hD : va_D A (wPC g t0 t1 t2 u0 ptx plen zo1.2.1 pcnt zo1.2.2) := hD
  refine lv_if_eq (tgt := 29) hx hb dX6_readScaleAndMode_5 (by decide) (fun zc2 => ?_) (fun zc2 => ?_)
  · have hF := z_pos hF zc2
    refine lv_iconst (v := 0) hx hb dX6_readScaleAndMode_29 (by decide) ?_
    have ho := (Option.some.inj hF).symm
    exact W.zret (v := 0) hx hb hr rfl (fun t ht hW => ⟨⟨0, (zo1.2.1, zo1.2.2), rfl, ⟨by rw [ho], by rw [ho]⟩, z_end ht hP⟩, hS.F ht⟩) hS.2.2 dX6_readScaleAndMode_30
  · have hF := z_neg hF zc2
    refine lv_aload_n hx hb dX6_readScaleAndMode_8 rfl (lv_at hl 0 rfl) ?_
    refine lv_bipush (v := 32) hx hb dX6_readScaleAndMode_9 (by decide) ?_
    obtain ⟨zo3, hzo3, hF⟩ := z_bind hF
    refine z_calli (fun (u : Int32) => (wPT g t0 t1 t2 ptx plen u pcnt)) [0, 1] (va_runV (As := [.int 32]) (rest := []) ⟨hx, hb, hml, hown, hts⟩ (c_X6_readCharacter l g t0 t1 t2 ptx plen zo1.2.1 pcnt _ 32 _ hzo3) (cwV 1 hts (gdV mU_1114 mU_1116 mU_20 mU_70 mU_1117) rfl rfl rfl (by decide +kernel) ⟨Nat.le_of_ble_eq_true rfl, Nat.le_of_ble_eq_true rfl⟩) ⟨z_blind _ _ _ _, va_recv hK hP (ci := 4) (q0 := 0) rfl rfl, fun U hU hW => z_pre [0, 1] hP hD hK hB hS hA rfl rfl hU hW⟩ rfl rfl hl.1 rfl (lv_room (Nat.le_of_ble_eq_true rfl)) dX6_readScaleAndMode_11 ⟨Nat.le_of_ble_eq_true rfl, Nat.le_of_ble_eq_true rfl⟩) hP hD hS hA rfl (fun _ => rfl) (fun r u H locs hw hP hD hS => ?_)
    obtain ⟨rfl, rfl⟩ := hw
    have hP : va_P (gD g) zCl (wPC g t0 t1 t2 u0 ptx plen zo3.2 pcnt zo1.2.2) H := hP
    have hD : va_D A (wPC g t0 t1 t2 u0 ptx plen zo3.2 pcnt zo1.2.2) := hD
    refine lv_if_eq (tgt := 29) hx hb dX6_readScaleAndMode_14 (by decide) (fun zc4 => ?_) (fun zc4 => ?_)
    · have hF := z_pos hF zc4
      refine lv_iconst (v := 0) hx hb dX6_readScaleAndMode_29 (by decide) ?_
      have ho := (Option.some.inj hF).symm
      exact W.zret (v := 0) hx hb hr rfl (fun t ht hW => ⟨⟨0, (zo3.2, zo1.2.2), rfl, ⟨by rw [ho], by rw [ho]⟩, z_end ht hP⟩, hS.F ht⟩) hS.2.2 dX6_readScaleAndMode_30
    · have hF := z_neg hF zc4
      refine lv_aload_n hx hb dX6_readScaleAndMode_17 rfl (lv_at hl 0 rfl) ?_
      refine lv_aload_n hx hb dX6_readScaleAndMode_18 rfl (lv_at hl 1 rfl) ?_
      obtain ⟨zo5, hzo5, hF⟩ := z_bind hF
      refine z_calliE (fun (u : Int32 × CC) => (wPC g t0 t1 t2 u0 ptx plen u.1 pcnt u.2)) (va_runV (As := [.ref u0]) (rest := []) ⟨hx, hb, hml, hown, hts⟩ (c_X6_readMode l g t0 t1 t2 u0 ptx plen zo3.2 pcnt zo1.2.2 _ fu _ hzo5) (cwV 1 hts (gdV mU_1130 mU_1132 mU_24 mU_70 mU_1133) rfl rfl rfl (by decide +kernel) ⟨Nat.le_of_ble_eq_true rfl, Nat.le_of_ble_eq_true rfl⟩) ⟨z_blind _ _ _ _, va_recv hK hP (ci := 4) (q0 := 0) rfl rfl, fun U hU hW => z_preE hP hD hK hB hS hA hU hW⟩ rfl rfl hl.1 rfl (lv_room (Nat.le_of_ble_eq_true rfl)) dX6_readScaleAndMode_19 ⟨Nat.le_of_ble_eq_true rfl, Nat.le_of_ble_eq_true rfl⟩) hD hS hA (fun _ => rfl) (fun r u H locs hw hP hD hS => ?_)
      obtain ⟨rfl, rfl⟩ := hw
      have hP : va_P (gD g) zCl (wPC g t0 t1 t2 u0 ptx plen zo5.2.1 pcnt zo5.2.2) H := hP
      have hD : va_D A (wPC g t0 t1 t2 u0 ptx plen zo5.2.1 pcnt zo5.2.2) := hD
      refine lv_if_eq (tgt := 29) hx hb dX6_readScaleAndMode_22 (by decide) (fun zc6 => ?_) (fun zc6 => ?_)
      · have hF := z_pos hF zc6
        refine lv_iconst (v := 0) hx hb dX6_readScaleAndMode_29 (by decide) ?_
        have ho := (Option.some.inj hF).symm
        exact W.zret (v := 0) hx hb hr rfl (fun t ht hW => ⟨⟨0, (zo5.2.1, zo5.2.2), rfl, ⟨by rw [ho], by rw [ho]⟩, z_end ht hP⟩, hS.F ht⟩) hS.2.2 dX6_readScaleAndMode_30
      · have hF := z_neg hF zc6
        refine lv_iconst (v := 1) hx hb dX6_readScaleAndMode_25 (by decide) ?_
        refine lv_goto (tgt := 30) hx hb dX6_readScaleAndMode_26 (by decide) ?_
        have ho := (Option.some.inj hF).symm
        exact W.zret (v := 1) hx hb hr rfl (fun t ht hW => ⟨⟨1, (zo5.2.1, zo5.2.2), rfl, ⟨by rw [ho], by rw [ho]⟩, z_end ht hP⟩, hS.F ht⟩) hS.2.2 dX6_readScaleAndMode_30
