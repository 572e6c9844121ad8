abbrev w_X11_thrown : List Cond := .code yX11_thrown cX11_thrown 1 (some .int) :: wU
abbrev r_X11_thrown : Room := { frames := 0, cells := 0, slots := 0, locals := 0 }
abbrev q_X11_thrown (g : GG) (q0 q1 q2 q3 q4 q5 q6 q7 q8 q9 q10 q11 q12 : Nat) (mm : Nat → Int64) (masd : Nat → Int64) (msav : Nat → Int64) (misS : Int32) (mpst : Nat → Int64) (mchg : Int32) (merr : Int32) (mfai : Int32) (mthr : Int32) (minp : Nat → Int32) (minM : Int32) (mUp : Nat → Int32) (mcar : Nat → Int32) (mcam : Nat → Int32) (mahd : Int32) (magn : Int32) (mltr : Nat → Int32) (mbeg : Nat → Int32) (mcmd : Nat → Int32) (mcmM : Int32) (mpl : Int32) (msz : Int32) (mwr : Int32) (mlin : Nat → Int32) (mliM : Int32) (o : Int32) (A : Nat → Prop) := va_Qi (fun (r : Int32) (u : Unit) => o = r) (fun u t => va_P (gD g) zCl (wModel g q0 q1 q2 q3 q4 q5 q6 q7 q8 q9 q10 q11 q12 mm masd msav misS mpst mchg merr mfai mthr minp minM mUp mcar mcam mahd magn mltr mbeg mcmd mcmM mpl msz mwr mlin mliM) t.heap) A
set_option maxHeartbeats 4000000 in
set_option maxRecDepth 100000 in
theorem c_X11_thrown (l : Launch) (g : GG) (q0 q1 q2 q3 q4 q5 q6 q7 q8 q9 q10 q11 q12 : Nat) (mm : Nat → Int64) (masd : Nat → Int64) (msav : Nat → Int64) (misS : Int32) (mpst : Nat → Int64) (mchg : Int32) (merr : Int32) (mfai : Int32) (mthr : Int32) (minp : Nat → Int32) (minM : Int32) (mUp : Nat → Int32) (mcar : Nat → Int32) (mcam : Nat → Int32) (mahd : Int32) (magn : Int32) (mltr : Nat → Int32) (mbeg : Nat → Int32) (mcmd : Nat → Int32) (mcmM : Int32) (mpl : Int32) (msz : Int32) (mwr : Int32) (mlin : Nat → Int32) (mliM : Int32) (sz : Nat) (o : Int32) (hF : F_X11_thrown mthr = some o) : Met l yX11_thrown w_X11_thrown r_X11_thrown (va_Pc [.ref q0] (zP g (wModel g q0 q1 q2 q3 q4 q5 q6 q7 q8 q9 q10 q11 q12 mm masd msav misS mpst mchg merr mfai mthr minp minM mUp mcar mcam mahd magn mltr mbeg mcmd mcmM mpl msz mwr mlin mliM) sz)) (q_X11_thrown g q0 q1 q2 q3 q4 q5 q6 q7 q8 q9 q10 q11 q12 mm masd msav misS mpst mchg merr mfai mthr minp minM mUp mcar mcam mahd magn mltr mbeg mcmd mcmM mpl msz mwr mlin mliM o (va_A (wModel g q0 q1 q2 q3 q4 q5 q6 q7 q8 q9 q10 q11 q12 mm masd msav misS mpst mchg merr mfai mthr minp minM mUp mcar mcam mahd magn mltr mbeg mcmd mcmM mpl msz mwr mlin mliM) sz)) 0 0 (va_A (wModel g q0 q1 q2 q3 q4 q5 q6 q7 q8 q9 q10 q11 q12 mm masd msav misS mpst mchg merr mfai mthr minp minM mUp mcar mcam mahd magn mltr mbeg mcmd mcmM mpl msz mwr mlin mliM) sz) := by
  refine Met.ofW (cc := cX11_thrown) (maxL := 1) (ret := (some .int)) (by decide) rfl ?_
  intro p e s m args below meth c s₁ B hml hv
  obtain ⟨rfl, rfl, hP, hK, hD0, hB⟩ := hv
  have hx := B.exec
  have hb := B.bytes
  have hr := B.returns
  have hts : ∀ w ∈ wU, w.before _ s = true := fun w h => atoms_spec (ws := w_X11_thrown) B.pre w (List.mem_cons_of_mem _ h)
  have hown : s.vm.findClass RX11 = some m.cls := findClass_of_methodNamed B.named
  have hlocks := B.notSynchronized
  have hD := hD0.self (sz := s.heap.size)
  generalize hAe : va_A (wModel g q0 q1 q2 q3 q4 q5 q6 q7 q8 q9 q10 q11 q12 mm masd msav misS mpst mchg merr mfai mthr minp minM mUp mcar mcam mahd magn mltr mbeg mcmd mcmM mpl msz mwr mlin mliM) s.heap.size = A at hD hB ⊢
  have hA : ∀ q : Nat, s.heap.size ≤ q → A q := fun q h => by rw [← hAe]; exact Or.inr h
  have hS : va_S A s.heap s.heap [] := va_S.rf
  have hl := lv_entry ([.ref q0]) (n := 1) (Nat.le_of_ble_eq_true rfl)
  rw [lg_entry_eq]
  generalize (lg_sl ([.ref q0]) ++ List.replicate (1 - (lg_sl ([.ref q0])).length) Slot.unset).toArray = ls at hl ⊢
  have hl : lv_has ls 1 [(0, .ref q0)] := hl
  unfold F_X11_thrown at hF
  refine lv_aload_n hx hb dX11_thrown_0 rfl (lv_at hl 0 rfl) ?_
  refine va_get (D := gD g) (ci := 7) (v := .int mthr) (C := RX11) (T := TX11) (N := 25) hx hb hts inX11 hown hK hP 0 rfl rfl 8 (by decide) (hts _ mU_1252) (fun _ h9 => h9) rfl dX11_thrown_1 ?_
  have ho := (Option.some.inj hF).symm
  exact W.iret (v := mthr) hx hb hr (fun t ht hW => ⟨⟨mthr, (), rfl, ho, z_end ht hP⟩, hS.F ht⟩) hS.2.2 dX11_thrown_4
abbrev w_X11_throwing : List Cond := .code yX11_throwing cX11_throwing 2 (some .int) :: wU
abbrev r_X11_throwing : Room := { frames := 0, cells := 0, slots := 0, locals := 0 }
abbrev q_X11_throwing (g : GG) (q0 q1 q2 q3 q4 q5 q6 q7 q8 q9 q10 q11 q12 : Nat) (mm : Nat → Int64) (masd : Nat → Int64) (msav : Nat → Int64) (misS : Int32) (mpst : Nat → Int64) (mchg : Int32) (merr : Int32) (mfai : Int32) (mthr : Int32) (minp : Nat → Int32) (minM : Int32) (mUp : Nat → Int32) (mcar : Nat → Int32) (mcam : Nat → Int32) (mahd : Int32) (magn : Int32) (mltr : Nat → Int32) (mbeg : Nat → Int32) (mcmd : Nat → Int32) (mcmM : Int32) (mpl : Int32) (msz : Int32) (mwr : Int32) (mlin : Nat → Int32) (mliM : Int32) (o : Int32 × Int32) (A : Nat → Prop) := va_Qi (fun (r : Int32) (u : Int32) => o.1 = r ∧ o.2 = u) (fun u t => va_P (gD g) zCl (wModel g q0 q1 q2 q3 q4 q5 q6 q7 q8 q9 q10 q11 q12 mm masd msav misS mpst mchg merr mfai u minp minM mUp mcar mcam mahd magn mltr mbeg mcmd mcmM mpl msz mwr mlin mliM) t.heap) A
set_option maxHeartbeats 4000000 in
set_option maxRecDepth 100000 in
theorem c_X11_throwing (l : Launch) (g : GG) (q0 q1 q2 q3 q4 q5 q6 q7 q8 q9 q10 q11 q12 : Nat) (mm : Nat → Int64) (masd : Nat → Int64) (msav : Nat → Int64) (misS : Int32) (mpst : Nat → Int64) (mchg : Int32) (merr : Int32) (mfai : Int32) (mthr : Int32) (minp : Nat → Int32) (minM : Int32) (mUp : Nat → Int32) (mcar : Nat → Int32) (mcam : Nat → Int32) (mahd : Int32) (magn : Int32) (mltr : Nat → Int32) (mbeg : Nat → Int32) (mcmd : Nat → Int32) (mcmM : Int32) (mpl : Int32) (msz : Int32) (mwr : Int32) (mlin : Nat → Int32) (mliM : Int32) (sz : Nat) (p1 : Int32) (o : Int32 × Int32) (hF : F_X11_throwing mthr p1 = some o) : Met l yX11_throwing w_X11_throwing r_X11_throwing (va_Pc [.ref q0, .int p1] (zP g (wModel g q0 q1 q2 q3 q4 q5 q6 q7 q8 q9 q10 q11 q12 mm masd msav misS mpst mchg merr mfai mthr minp minM mUp mcar mcam mahd magn mltr mbeg mcmd mcmM mpl msz mwr mlin mliM) sz)) (q_X11_throwing g q0 q1 q2 q3 q4 q5 q6 q7 q8 q9 q10 q11 q12 mm masd msav misS mpst mchg merr mfai mthr minp minM mUp mcar mcam mahd magn mltr mbeg mcmd mcmM mpl msz mwr mlin mliM o (va_A (wModel g q0 q1 q2 q3 q4 q5 q6 q7 q8 q9 q10 q11 q12 mm masd msav misS mpst mchg merr mfai mthr minp minM mUp mcar mcam mahd magn mltr mbeg mcmd mcmM mpl msz mwr mlin mliM) sz)) 0 0 (va_A (wModel g q0 q1 q2 q3 q4 q5 q6 q7 q8 q9 q10 q11 q12 mm masd msav misS mpst mchg merr mfai mthr minp minM mUp mcar mcam mahd magn mltr mbeg mcmd mcmM mpl msz mwr mlin mliM) sz) := by
  refine Met.ofW (cc := cX11_throwing) (maxL := 2) (ret := (some .int)) (by decide) rfl ?_
  intro p e s m args below meth c s₁ B hml hv
  obtain ⟨rfl, rfl, hP, hK, hD0, hB⟩ := hv
  have hx := B.exec
  have hb := B.bytes
  have hr := B.returns
  have hts : ∀ w ∈ wU, w.before _ s = true := fun w h => atoms_spec (ws := w_X11_throwing) B.pre w (List.mem_cons_of_mem _ h)
  have hown : s.vm.findClass RX11 = some m.cls := findClass_of_methodNamed B.named
  have hlocks := B.notSynchronized
  have hD := hD0.self (sz := s.heap.size)
  generalize hAe : va_A (wModel g q0 q1 q2 q3 q4 q5 q6 q7 q8 q9 q10 q11 q12 mm masd msav misS mpst mchg merr mfai mthr minp minM mUp mcar mcam mahd magn mltr mbeg mcmd mcmM mpl msz mwr mlin mliM) s.heap.size = A at hD hB ⊢
  have hA : ∀ q : Nat, s.heap.size ≤ q → A q := fun q h => by rw [← hAe]; exact Or.inr h
  have hS : va_S A s.heap s.heap [] := va_S.rf
  have hl := lv_entry ([.ref q0, .int p1]) (n := 2) (Nat.le_of_ble_eq_true rfl)
  rw [lg_entry_eq]
  generalize (lg_sl ([.ref q0, .int p1]) ++ List.replicate (2 - (lg_sl ([.ref q0, .int p1])).length) Slot.unset).toArray = ls at hl ⊢
  have hl : lv_has ls 2 [(0, .ref q0), (1, .int p1)] := hl
  unfold F_X11_throwing at hF
  refine lv_aload_n hx hb dX11_throwing_0 rfl (lv_at hl 0 rfl) ?_
  refine lv_iload_n hx hb dX11_throwing_1 rfl (lv_at hl 1 rfl) ?_
  refine va_put (D := gD g) (ci := 7) (v := .int p1) (ty := .int) (C := RX11) (T := TX11) (N := 25) hx hb hts inX11 tyX11 tyX11_ok nmX11 hown hK hP hD hS 0 rfl rfl 8 (by decide) (hts _ mU_1252) (fun _ h9 => h9) rfl (by decide +kernel) rfl rfl (Nat.le_of_ble_eq_true rfl) dX11_throwing_2 (fun H locs hP hD hS => ?_)
  have hP : va_P (gD g) zCl (wModel g q0 q1 q2 q3 q4 q5 q6 q7 q8 q9 q10 q11 q12 mm masd msav misS mpst mchg merr mfai p1 minp minM mUp mcar mcam mahd magn mltr mbeg mcmd mcmM mpl msz mwr mlin mliM) H := hP
  have hD : va_D A (wModel g q0 q1 q2 q3 q4 q5 q6 q7 q8 q9 q10 q11 q12 mm masd msav misS mpst mchg merr mfai p1 minp minM mUp mcar mcam mahd magn mltr mbeg mcmd mcmM mpl msz mwr mlin mliM) := hD
  refine lv_iconst (v := (-1)) hx hb dX11_throwing_5 (by decide) ?_
  have ho := (Option.some.inj hF).symm
  exact W.iret (v := (-1)) hx hb hr (fun t ht hW => ⟨⟨(-1), p1, rfl, ⟨by rw [ho], by rw [ho]⟩, z_end ht hP⟩, hS.F ht⟩) hS.2.2 dX11_throwing_6
abbrev w_X11_in : List Cond := .code yX11_in cX11_in 6 (some .boolean) :: wU
abbrev r_X11_in : Room := { frames := 0, cells := 0, slots := 0, locals := 0 }
abbrev q_X11_in (g : GG) (o : Int32) (A : Nat → Prop) := va_Qi (fun (r : Int32) (u : Unit) => o = r) (fun u t => va_P (gD g) zCl [] t.heap) A
set_option maxHeartbeats 4000000 in
set_option maxRecDepth 100000 in
theorem c_X11_in (l : Launch) (g : GG) (sz : Nat) (p0 : Int64) (p2 : Int64) (p4 : Int64) (o : Int32) (hF : F_X11_in p0 p2 p4 = some o) : Met l yX11_in w_X11_in r_X11_in (va_Pc [.long p0, .long p2, .long p4] (zP g [] sz)) (q_X11_in g o (va_A [] sz)) 0 0 (va_A [] sz) := by
  refine Met.ofW (cc := cX11_in) (maxL := 6) (ret := (some .boolean)) (by decide) rfl ?_
  intro p e s m args below meth c s₁ B hml hv
  obtain ⟨rfl, rfl, hP, hK, hD0, hB⟩ := hv
  have hx := B.exec
  have hb := B.bytes
  have hr := B.returns
  have hts : ∀ w ∈ wU, w.before _ s = true := fun w h => atoms_spec (ws := w_X11_in) B.pre w (List.mem_cons_of_mem _ h)
  have hown : s.vm.findClass RX11 = some m.cls := findClass_of_methodNamed B.named
  have hlocks := B.notSynchronized
  have hD := hD0.self (sz := s.heap.size)
  generalize hAe : va_A [] s.heap.size = A at hD hB ⊢
  have hA : ∀ q : Nat, s.heap.size ≤ q → A q := fun q h => by rw [← hAe]; exact Or.inr h
  have hS : va_S A s.heap s.heap [] := va_S.rf
  have hl := lv_entry ([.long p0, .long p2, .long p4]) (n := 6) (Nat.le_of_ble_eq_true rfl)
  rw [lg_entry_eq]
  generalize (lg_sl ([.long p0, .long p2, .long p4]) ++ List.replicate (6 - (lg_sl ([.long p0, .long p2, .long p4])).length) Slot.unset).toArray = ls at hl ⊢
  have hl : lv_has ls 6 [(0, .long p0), (2, .long p2), (4, .long p4)] := hl
  unfold F_X11_in at hF
  refine lv_lload_n hx hb dX11_in_0 rfl (lv_at hl 0 rfl) ?_
  refine lv_lload_n hx hb dX11_in_1 rfl (lv_at hl 1 rfl) ?_
  refine z_lcmp_lt (tgt := 17) hx hb dX11_in_2 dX11_in_3 (by decide) (fun zc1 => ?_) (fun zc1 => ?_)
  · have hF := z_pos hF zc1
    refine lv_iconst (v := 0) hx hb dX11_in_17 (by decide) ?_
    have ho := (Option.some.inj hF).symm
    exact W.zret (v := 0) hx hb hr rfl (fun t ht hW => ⟨⟨0, (), rfl, ho, z_end ht hP⟩, hS.F ht⟩) hS.2.2 dX11_in_18
  · have hF := z_neg hF zc1
    refine lv_lload_n hx hb dX11_in_6 rfl (lv_at hl 0 rfl) ?_
    refine lv_lload hx hb dX11_in_7 (lv_at hl 2 rfl) ?_
    refine z_lcmp_gt (tgt := 17) hx hb dX11_in_9 dX11_in_10 (by decide) (fun zc2 => ?_) (fun zc2 => ?_)
    · have hF := z_pos hF zc2
      refine lv_iconst (v := 0) hx hb dX11_in_17 (by decide) ?_
      have ho := (Option.some.inj hF).symm
      exact W.zret (v := 0) hx hb hr rfl (fun t ht hW => ⟨⟨0, (), rfl, ho, z_end ht hP⟩, hS.F ht⟩) hS.2.2 dX11_in_18
    · have hF := z_neg hF zc2
      refine lv_iconst (v := 1) hx hb dX11_in_13 (by decide) ?_
      refine lv_goto (tgt := 18) hx hb dX11_in_14 (by decide) ?_
      have ho := (Option.some.inj hF).symm
      exact W.zret (v := 1) hx hb hr rfl (fun t ht hW => ⟨⟨1, (), rfl, ho, z_end ht hP⟩, hS.F ht⟩) hS.2.2 dX11_in_18
abbrev w_X11_starts : List Cond := .code yX11_starts cX11_starts 2 none :: wU
abbrev r_X11_starts : Room := { frames := 0, cells := 0, slots := 0, locals := 0 }
abbrev q_X11_starts (g : GG) (q0 q1 q2 q3 q4 q5 q6 q7 q8 q9 q10 q11 q12 : Nat) (mm : Nat → Int64) (masd : Nat → Int64) (msav : Nat → Int64) (misS : Int32) (mpst : Nat → Int64) (mchg : Int32) (merr : Int32) (mfai : Int32) (mthr : Int32) (minp : Nat → Int32) (minM : Int32) (mUp : Nat → Int32) (mcar : Nat → Int32) (mcam : Nat → Int32) (mahd : Int32) (magn : Int32) (mltr : Nat → Int32) (mbeg : Nat → Int32) (mcmd : Nat → Int32) (mcmM : Int32) (mpl : Int32) (msz : Int32) (mwr : Int32) (mlin : Nat → Int32) (mliM : Int32) (o : (Nat → Int64) × Int32) (A : Nat → Prop) := va_Qv (fun (u : (Nat → Int64) × Int32) => o = u) (fun u t => va_P (gD g) zCl (wModel g q0 q1 q2 q3 q4 q5 q6 q7 q8 q9 q10 q11 q12 mm u.1 msav misS mpst mchg merr mfai u.2 minp minM mUp mcar mcam mahd magn mltr mbeg mcmd mcmM mpl msz mwr mlin mliM) t.heap) A
set_option maxHeartbeats 4000000 in
set_option maxRecDepth 100000 in
theorem c_X11_starts (l : Launch) (g : GG) (q0 q1 q2 q3 q4 q5 q6 q7 q8 q9 q10 q11 q12 : Nat) (mm : Nat → Int64) (masd : Nat → Int64) (msav : Nat → Int64) (misS : Int32) (mpst : Nat → Int64) (mchg : Int32) (merr : Int32) (mfai : Int32) (mthr : Int32) (minp : Nat → Int32) (minM : Int32) (mUp : Nat → Int32) (mcar : Nat → Int32) (mcam : Nat → Int32) (mahd : Int32) (magn : Int32) (mltr : Nat → Int32) (mbeg : Nat → Int32) (mcmd : Nat → Int32) (mcmM : Int32) (mpl : Int32) (msz : Int32) (mwr : Int32) (mlin : Nat → Int32) (mliM : Int32) (sz : Nat) (fu : Nat) (o : (Nat → Int64) × Int32) (hF : F_X11_starts fu mm masd mthr = some o) : Met l yX11_starts w_X11_starts r_X11_starts (va_Pc [.ref q0] (zP g (wModel g q0 q1 q2 q3 q4 q5 q6 q7 q8 q9 q10 q11 q12 mm masd msav misS mpst mchg merr mfai mthr minp minM mUp mcar mcam mahd magn mltr mbeg mcmd mcmM mpl msz mwr mlin mliM) sz)) (q_X11_starts g q0 q1 q2 q3 q4 q5 q6 q7 q8 q9 q10 q11 q12 mm masd msav misS mpst mchg merr mfai mthr minp minM mUp mcar mcam mahd magn mltr mbeg mcmd mcmM mpl msz mwr mlin mliM o (va_A (wModel g q0 q1 q2 q3 q4 q5 q6 q7 q8 q9 q10 q11 q12 mm masd msav misS mpst mchg merr mfai mthr minp minM mUp mcar mcam mahd magn mltr mbeg mcmd mcmM mpl msz mwr mlin mliM) sz)) 0 0 (va_A (wModel g q0 q1 q2 q3 q4 q5 q6 q7 q8 q9 q10 q11 q12 mm masd msav misS mpst mchg merr mfai mthr minp minM mUp mcar mcam mahd magn mltr mbeg mcmd mcmM mpl msz mwr mlin mliM) sz) := by
  refine Met.ofW (cc := cX11_starts) (maxL := 2) (ret := none) (by decide) rfl ?_
  intro p e s m args below meth c s₁ B hml hv
  obtain ⟨rfl, rfl, hP, hK, hD0, hB⟩ := hv
  have hx := B.exec
  have hb := B.bytes
  have hr := B.returns
  have hts : ∀ w ∈ wU, w.before _ s = true := fun w h => atoms_spec (ws := w_X11_starts) B.pre w (List.mem_cons_of_mem _ h)
  have hown : s.vm.findClass RX11 = some m.cls := findClass_of_methodNamed B.named
  have hlocks := B.notSynchronized
  have hD := hD0.self (sz := s.heap.size)
  generalize hAe : va_A (wModel g q0 q1 q2 q3 q4 q5 q6 q7 q8 q9 q10 q11 q12 mm masd msav misS mpst mchg merr mfai mthr minp minM mUp mcar mcam mahd magn mltr mbeg mcmd mcmM mpl msz mwr mlin mliM) s.heap.size = A at hD hB ⊢
  have hA : ∀ q : Nat, s.heap.size ≤ q → A q := fun q h => by rw [← hAe]; exact Or.inr h
  have hS : va_S A s.heap s.heap [] := va_S.rf
  have hl := lv_entry ([.ref q0]) (n := 2) (Nat.le_of_ble_eq_true rfl)
  rw [lg_entry_eq]
  generalize (lg_sl ([.ref q0]) ++ List.replicate (2 - (lg_sl ([.ref q0])).length) Slot.unset).toArray = ls at hl ⊢
  have hl : lv_has ls 2 [(0, .ref q0)] := hl
  unfold F_X11_starts at hF
  have K7 : ∀ (n7 : Nat) (masd : Nat → Int64) (mthr : Int32) (x1 : Int32), F_X11_starts_7 fu n7 mm masd mthr x1 = some o → ∀ (H : Heap) (locs : List Loc) (ls : Array Slot), lv_has ls 2 [(0, .ref q0), (1, .int x1)] → va_P (gD g) zCl (wModel g q0 q1 q2 q3 q4 q5 q6 q7 q8 q9 q10 q11 q12 mm masd msav misS mpst mchg merr mfai mthr minp minM mUp mcar mcam mahd magn mltr mbeg mcmd mcmM mpl msz mwr mlin mliM) H → va_D A (wModel g q0 q1 q2 q3 q4 q5 q6 q7 q8 q9 q10 q11 q12 mm masd msav misS mpst mchg merr mfai mthr minp minM mUp mcar mcam mahd magn mltr mbeg mcmd mcmM mpl msz mwr mlin mliM) → va_S A s.heap H locs → W p l e (headSpec w_X11_starts r_X11_starts).room s m ([.ref q0] : List Value).toArray below meth c H locs 0 0 (MQ below (q_X11_starts g q0 q1 q2 q3 q4 q5 q6 q7 q8 q9 q10 q11 q12 mm masd msav misS mpst mchg merr mfai mthr minp minM mUp mcar mcam mahd magn mltr mbeg mcmd mcmM mpl msz mwr mlin mliM o A) ([.ref q0] : List Value).toArray s 0 0 A) (F0 m 7 ls []) := by
    intro n7
    induction n7 with
    | zero =>
      intro masd mthr x1 hF
      exact absurd hF (by simp [F_X11_starts_7])
    | succ n7 ih7 =>
      intro masd mthr x1 hF H locs ls hl hP hD hS
      unfold F_X11_starts_7 at hF
      refine lv_iload_n hx hb dX11_starts_7 rfl (lv_at hl 1 rfl) ?_
      refine lv_bipush (v := 28) hx hb dX11_starts_8 (by decide) ?_
      refine lv_icmp_ge (tgt := 31) hx hb dX11_starts_10 (by decide) (fun zc1 => ?_) (fun zc1 => ?_)
      · have hF := z_pos hF zc1
        have ho := (Option.some.inj hF).symm
        exact W.vret hx hb hr (fun t ht hW => ⟨⟨(masd, mthr), rfl, ho, z_end ht hP⟩, hS.F ht⟩) hS.2.2 dX11_starts_31
      · have hF := z_neg hF zc1
        refine lv_aload_n hx hb dX11_starts_13 rfl (lv_at hl 0 rfl) ?_
        refine va_get (D := gD g) (ci := 7) (v := .ref q2) (C := RX11) (T := TX11) (N := 25) hx hb hts inX11 hown hK hP 0 rfl rfl 1 (by decide) (hts _ mU_1245) (fun _ h9 => h9) rfl dX11_starts_14 ?_
        refine lv_iload_n hx hb dX11_starts_17 rfl (lv_at hl 1 rfl) ?_
        refine lv_aload_n hx hb dX11_starts_18 rfl (lv_at hl 0 rfl) ?_
        refine va_get (D := gD g) (ci := 7) (v := .ref q1) (C := RX11) (T := TX11) (N := 25) hx hb hts inX11 hown hK hP 0 rfl rfl 0 (by decide) (hts _ mU_1244) (fun _ h9 => h9) rfl dX11_starts_19 ?_
        refine lv_iload_n hx hb dX11_starts_22 rfl (lv_at hl 1 rfl) ?_
        obtain ⟨zg2, hF⟩ := z_grd hF
        refine va_lald hx hb hK hP 1 2 rfl rfl zg2 dX11_starts_23 ?_
        obtain ⟨zg3, hF⟩ := z_grd hF
        refine va_last hx hb hK hP hD hS 2 2 rfl rfl zg3 dX11_starts_24 (fun H locs hP hD hS => ?_)
        have hP : va_P (gD g) zCl (wModel g q0 q1 q2 q3 q4 q5 q6 q7 q8 q9 q10 q11 q12 mm (vp_updL masd (Int32.toNatClampNeg x1) (mm (Int32.toNatClampNeg x1))) msav misS mpst mchg merr mfai mthr minp minM mUp mcar mcam mahd magn mltr mbeg mcmd mcmM mpl msz mwr mlin mliM) H := hP
        have hD : va_D A (wModel g q0 q1 q2 q3 q4 q5 q6 q7 q8 q9 q10 q11 q12 mm (vp_updL masd (Int32.toNatClampNeg x1) (mm (Int32.toNatClampNeg x1))) msav misS mpst mchg merr mfai mthr minp minM mUp mcar mcam mahd magn mltr mbeg mcmd mcmM mpl msz mwr mlin mliM) := hD
        obtain ⟨zv4, ezv4, hF⟩ := z_let hF
        refine lv_iinc (v := zv4) (lv' := [(1, .int zv4), (0, .ref q0)]) hx hb dX11_starts_25 hl (k := 1) rfl (by rw [ezv4]; rfl) (by decide) rfl (fun ls hl => ?_)
        refine lv_goto (tgt := 7) hx hb dX11_starts_28 (by decide) ?_
        exact ih7 (vp_updL masd (Int32.toNatClampNeg x1) (mm (Int32.toNatClampNeg x1))) mthr zv4 hF _ _ _ (lv_sub hl [1, 0] rfl) hP hD hS
  refine lv_aload_n hx hb dX11_starts_0 rfl (lv_at hl 0 rfl) ?_
  refine lv_iconst (v := 0) hx hb dX11_starts_1 (by decide) ?_
  refine va_put (D := gD g) (ci := 7) (v := .int 0) (ty := .int) (C := RX11) (T := TX11) (N := 25) hx hb hts inX11 tyX11 tyX11_ok nmX11 hown hK hP hD hS 0 rfl rfl 8 (by decide) (hts _ mU_1252) (fun _ h9 => h9) rfl (by decide +kernel) rfl rfl (Nat.le_of_ble_eq_true rfl) dX11_starts_2 (fun H locs hP hD hS => ?_)
  have hP : va_P (gD g) zCl (wModel g q0 q1 q2 q3 q4 q5 q6 q7 q8 q9 q10 q11 q12 mm masd msav misS mpst mchg merr mfai 0 minp minM mUp mcar mcam mahd magn mltr mbeg mcmd mcmM mpl msz mwr mlin mliM) H := hP
  have hD : va_D A (wModel g q0 q1 q2 q3 q4 q5 q6 q7 q8 q9 q10 q11 q12 mm masd msav misS mpst mchg merr mfai 0 minp minM mUp mcar mcam mahd magn mltr mbeg mcmd mcmM mpl msz mwr mlin mliM) := hD
  refine lv_iconst (v := 0) hx hb dX11_starts_5 (by decide) ?_
  refine lv_istore_n (lv' := [(1, .int 0), (0, .ref q0)]) hx hb dX11_starts_6 rfl hl (by decide) rfl (fun ls hl => ?_)
  exact K7 fu masd 0 0 hF _ _ _ (lv_sub hl [1, 0] rfl) hP hD hS
abbrev w_X11_ends : List Cond := .code yX11_ends cX11_ends 2 none :: wU
abbrev r_X11_ends : Room := { frames := 0, cells := 0, slots := 0, locals := 0 }
abbrev q_X11_ends (g : GG) (q0 q1 q2 q3 q4 q5 q6 q7 q8 q9 q10 q11 q12 : Nat) (mm : Nat → Int64) (masd : Nat → Int64) (msav : Nat → Int64) (misS : Int32) (mpst : Nat → Int64) (mchg : Int32) (merr : Int32) (mfai : Int32) (mthr : Int32) (minp : Nat → Int32) (minM : Int32) (mUp : Nat → Int32) (mcar : Nat → Int32) (mcam : Nat → Int32) (mahd : Int32) (magn : Int32) (mltr : Nat → Int32) (mbeg : Nat → Int32) (mcmd : Nat → Int32) (mcmM : Int32) (mpl : Int32) (msz : Int32) (mwr : Int32) (mlin : Nat → Int32) (mliM : Int32) (o : (Nat → Int64) × Int32) (A : Nat → Prop) := va_Qv (fun (u : (Nat → Int64) × Int32) => o = u) (fun u t => va_P (gD g) zCl (wModel g q0 q1 q2 q3 q4 q5 q6 q7 q8 q9 q10 q11 q12 mm masd msav misS u.1 u.2 merr mfai mthr minp minM mUp mcar mcam mahd magn mltr mbeg mcmd mcmM mpl msz mwr mlin mliM) t.heap) A
set_option maxHeartbeats 4000000 in
set_option maxRecDepth 100000 in
theorem c_X11_ends (l : Launch) (g : GG) (q0 q1 q2 q3 q4 q5 q6 q7 q8 q9 q10 q11 q12 : Nat) (mm : Nat → Int64) (masd : Nat → Int64) (msav : Nat → Int64) (misS : Int32) (mpst : Nat → Int64) (mchg : Int32) (merr : Int32) (mfai : Int32) (mthr : Int32) (minp : Nat → Int32) (minM : Int32) (mUp : Nat → Int32) (mcar : Nat → Int32) (mcam : Nat → Int32) (mahd : Int32) (magn : Int32) (mltr : Nat → Int32) (mbeg : Nat → Int32) (mcmd : Nat → Int32) (mcmM : Int32) (mpl : Int32) (msz : Int32) (mwr : Int32) (mlin : Nat → Int32) (mliM : Int32) (sz : Nat) (fu : Nat) (o : (Nat → Int64) × Int32) (hF : F_X11_ends fu masd mpst mchg mthr = some o) : Met l yX11_ends w_X11_ends r_X11_ends (va_Pc [.ref q0] (zP g (wModel g q0 q1 q2 q3 q4 q5 q6 q7 q8 q9 q10 q11 q12 mm masd msav misS mpst mchg merr mfai mthr minp minM mUp mcar mcam mahd magn mltr mbeg mcmd mcmM mpl msz mwr mlin mliM) sz)) (q_X11_ends g q0 q1 q2 q3 q4 q5 q6 q7 q8 q9 q10 q11 q12 mm masd msav misS mpst mchg merr mfai mthr minp minM mUp mcar mcam mahd magn mltr mbeg mcmd mcmM mpl msz mwr mlin mliM o (va_A (wModel g q0 q1 q2 q3 q4 q5 q6 q7 q8 q9 q10 q11 q12 mm masd msav misS mpst mchg merr mfai mthr minp minM mUp mcar mcam mahd magn mltr mbeg mcmd mcmM mpl msz mwr mlin mliM) sz)) 0 0 (va_A (wModel g q0 q1 q2 q3 q4 q5 q6 q7 q8 q9 q10 q11 q12 mm masd msav misS mpst mchg merr mfai mthr minp minM mUp mcar mcam mahd magn mltr mbeg mcmd mcmM mpl msz mwr mlin mliM) sz) := by
  refine Met.ofW (cc := cX11_ends) (maxL := 2) (ret := none) (by decide) rfl ?_
  intro p e s m args below meth c s₁ B hml hv
  obtain ⟨rfl, rfl, hP, hK, hD0, hB⟩ := hv
  have hx := B.exec
  have hb := B.bytes
  have hr := B.returns
  have hts : ∀ w ∈ wU, w.before _ s = true := fun w h => atoms_spec (ws := w_X11_ends) B.pre w (List.mem_cons_of_mem _ h)
  have hown : s.vm.findClass RX11 = some m.cls := findClass_of_methodNamed B.named
  have hlocks := B.notSynchronized
  have hD := hD0.self (sz := s.heap.size)
  generalize hAe : va_A (wModel g q0 q1 q2 q3 q4 q5 q6 q7 q8 q9 q10 q11 q12 mm masd msav misS mpst mchg merr mfai mthr minp minM mUp mcar mcam mahd magn mltr mbeg mcmd mcmM mpl msz mwr mlin mliM) s.heap.size = A at hD hB ⊢
  have hA : ∀ q : Nat, s.heap.size ≤ q → A q := fun q h => by rw [← hAe]; exact Or.inr h
  have hS : va_S A s.heap s.heap [] := va_S.rf
  have hl := lv_entry ([.ref q0]) (n := 2) (Nat.le_of_ble_eq_true rfl)
  rw [lg_entry_eq]
  generalize (lg_sl ([.ref q0]) ++ List.replicate (2 - (lg_sl ([.ref q0])).length) Slot.unset).toArray = ls at hl ⊢
  have hl : lv_has ls 2 [(0, .ref q0)] := hl
  unfold F_X11_ends at hF
  have K59 : ∀ (n59 : Nat) (mpst : Nat → Int64) (mchg : Int32) (x1 : Int32), F_X11_ends_59 fu n59 masd mpst mchg mthr x1 = some o → ∀ (H : Heap) (locs : List Loc) (ls : Array Slot), lv_has ls 2 [(0, .ref q0), (1, .int x1)] → va_P (gD g) zCl (wModel g q0 q1 q2 q3 q4 q5 q6 q7 q8 q9 q10 q11 q12 mm masd msav misS mpst mchg merr mfai mthr minp minM mUp mcar mcam mahd magn mltr mbeg mcmd mcmM mpl msz mwr mlin mliM) H → va_D A (wModel g q0 q1 q2 q3 q4 q5 q6 q7 q8 q9 q10 q11 q12 mm masd msav misS mpst mchg merr mfai mthr minp minM mUp mcar mcam mahd magn mltr mbeg mcmd mcmM mpl msz mwr mlin mliM) → va_S A s.heap H locs → W p l e (headSpec w_X11_ends r_X11_ends).room s m ([.ref q0] : List Value).toArray below meth c H locs 0 0 (MQ below (q_X11_ends g q0 q1 q2 q3 q4 q5 q6 q7 q8 q9 q10 q11 q12 mm masd msav misS mpst mchg merr mfai mthr minp minM mUp mcar mcam mahd magn mltr mbeg mcmd mcmM mpl msz mwr mlin mliM o A) ([.ref q0] : List Value).toArray s 0 0 A) (F0 m 59 ls []) := by
    intro n59
    induction n59 with
    | zero =>
      intro mpst mchg x1 hF
      exact absurd hF (by simp [F_X11_ends_59])
    | succ n59 ih59 =>
      intro mpst mchg x1 hF H locs ls hl hP hD hS
      unfold F_X11_ends_59 at hF
      refine lv_iload_n hx hb dX11_ends_59 rfl (lv_at hl 1 rfl) ?_
      refine lv_bipush (v := 28) hx hb dX11_ends_60 (by decide) ?_
      refine lv_icmp_ge (tgt := 91) hx hb dX11_ends_62 (by decide) (fun zc1 => ?_) (fun zc1 => ?_)
      · have hF := z_pos hF zc1
        refine lv_aload_n hx hb dX11_ends_91 rfl (lv_at hl 0 rfl) ?_
        refine lv_dup hx hb dX11_ends_92 rfl ?_
        refine va_get (D := gD g) (ci := 7) (v := .int mchg) (C := RX11) (T := TX11) (N := 25) hx hb hts inX11 hown hK hP 0 rfl rfl 5 (by decide) (hts _ mU_1249) (fun _ h9 => h9) rfl dX11_ends_93 ?_
        refine lv_iconst (v := 1) hx hb dX11_ends_96 (by decide) ?_
        refine lv_iadd hx hb dX11_ends_97 ?_
        refine va_put (D := gD g) (ci := 7) (v := .int (mchg + 1)) (ty := .int) (C := RX11) (T := TX11) (N := 25) hx hb hts inX11 tyX11 tyX11_ok nmX11 hown hK hP hD hS 0 rfl rfl 5 (by decide) (hts _ mU_1249) (fun _ h9 => h9) rfl (by decide +kernel) rfl rfl (Nat.le_of_ble_eq_true rfl) dX11_ends_98 (fun H locs hP hD hS => ?_)
        have hP : va_P (gD g) zCl (wModel g q0 q1 q2 q3 q4 q5 q6 q7 q8 q9 q10 q11 q12 mm masd msav misS mpst (mchg + 1) merr mfai mthr minp minM mUp mcar mcam mahd magn mltr mbeg mcmd mcmM mpl msz mwr mlin mliM) H := hP
        have hD : va_D A (wModel g q0 q1 q2 q3 q4 q5 q6 q7 q8 q9 q10 q11 q12 mm masd msav misS mpst (mchg + 1) merr mfai mthr minp minM mUp mcar mcam mahd magn mltr mbeg mcmd mcmM mpl msz mwr mlin mliM) := hD
        have ho := (Option.some.inj hF).symm
        exact W.vret hx hb hr (fun t ht hW => ⟨⟨(mpst, (mchg + 1)), rfl, ho, z_end ht hP⟩, hS.F ht⟩) hS.2.2 dX11_ends_101
      · have hF := z_neg hF zc1
        refine lv_aload_n hx hb dX11_ends_65 rfl (lv_at hl 0 rfl) ?_
        refine va_get (D := gD g) (ci := 7) (v := .ref q4) (C := RX11) (T := TX11) (N := 25) hx hb hts inX11 hown hK hP 0 rfl rfl 4 (by decide) (hts _ mU_1248) (fun _ h9 => h9) rfl dX11_ends_66 ?_
        refine lv_bipush (v := 28) hx hb dX11_ends_69 (by decide) ?_
        refine lv_aload_n hx hb dX11_ends_71 rfl (lv_at hl 0 rfl) ?_
        refine va_get (D := gD g) (ci := 7) (v := .int mchg) (C := RX11) (T := TX11) (N := 25) hx hb hts inX11 hown hK hP 0 rfl rfl 5 (by decide) (hts _ mU_1249) (fun _ h9 => h9) rfl dX11_ends_72 ?_
        refine lv_imul hx hb dX11_ends_75 ?_
        refine lv_iload_n hx hb dX11_ends_76 rfl (lv_at hl 1 rfl) ?_
        refine lv_iadd hx hb dX11_ends_77 ?_
        refine lv_aload_n hx hb dX11_ends_78 rfl (lv_at hl 0 rfl) ?_
        refine va_get (D := gD g) (ci := 7) (v := .ref q2) (C := RX11) (T := TX11) (N := 25) hx hb hts inX11 hown hK hP 0 rfl rfl 1 (by decide) (hts _ mU_1245) (fun _ h9 => h9) rfl dX11_ends_79 ?_
        refine lv_iload_n hx hb dX11_ends_82 rfl (lv_at hl 1 rfl) ?_
        obtain ⟨zg2, hF⟩ := z_grd hF
        refine va_lald hx hb hK hP 2 2 rfl rfl zg2 dX11_ends_83 ?_
        obtain ⟨zg3, hF⟩ := z_grd hF
        refine va_last hx hb hK hP hD hS 4 2 rfl rfl zg3 dX11_ends_84 (fun H locs hP hD hS => ?_)
        have hP : va_P (gD g) zCl (wModel g q0 q1 q2 q3 q4 q5 q6 q7 q8 q9 q10 q11 q12 mm masd msav misS (vp_updL mpst (Int32.toNatClampNeg ((28 * mchg) + x1)) (masd (Int32.toNatClampNeg x1))) mchg merr mfai mthr minp minM mUp mcar mcam mahd magn mltr mbeg mcmd mcmM mpl msz mwr mlin mliM) H := hP
        have hD : va_D A (wModel g q0 q1 q2 q3 q4 q5 q6 q7 q8 q9 q10 q11 q12 mm masd msav misS (vp_updL mpst (Int32.toNatClampNeg ((28 * mchg) + x1)) (masd (Int32.toNatClampNeg x1))) mchg merr mfai mthr minp minM mUp mcar mcam mahd magn mltr mbeg mcmd mcmM mpl msz mwr mlin mliM) := hD
        obtain ⟨zv4, ezv4, hF⟩ := z_let hF
        refine lv_iinc (v := zv4) (lv' := [(1, .int zv4), (0, .ref q0)]) hx hb dX11_ends_85 hl (k := 1) rfl (by rw [ezv4]; rfl) (by decide) rfl (fun ls hl => ?_)
        refine lv_goto (tgt := 59) hx hb dX11_ends_88 (by decide) ?_
        exact ih59 (vp_updL mpst (Int32.toNatClampNeg ((28 * mchg) + x1)) (masd (Int32.toNatClampNeg x1))) mchg zv4 hF _ _ _ (lv_sub hl [1, 0] rfl) hP hD hS
  have K19 : ∀ (n19 : Nat) (mpst : Nat → Int64) (mchg : Int32) (x1 : Int32), F_X11_ends_19 fu n19 masd mpst mchg mthr x1 = some o → ∀ (H : Heap) (locs : List Loc) (ls : Array Slot), lv_has ls 2 [(0, .ref q0), (1, .int x1)] → va_P (gD g) zCl (wModel g q0 q1 q2 q3 q4 q5 q6 q7 q8 q9 q10 q11 q12 mm masd msav misS mpst mchg merr mfai mthr minp minM mUp mcar mcam mahd magn mltr mbeg mcmd mcmM mpl msz mwr mlin mliM) H → va_D A (wModel g q0 q1 q2 q3 q4 q5 q6 q7 q8 q9 q10 q11 q12 mm masd msav misS mpst mchg merr mfai mthr minp minM mUp mcar mcam mahd magn mltr mbeg mcmd mcmM mpl msz mwr mlin mliM) → va_S A s.heap H locs → W p l e (headSpec w_X11_ends r_X11_ends).room s m ([.ref q0] : List Value).toArray below meth c H locs 0 0 (MQ below (q_X11_ends g q0 q1 q2 q3 q4 q5 q6 q7 q8 q9 q10 q11 q12 mm masd msav misS mpst mchg merr mfai mthr minp minM mUp mcar mcam mahd magn mltr mbeg mcmd mcmM mpl msz mwr mlin mliM o A) ([.ref q0] : List Value).toArray s 0 0 A) (F0 m 19 ls []) := by
    intro n19
    induction n19 with
    | zero =>
      intro mpst mchg x1 hF
      exact absurd hF (by simp [F_X11_ends_19])
    | succ n19 ih19 =>
      intro mpst mchg x1 hF H locs ls hl hP hD hS
      unfold F_X11_ends_19 at hF
      refine lv_iload_n hx hb dX11_ends_19 rfl (lv_at hl 1 rfl) ?_
      refine lv_sipush (v := 196) hx hb dX11_ends_20 (by decide) ?_
      refine lv_icmp_ge (tgt := 47) hx hb dX11_ends_23 (by decide) (fun zc5 => ?_) (fun zc5 => ?_)
      · have hF := z_pos hF zc5
        refine lv_aload_n hx hb dX11_ends_47 rfl (lv_at hl 0 rfl) ?_
        refine lv_dup hx hb dX11_ends_48 rfl ?_
        refine va_get (D := gD g) (ci := 7) (v := .int mchg) (C := RX11) (T := TX11) (N := 25) hx hb hts inX11 hown hK hP 0 rfl rfl 5 (by decide) (hts _ mU_1249) (fun _ h9 => h9) rfl dX11_ends_49 ?_
        refine lv_iconst (v := 1) hx hb dX11_ends_52 (by decide) ?_
        refine lv_isub hx hb dX11_ends_53 ?_
        refine va_put (D := gD g) (ci := 7) (v := .int (mchg - 1)) (ty := .int) (C := RX11) (T := TX11) (N := 25) hx hb hts inX11 tyX11 tyX11_ok nmX11 hown hK hP hD hS 0 rfl rfl 5 (by decide) (hts _ mU_1249) (fun _ h9 => h9) rfl (by decide +kernel) rfl rfl (Nat.le_of_ble_eq_true rfl) dX11_ends_54 (fun H locs hP hD hS => ?_)
        have hP : va_P (gD g) zCl (wModel g q0 q1 q2 q3 q4 q5 q6 q7 q8 q9 q10 q11 q12 mm masd msav misS mpst (mchg - 1) merr mfai mthr minp minM mUp mcar mcam mahd magn mltr mbeg mcmd mcmM mpl msz mwr mlin mliM) H := hP
        have hD : va_D A (wModel g q0 q1 q2 q3 q4 q5 q6 q7 q8 q9 q10 q11 q12 mm masd msav misS mpst (mchg - 1) merr mfai mthr minp minM mUp mcar mcam mahd magn mltr mbeg mcmd mcmM mpl msz mwr mlin mliM) := hD
        refine lv_iconst (v := 0) hx hb dX11_ends_57 (by decide) ?_
        refine lv_istore_n (lv' := [(1, .int 0), (0, .ref q0)]) hx hb dX11_ends_58 rfl hl (by decide) rfl (fun ls hl => ?_)
        exact K59 fu mpst (mchg - 1) 0 hF _ _ _ (lv_sub hl [1, 0] rfl) hP hD hS
      · have hF := z_neg hF zc5
        refine lv_aload_n hx hb dX11_ends_26 rfl (lv_at hl 0 rfl) ?_
        refine va_get (D := gD g) (ci := 7) (v := .ref q4) (C := RX11) (T := TX11) (N := 25) hx hb hts inX11 hown hK hP 0 rfl rfl 4 (by decide) (hts _ mU_1248) (fun _ h9 => h9) rfl dX11_ends_27 ?_
        refine lv_iload_n hx hb dX11_ends_30 rfl (lv_at hl 1 rfl) ?_
        refine lv_aload_n hx hb dX11_ends_31 rfl (lv_at hl 0 rfl) ?_
        refine va_get (D := gD g) (ci := 7) (v := .ref q4) (C := RX11) (T := TX11) (N := 25) hx hb hts inX11 hown hK hP 0 rfl rfl 4 (by decide) (hts _ mU_1248) (fun _ h9 => h9) rfl dX11_ends_32 ?_
        refine lv_iload_n hx hb dX11_ends_35 rfl (lv_at hl 1 rfl) ?_
        refine lv_bipush (v := 28) hx hb dX11_ends_36 (by decide) ?_
        refine lv_iadd hx hb dX11_ends_38 ?_
        obtain ⟨zg6, hF⟩ := z_grd hF
        refine va_lald hx hb hK hP 4 2 rfl rfl zg6 dX11_ends_39 ?_
        obtain ⟨zg7, hF⟩ := z_grd hF
        refine va_last hx hb hK hP hD hS 4 2 rfl rfl zg7 dX11_ends_40 (fun H locs hP hD hS => ?_)
        have hP : va_P (gD g) zCl (wModel g q0 q1 q2 q3 q4 q5 q6 q7 q8 q9 q10 q11 q12 mm masd msav misS (vp_updL mpst (Int32.toNatClampNeg x1) (mpst (Int32.toNatClampNeg (x1 + 28)))) mchg merr mfai mthr minp minM mUp mcar mcam mahd magn mltr mbeg mcmd mcmM mpl msz mwr mlin mliM) H := hP
        have hD : va_D A (wModel g q0 q1 q2 q3 q4 q5 q6 q7 q8 q9 q10 q11 q12 mm masd msav misS (vp_updL mpst (Int32.toNatClampNeg x1) (mpst (Int32.toNatClampNeg (x1 + 28)))) mchg merr mfai mthr minp minM mUp mcar mcam mahd magn mltr mbeg mcmd mcmM mpl msz mwr mlin mliM) := hD
        obtain ⟨zv8, ezv8, hF⟩ := z_let hF
        refine lv_iinc (v := zv8) (lv' := [(1, .int zv8), (0, .ref q0)]) hx hb dX11_ends_41 hl (k := 1) rfl (by rw [ezv8]; rfl) (by decide) rfl (fun ls hl => ?_)
        refine lv_goto (tgt := 19) hx hb dX11_ends_44 (by decide) ?_
        exact ih19 (vp_updL mpst (Int32.toNatClampNeg x1) (mpst (Int32.toNatClampNeg (x1 + 28)))) mchg zv8 hF _ _ _ (lv_sub hl [1, 0] rfl) hP hD hS
  refine lv_aload_n hx hb dX11_ends_0 rfl (lv_at hl 0 rfl) ?_
  refine va_get (D := gD g) (ci := 7) (v := .int mthr) (C := RX11) (T := TX11) (N := 25) hx hb hts inX11 hown hK hP 0 rfl rfl 8 (by decide) (hts _ mU_1252) (fun _ h9 => h9) rfl dX11_ends_1 ?_
  refine lv_if_le (tgt := 8) hx hb dX11_ends_4 (by decide) (fun zc9 => ?_) (fun zc9 => ?_)
  · have hF := z_pos hF zc9
    refine lv_aload_n hx hb dX11_ends_8 rfl (lv_at hl 0 rfl) ?_
    refine va_get (D := gD g) (ci := 7) (v := .int mchg) (C := RX11) (T := TX11) (N := 25) hx hb hts inX11 hown hK hP 0 rfl rfl 5 (by decide) (hts _ mU_1249) (fun _ h9 => h9) rfl dX11_ends_9 ?_
    refine lv_bipush (v := 8) hx hb dX11_ends_12 (by decide) ?_
    refine lv_icmp_ne (tgt := 57) hx hb dX11_ends_14 (by decide) (fun zc10 => ?_) (fun zc10 => ?_)
    · have hF := z_neg hF zc10
      refine lv_iconst (v := 0) hx hb dX11_ends_57 (by decide) ?_
      refine lv_istore_n (lv' := [(1, .int 0), (0, .ref q0)]) hx hb dX11_ends_58 rfl hl (by decide) rfl (fun ls hl => ?_)
      exact K59 fu mpst mchg 0 hF _ _ _ (lv_sub hl [1, 0] rfl) hP hD hS
    · have hF := z_pos hF zc10
      refine lv_iconst (v := 0) hx hb dX11_ends_17 (by decide) ?_
      refine lv_istore_n (lv' := [(1, .int 0), (0, .ref q0)]) hx hb dX11_ends_18 rfl hl (by decide) rfl (fun ls hl => ?_)
      exact K19 fu mpst mchg 0 hF _ _ _ (lv_sub hl [1, 0] rfl) hP hD hS
  · have hF := z_neg hF zc9
    have ho := (Option.some.inj hF).symm
    exact W.vret hx hb hr (fun t ht hW => ⟨⟨(mpst, mchg), rfl, ho, z_end ht hP⟩, hS.F ht⟩) hS.2.2 dX11_ends_7
abbrev w_X11_at : List Cond := .code yX11_at cX11_at 1 (some .int) :: wU
abbrev r_X11_at : Room := { frames := 0, cells := 0, slots := 0, locals := 0 }
abbrev q_X11_at (g : GG) (o : Int32) (A : Nat → Prop) := va_Qi (fun (r : Int32) (u : Unit) => o = r) (fun u t => va_P (gD g) zCl [] t.heap) A
set_option maxHeartbeats 4000000 in
set_option maxRecDepth 100000 in
theorem c_X11_at (l : Launch) (g : GG) (sz : Nat) (p0 : Int32) (o : Int32) (hF : F_X11_at p0 = some o) : Met l yX11_at w_X11_at r_X11_at (va_Pc [.int p0] (zP g [] sz)) (q_X11_at g o (va_A [] sz)) 0 0 (va_A [] sz) := by
  refine Met.ofW (cc := cX11_at) (maxL := 1) (ret := (some .int)) (by decide) rfl ?_
  intro p e s m args below meth c s₁ B hml hv
  obtain ⟨rfl, rfl, hP, hK, hD0, hB⟩ := hv
  have hx := B.exec
  have hb := B.bytes
  have hr := B.returns
  have hts : ∀ w ∈ wU, w.before _ s = true := fun w h => atoms_spec (ws := w_X11_at) B.pre w (List.mem_cons_of_mem _ h)
  have hown : s.vm.findClass RX11 = some m.cls := findClass_of_methodNamed B.named
  have hlocks := B.notSynchronized
  have hD := hD0.self (sz := s.heap.size)
  generalize hAe : va_A [] s.heap.size = A at hD hB ⊢
  have hA : ∀ q : Nat, s.heap.size ≤ q → A q := fun q h => by rw [← hAe]; exact Or.inr h
  have hS : va_S A s.heap s.heap [] := va_S.rf
  have hl := lv_entry ([.int p0]) (n := 1) (Nat.le_of_ble_eq_true rfl)
  rw [lg_entry_eq]
  generalize (lg_sl ([.int p0]) ++ List.replicate (1 - (lg_sl ([.int p0])).length) Slot.unset).toArray = ls at hl ⊢
  have hl : lv_has ls 1 [(0, .int p0)] := hl
  unfold F_X11_at at hF
  refine lv_iconst (v := 4) hx hb dX11_at_0 (by decide) ?_
  refine lv_iconst (v := 4) hx hb dX11_at_1 (by decide) ?_
  refine lv_iload_n hx hb dX11_at_2 rfl (lv_at hl 0 rfl) ?_
  refine lv_imul hx hb dX11_at_3 ?_
  refine lv_iadd hx hb dX11_at_4 ?_
  have ho := (Option.some.inj hF).symm
  exact W.iret (v := (4 + (4 * p0))) hx hb hr (fun t ht hW => ⟨⟨(4 + (4 * p0)), (), rfl, ho, z_end ht hP⟩, hS.F ht⟩) hS.2.2 dX11_at_5
abbrev w_X11_many : List Cond := .code yX11_many cX11_many 1 (some .int) :: wU
abbrev r_X11_many : Room := { frames := 0, cells := 0, slots := 0, locals := 0 }
abbrev q_X11_many (g : GG) (q0 q1 q2 q3 q4 q5 q6 q7 q8 q9 q10 q11 q12 : Nat) (mm : Nat → Int64) (masd : Nat → Int64) (msav : Nat → Int64) (misS : Int32) (mpst : Nat → Int64) (mchg : Int32) (merr : Int32) (mfai : Int32) (mthr : Int32) (minp : Nat → Int32) (minM : Int32) (mUp : Nat → Int32) (mcar : Nat → Int32) (mcam : Nat → Int32) (mahd : Int32) (magn : Int32) (mltr : Nat → Int32) (mbeg : Nat → Int32) (mcmd : Nat → Int32) (mcmM : Int32) (mpl : Int32) (msz : Int32) (mwr : Int32) (mlin : Nat → Int32) (mliM : Int32) (o : Int32) (A : Nat → Prop) := va_Qi (fun (r : Int32) (u : Unit) => o = r) (fun u t => va_P (gD g) zCl (wModel g q0 q1 q2 q3 q4 q5 q6 q7 q8 q9 q10 q11 q12 mm masd msav misS mpst mchg merr mfai mthr minp minM mUp mcar mcam mahd magn mltr mbeg mcmd mcmM mpl msz mwr mlin mliM) t.heap) A
set_option maxHeartbeats 4000000 in
set_option maxRecDepth 100000 in
theorem c_X11_many (l : Launch) (g : GG) (q0 q1 q2 q3 q4 q5 q6 q7 q8 q9 q10 q11 q12 : Nat) (mm : Nat → Int64) (masd : Nat → Int64) (msav : Nat → Int64) (misS : Int32) (mpst : Nat → Int64) (mchg : Int32) (merr : Int32) (mfai : Int32) (mthr : Int32) (minp : Nat → Int32) (minM : Int32) (mUp : Nat → Int32) (mcar : Nat → Int32) (mcam : Nat → Int32) (mahd : Int32) (magn : Int32) (mltr : Nat → Int32) (mbeg : Nat → Int32) (mcmd : Nat → Int32) (mcmM : Int32) (mpl : Int32) (msz : Int32) (mwr : Int32) (mlin : Nat → Int32) (mliM : Int32) (sz : Nat) (o : Int32) (hF : F_X11_many mm = some o) : Met l yX11_many w_X11_many r_X11_many (va_Pc [.ref q0] (zP g (wModel g q0 q1 q2 q3 q4 q5 q6 q7 q8 q9 q10 q11 q12 mm masd msav misS mpst mchg merr mfai mthr minp minM mUp mcar mcam mahd magn mltr mbeg mcmd mcmM mpl msz mwr mlin mliM) sz)) (q_X11_many g q0 q1 q2 q3 q4 q5 q6 q7 q8 q9 q10 q11 q12 mm masd msav misS mpst mchg merr mfai mthr minp minM mUp mcar mcam mahd magn mltr mbeg mcmd mcmM mpl msz mwr mlin mliM o (va_A (wModel g q0 q1 q2 q3 q4 q5 q6 q7 q8 q9 q10 q11 q12 mm masd msav misS mpst mchg merr mfai mthr minp minM mUp mcar mcam mahd magn mltr mbeg mcmd mcmM mpl msz mwr mlin mliM) sz)) 0 0 (va_A (wModel g q0 q1 q2 q3 q4 q5 q6 q7 q8 q9 q10 q11 q12 mm masd msav misS mpst mchg merr mfai mthr minp minM mUp mcar mcam mahd magn mltr mbeg mcmd mcmM mpl msz mwr mlin mliM) sz) := by
  refine Met.ofW (cc := cX11_many) (maxL := 1) (ret := (some .int)) (by decide) rfl ?_
  intro p e s m args below meth c s₁ B hml hv
  obtain ⟨rfl, rfl, hP, hK, hD0, hB⟩ := hv
  have hx := B.exec
  have hb := B.bytes
  have hr := B.returns
  have hts : ∀ w ∈ wU, w.before _ s = true := fun w h => atoms_spec (ws := w_X11_many) B.pre w (List.mem_cons_of_mem _ h)
  have hown : s.vm.findClass RX11 = some m.cls := findClass_of_methodNamed B.named
  have hlocks := B.notSynchronized
  have hD := hD0.self (sz := s.heap.size)
  generalize hAe : va_A (wModel g q0 q1 q2 q3 q4 q5 q6 q7 q8 q9 q10 q11 q12 mm masd msav misS mpst mchg merr mfai mthr minp minM mUp mcar mcam mahd magn mltr mbeg mcmd mcmM mpl msz mwr mlin mliM) s.heap.size = A at hD hB ⊢
  have hA : ∀ q : Nat, s.heap.size ≤ q → A q := fun q h => by rw [← hAe]; exact Or.inr h
  have hS : va_S A s.heap s.heap [] := va_S.rf
  have hl := lv_entry ([.ref q0]) (n := 1) (Nat.le_of_ble_eq_true rfl)
  rw [lg_entry_eq]
  generalize (lg_sl ([.ref q0]) ++ List.replicate (1 - (lg_sl ([.ref q0])).length) Slot.unset).toArray = ls at hl ⊢
  have hl : lv_has ls 1 [(0, .ref q0)] := hl
  unfold F_X11_many at hF
  refine lv_aload_n hx hb dX11_many_0 rfl (lv_at hl 0 rfl) ?_
  refine va_get (D := gD g) (ci := 7) (v := .ref q1) (C := RX11) (T := TX11) (N := 25) hx hb hts inX11 hown hK hP 0 rfl rfl 0 (by decide) (hts _ mU_1244) (fun _ h9 => h9) rfl dX11_many_1 ?_
  refine lv_iconst (v := 0) hx hb dX11_many_4 (by decide) ?_
  refine va_lald hx hb hK hP 1 2 rfl rfl (by unfold vp_in; decide) dX11_many_5 ?_
  refine lv_l2i (v := (Int64.toInt32 (mm (Int32.toNatClampNeg 0)))) hx hb dX11_many_6 rfl ?_
  have ho := (Option.some.inj hF).symm
  exact W.iret (v := (Int64.toInt32 (mm (Int32.toNatClampNeg 0)))) hx hb hr (fun t ht hW => ⟨⟨(Int64.toInt32 (mm (Int32.toNatClampNeg 0))), (), rfl, ho, z_end ht hP⟩, hS.F ht⟩) hS.2.2 dX11_many_7
abbrev w_X11_find : List Cond := .code yX11_find cX11_find 3 (some .int) :: wU
abbrev r_X11_find : Room := { frames := 1, cells := 0, slots := 0, locals := 20 }
abbrev q_X11_find (g : GG) (q0 q1 q2 q3 q4 q5 q6 q7 q8 q9 q10 q11 q12 : Nat) (mm : Nat → Int64) (masd : Nat → Int64) (msav : Nat → Int64) (misS : Int32) (mpst : Nat → Int64) (mchg : Int32) (merr : Int32) (mfai : Int32) (mthr : Int32) (minp : Nat → Int32) (minM : Int32) (mUp : Nat → Int32) (mcar : Nat → Int32) (mcam : Nat → Int32) (mahd : Int32) (magn : Int32) (mltr : Nat → Int32) (mbeg : Nat → Int32) (mcmd : Nat → Int32) (mcmM : Int32) (mpl : Int32) (msz : Int32) (mwr : Int32) (mlin : Nat → Int32) (mliM : Int32) (o : Int32) (A : Nat → Prop) := va_Qi (fun (r : Int32) (u : Unit) => o = r) (fun u t => va_P (gD g) zCl (wModel g q0 q1 q2 q3 q4 q5 q6 q7 q8 q9 q10 q11 q12 mm masd msav misS mpst mchg merr mfai mthr minp minM mUp mcar mcam mahd magn mltr mbeg mcmd mcmM mpl msz mwr mlin mliM) t.heap) A
set_option maxHeartbeats 4000000 in
set_option maxRecDepth 100000 in
theorem c_X11_find (l : Launch) (g : GG) (q0 q1 q2 q3 q4 q5 q6 q7 q8 q9 q10 q11 q12 : Nat) (mm : Nat → Int64) (masd : Nat → Int64) (msav : Nat → Int64) (misS : Int32) (mpst : Nat → Int64) (mchg : Int32) (merr : Int32) (mfai : Int32) (mthr : Int32) (minp : Nat → Int32) (minM : Int32) (mUp : Nat → Int32) (mcar : Nat → Int32) (mcam : Nat → Int32) (mahd : Int32) (magn : Int32) (mltr : Nat → Int32) (mbeg : Nat → Int32) (mcmd : Nat → Int32) (mcmM : Int32) (mpl : Int32) (msz : Int32) (mwr : Int32) (mlin : Nat → Int32) (mliM : Int32) (sz : Nat) (p1 : Int32) (fu : Nat) (o : Int32) (hF : F_X11_find fu mm p1 = some o) : Met l yX11_find w_X11_find r_X11_find (va_Pc [.ref q0, .int p1] (zP g (wModel g q0 q1 q2 q3 q4 q5 q6 q7 q8 q9 q10 q11 q12 mm masd msav misS mpst mchg merr mfai mthr minp minM mUp mcar mcam mahd magn mltr mbeg mcmd mcmM mpl msz mwr mlin mliM) sz)) (q_X11_find g q0 q1 q2 q3 q4 q5 q6 q7 q8 q9 q10 q11 q12 mm masd msav misS mpst mchg merr mfai mthr minp minM mUp mcar mcam mahd magn mltr mbeg mcmd mcmM mpl msz mwr mlin mliM o (va_A (wModel g q0 q1 q2 q3 q4 q5 q6 q7 q8 q9 q10 q11 q12 mm masd msav misS mpst mchg merr mfai mthr minp minM mUp mcar mcam mahd magn mltr mbeg mcmd mcmM mpl msz mwr mlin mliM) sz)) 0 0 (va_A (wModel g q0 q1 q2 q3 q4 q5 q6 q7 q8 q9 q10 q11 q12 mm masd msav misS mpst mchg merr mfai mthr minp minM mUp mcar mcam mahd magn mltr mbeg mcmd mcmM mpl msz mwr mlin mliM) sz) := by
  refine Met.ofW (cc := cX11_find) (maxL := 3) (ret := (some .int)) (by decide) rfl ?_
  intro p e s m args below meth c s₁ B hml hv
  obtain ⟨rfl, rfl, hP, hK, hD0, hB⟩ := hv
  have hx := B.exec
  have hb := B.bytes
  have hr := B.returns
  have hts : ∀ w ∈ wU, w.before _ s = true := fun w h => atoms_spec (ws := w_X11_find) B.pre w (List.mem_cons_of_mem _ h)
  have hown : s.vm.findClass RX11 = some m.cls := findClass_of_methodNamed B.named
  have hlocks := B.notSynchronized
  have hD := hD0.self (sz := s.heap.size)
  generalize hAe : va_A (wModel g q0 q1 q2 q3 q4 q5 q6 q7 q8 q9 q10 q11 q12 mm masd msav misS mpst mchg merr mfai mthr minp minM mUp mcar mcam mahd magn mltr mbeg mcmd mcmM mpl msz mwr mlin mliM) s.heap.size = A at hD hB ⊢
  have hA : ∀ q : Nat, s.heap.size ≤ q → A q := fun q h => by rw [← hAe]; exact Or.inr h
  have hS : va_S A s.heap s.heap [] := va_S.rf
  have hl := lv_entry ([.ref q0, .int p1]) (n := 3) (Nat.le_of_ble_eq_true rfl)
  rw [lg_entry_eq]
  generalize (lg_sl ([.ref q0, .int p1]) ++ List.replicate (3 - (lg_sl ([.ref q0, .int p1])).length) Slot.unset).toArray = ls at hl ⊢
  have hl : lv_has ls 3 [(0, .ref q0), (1, .int p1)] := hl
  unfold F_X11_find at hF
  have K2 : ∀ (n2 : Nat) (x2 : Int32), F_X11_find_2 fu n2 mm p1 x2 = some o → ∀ (H : Heap) (locs : List Loc) (ls : Array Slot), lv_has ls 3 [(0, .ref q0), (1, .int p1), (2, .int x2)] → va_P (gD g) zCl (wModel g q0 q1 q2 q3 q4 q5 q6 q7 q8 q9 q10 q11 q12 mm masd msav misS mpst mchg merr mfai mthr minp minM mUp mcar mcam mahd magn mltr mbeg mcmd mcmM mpl msz mwr mlin mliM) H → va_D A (wModel g q0 q1 q2 q3 q4 q5 q6 q7 q8 q9 q10 q11 q12 mm masd msav misS mpst mchg merr mfai mthr minp minM mUp mcar mcam mahd magn mltr mbeg mcmd mcmM mpl msz mwr mlin mliM) → va_S A s.heap H locs → W p l e (headSpec w_X11_find r_X11_find).room s m ([.ref q0, .int p1] : List Value).toArray below meth c H locs 0 0 (MQ below (q_X11_find g q0 q1 q2 q3 q4 q5 q6 q7 q8 q9 q10 q11 q12 mm masd msav misS mpst mchg merr mfai mthr minp minM mUp mcar mcam mahd magn mltr mbeg mcmd mcmM mpl msz mwr mlin mliM o A) ([.ref q0, .int p1] : List Value).toArray s 0 0 A) (F0 m 2 ls []) := by
    intro n2
    induction n2 with
    | zero =>
      intro x2 hF
      exact absurd hF (by simp [F_X11_find_2])
    | succ n2 ih2 =>
      intro x2 hF H locs ls hl hP hD hS
      unfold F_X11_find_2 at hF
      refine lv_iload_n hx hb dX11_find_2 rfl (lv_at hl 2 rfl) ?_
      refine lv_aload_n hx hb dX11_find_3 rfl (lv_at hl 0 rfl) ?_
      obtain ⟨zo1, hzo1, hF⟩ := z_bind hF
      refine z_calliE (fun (_ : Unit) => (wModel g q0 q1 q2 q3 q4 q5 q6 q7 q8 q9 q10 q11 q12 mm masd msav misS mpst mchg merr mfai mthr minp minM mUp mcar mcam mahd magn mltr mbeg mcmd mcmM mpl msz mwr mlin mliM)) (va_runV (As := []) (rest := [.int x2]) ⟨hx, hb, hml, hown, hts⟩ (c_X11_many l g q0 q1 q2 q3 q4 q5 q6 q7 q8 q9 q10 q11 q12 mm masd msav misS mpst mchg merr mfai mthr minp minM mUp mcar mcam mahd magn mltr mbeg mcmd mcmM mpl msz mwr mlin mliM _ _ hzo1) (cwV 0 hts (gdV mU_1356 mU_1358 mU_32 mU_75 mU_1359) rfl rfl rfl (by decide +kernel) ⟨Nat.le_of_ble_eq_true rfl, Nat.le_of_ble_eq_true rfl⟩) ⟨z_blind _ _ _ _, va_recv hK hP (ci := 7) (q0 := 0) rfl rfl, fun U hU hW => z_preE hP hD hK hB hS hA hU hW⟩ rfl rfl hl.1 rfl (lv_room (Nat.le_of_ble_eq_true rfl)) dX11_find_4 ⟨Nat.le_of_ble_eq_true rfl, Nat.le_of_ble_eq_true rfl⟩) hD hS hA (fun _ => rfl) (fun r u H locs hw hP hD hS => ?_)
      subst hw
      have hP : va_P (gD g) zCl (wModel g q0 q1 q2 q3 q4 q5 q6 q7 q8 q9 q10 q11 q12 mm masd msav misS mpst mchg merr mfai mthr minp minM mUp mcar mcam mahd magn mltr mbeg mcmd mcmM mpl msz mwr mlin mliM) H := hP
      have hD : va_D A (wModel g q0 q1 q2 q3 q4 q5 q6 q7 q8 q9 q10 q11 q12 mm masd msav misS mpst mchg merr mfai mthr minp minM mUp mcar mcam mahd magn mltr mbeg mcmd mcmM mpl msz mwr mlin mliM) := hD
      refine lv_icmp_ge (tgt := 33) hx hb dX11_find_7 (by decide) (fun zc2 => ?_) (fun zc2 => ?_)
      · have hF := z_pos hF zc2
        refine lv_iconst (v := (-1)) hx hb dX11_find_33 (by decide) ?_
        have ho := (Option.some.inj hF).symm
        exact W.iret (v := (-1)) hx hb hr (fun t ht hW => ⟨⟨(-1), (), rfl, ho, z_end ht hP⟩, hS.F ht⟩) hS.2.2 dX11_find_34
      · have hF := z_neg hF zc2
        refine lv_aload_n hx hb dX11_find_10 rfl (lv_at hl 0 rfl) ?_
        refine va_get (D := gD g) (ci := 7) (v := .ref q1) (C := RX11) (T := TX11) (N := 25) hx hb hts inX11 hown hK hP 0 rfl rfl 0 (by decide) (hts _ mU_1244) (fun _ h9 => h9) rfl dX11_find_11 ?_
        refine lv_iload_n hx hb dX11_find_14 rfl (lv_at hl 2 rfl) ?_
        obtain ⟨zo3, hzo3, hF⟩ := z_bind hF
        refine z_calli (fun (_ : Unit) => []) [] (va_runS (As := [.int x2]) (rest := [.ref q1]) ⟨hx, hb, hml, hown, hts⟩ (c_X11_at l g _ x2 _ hzo3) (va_cwS 1 hts (gdS mU_1372 mU_1373 mU_75 mU_1374) rfl rfl rfl (by decide +kernel) ⟨Nat.le_of_ble_eq_true rfl, Nat.le_of_ble_eq_true rfl⟩) ⟨z_blind _ _ _ _, fun U hU hW => z_pre [] hP hD hK hB hS hA rfl rfl hU hW⟩ rfl rfl hl.1 rfl (lv_room (Nat.le_of_ble_eq_true rfl)) dX11_find_15 ⟨Nat.le_of_ble_eq_true rfl, Nat.le_of_ble_eq_true rfl⟩) hP hD hS hA rfl (fun _ => rfl) (fun r u H locs hw hP hD hS => ?_)
        subst hw
        have hP : va_P (gD g) zCl (wModel g q0 q1 q2 q3 q4 q5 q6 q7 q8 q9 q10 q11 q12 mm masd msav misS mpst mchg merr mfai mthr minp minM mUp mcar mcam mahd magn mltr mbeg mcmd mcmM mpl msz mwr mlin mliM) H := hP
        have hD : va_D A (wModel g q0 q1 q2 q3 q4 q5 q6 q7 q8 q9 q10 q11 q12 mm masd msav misS mpst mchg merr mfai mthr minp minM mUp mcar mcam mahd magn mltr mbeg mcmd mcmM mpl msz mwr mlin mliM) := hD
        obtain ⟨zg4, hF⟩ := z_grd hF
        refine va_lald hx hb hK hP 1 2 rfl rfl zg4 dX11_find_18 ?_
        refine lv_iload_n hx hb dX11_find_19 rfl (lv_at hl 1 rfl) ?_
        refine lv_i2l (v := (Int32.toInt64 p1)) hx hb dX11_find_20 rfl ?_
        refine z_lcmp_ne (tgt := 27) hx hb dX11_find_21 dX11_find_22 (by decide) (fun zc5 => ?_) (fun zc5 => ?_)
        · have hF := z_neg hF zc5
          obtain ⟨zv6, ezv6, hF⟩ := z_let hF
          refine lv_iinc (v := zv6) (lv' := [(2, .int zv6), (0, .ref q0), (1, .int p1)]) hx hb dX11_find_27 hl (k := 2) rfl (by rw [ezv6]; rfl) (by decide) rfl (fun ls hl => ?_)
          refine lv_goto (tgt := 2) hx hb dX11_find_30 (by decide) ?_
          exact ih2 zv6 hF _ _ _ (lv_sub hl [1, 2, 0] rfl) hP hD hS
        · have hF := z_pos hF zc5
          refine lv_iload_n hx hb dX11_find_25 rfl (lv_at hl 2 rfl) ?_
          have ho := (Option.some.inj hF).symm
          exact W.iret (v := x2) hx hb hr (fun t ht hW => ⟨⟨x2, (), rfl, ho, z_end ht hP⟩, hS.F ht⟩) hS.2.2 dX11_find_26
  refine lv_iconst (v := 0) hx hb dX11_find_0 (by decide) ?_
  refine lv_istore_n (lv' := [(2, .int 0), (0, .ref q0), (1, .int p1)]) hx hb dX11_find_1 rfl hl (by decide) rfl (fun ls hl => ?_)
  exact K2 fu 0 hF _ _ _ (lv_sub hl [1, 2, 0] rfl) hP hD hS
abbrev w_X11_isMode : List Cond := .code yX11_isMode cX11_isMode 1 (some .boolean) :: wU
abbrev r_X11_isMode : Room := { frames := 0, cells := 0, slots := 0, locals := 0 }
abbrev q_X11_isMode (g : GG) (o : Int32) (A : Nat → Prop) := va_Qi (fun (r : Int32) (u : Unit) => o = r) (fun u t => va_P (gD g) zCl [] t.heap) A
set_option maxHeartbeats 4000000 in
set_option maxRecDepth 100000 in
theorem c_X11_isMode (l : Launch) (g : GG) (sz : Nat) (p0 : Int32) (o : Int32) (hF : F_X11_isMode p0 = some o) : Met l yX11_isMode w_X11_isMode r_X11_isMode (va_Pc [.int p0] (zP g [] sz)) (q_X11_isMode g o (va_A [] sz)) 0 0 (va_A [] sz) := by
  refine Met.ofW (cc := cX11_isMode) (maxL := 1) (ret := (some .boolean)) (by decide) rfl ?_
  intro p e s m args below meth c s₁ B hml hv
  obtain ⟨rfl, rfl, hP, hK, hD0, hB⟩ := hv
  have hx := B.exec
  have hb := B.bytes
  have hr := B.returns
  have hts : ∀ w ∈ wU, w.before _ s = true := fun w h => atoms_spec (ws := w_X11_isMode) B.pre w (List.mem_cons_of_mem _ h)
  have hown : s.vm.findClass RX11 = some m.cls := findClass_of_methodNamed B.named
  have hlocks := B.notSynchronized
  have hD := hD0.self (sz := s.heap.size)
  generalize hAe : va_A [] s.heap.size = A at hD hB ⊢
  have hA : ∀ q : Nat, s.heap.size ≤ q → A q := fun q h => by rw [← hAe]; exact Or.inr h
  have hS : va_S A s.heap s.heap [] := va_S.rf
  have hl := lv_entry ([.int p0]) (n := 1) (Nat.le_of_ble_eq_true rfl)
  rw [lg_entry_eq]
  generalize (lg_sl ([.int p0]) ++ List.replicate (1 - (lg_sl ([.int p0])).length) Slot.unset).toArray = ls at hl ⊢
  have hl : lv_has ls 1 [(0, .int p0)] := hl
  unfold F_X11_isMode at hF
  refine lv_iload_n hx hb dX11_isMode_0 rfl (lv_at hl 0 rfl) ?_
  refine lv_bipush (v := 100) hx hb dX11_isMode_1 (by decide) ?_
  refine lv_icmp_eq (tgt := 30) hx hb dX11_isMode_3 (by decide) (fun zc1 => ?_) (fun zc1 => ?_)
  · have hF := z_pos hF zc1
    refine lv_iconst (v := 1) hx hb dX11_isMode_30 (by decide) ?_
    refine lv_goto (tgt := 35) hx hb dX11_isMode_31 (by decide) ?_
    have ho := (Option.some.inj hF).symm
    exact W.zret (v := 1) hx hb hr rfl (fun t ht hW => ⟨⟨1, (), rfl, ho, z_end ht hP⟩, hS.F ht⟩) hS.2.2 dX11_isMode_35
  · have hF := z_neg hF zc1
    refine lv_iload_n hx hb dX11_isMode_6 rfl (lv_at hl 0 rfl) ?_
    refine lv_bipush (v := 117) hx hb dX11_isMode_7 (by decide) ?_
    refine lv_icmp_eq (tgt := 30) hx hb dX11_isMode_9 (by decide) (fun zc2 => ?_) (fun zc2 => ?_)
    · have hF := z_pos hF zc2
      refine lv_iconst (v := 1) hx hb dX11_isMode_30 (by decide) ?_
      refine lv_goto (tgt := 35) hx hb dX11_isMode_31 (by decide) ?_
      have ho := (Option.some.inj hF).symm
      exact W.zret (v := 1) hx hb hr rfl (fun t ht hW => ⟨⟨1, (), rfl, ho, z_end ht hP⟩, hS.F ht⟩) hS.2.2 dX11_isMode_35
    · have hF := z_neg hF zc2
      refine lv_iload_n hx hb dX11_isMode_12 rfl (lv_at hl 0 rfl) ?_
      refine lv_bipush (v := 104) hx hb dX11_isMode_13 (by decide) ?_
      refine lv_icmp_eq (tgt := 30) hx hb dX11_isMode_15 (by decide) (fun zc3 => ?_) (fun zc3 => ?_)
      · have hF := z_pos hF zc3
        refine lv_iconst (v := 1) hx hb dX11_isMode_30 (by decide) ?_
        refine lv_goto (tgt := 35) hx hb dX11_isMode_31 (by decide) ?_
        have ho := (Option.some.inj hF).symm
        exact W.zret (v := 1) hx hb hr rfl (fun t ht hW => ⟨⟨1, (), rfl, ho, z_end ht hP⟩, hS.F ht⟩) hS.2.2 dX11_isMode_35
      · have hF := z_neg hF zc3
        refine lv_iload_n hx hb dX11_isMode_18 rfl (lv_at hl 0 rfl) ?_
        refine lv_bipush (v := 108) hx hb dX11_isMode_19 (by decide) ?_
        refine lv_icmp_eq (tgt := 30) hx hb dX11_isMode_21 (by decide) (fun zc4 => ?_) (fun zc4 => ?_)
        · have hF := z_pos hF zc4
          refine lv_iconst (v := 1) hx hb dX11_isMode_30 (by decide) ?_
          refine lv_goto (tgt := 35) hx hb dX11_isMode_31 (by decide) ?_
          have ho := (Option.some.inj hF).symm
          exact W.zret (v := 1) hx hb hr rfl (fun t ht hW => ⟨⟨1, (), rfl, ho, z_end ht hP⟩, hS.F ht⟩) hS.2.2 dX11_isMode_35
        · have hF := z_neg hF zc4
          refine lv_iload_n hx hb dX11_isMode_24 rfl (lv_at hl 0 rfl) ?_
          refine lv_bipush (v := 101) hx hb dX11_isMode_25 (by decide) ?_
          refine lv_icmp_ne (tgt := 34) hx hb dX11_isMode_27 (by decide) (fun zc5 => ?_) (fun zc5 => ?_)
          · have hF := z_neg hF zc5
            refine lv_iconst (v := 0) hx hb dX11_isMode_34 (by decide) ?_
            have ho := (Option.some.inj hF).symm
            exact W.zret (v := 0) hx hb hr rfl (fun t ht hW => ⟨⟨0, (), rfl, ho, z_end ht hP⟩, hS.F ht⟩) hS.2.2 dX11_isMode_35
          · have hF := z_pos hF zc5
            refine lv_iconst (v := 1) hx hb dX11_isMode_30 (by decide) ?_
            refine lv_goto (tgt := 35) hx hb dX11_isMode_31 (by decide) ?_
            have ho := (Option.some.inj hF).symm
            exact W.zret (v := 1) hx hb hr rfl (fun t ht hW => ⟨⟨1, (), rfl, ho, z_end ht hP⟩, hS.F ht⟩) hS.2.2 dX11_isMode_35
abbrev w_X11_isScale : List Cond := .code yX11_isScale cX11_isScale 1 (some .boolean) :: wU
abbrev r_X11_isScale : Room := { frames := 1, cells := 0, slots := 0, locals := 25 }
abbrev q_X11_isScale (g : GG) (o : Int32) (A : Nat → Prop) := va_Qi (fun (r : Int32) (u : Unit) => o = r) (fun u t => va_P (gD g) zCl [] t.heap) A
set_option maxHeartbeats 4000000 in
set_option maxRecDepth 100000 in
theorem c_X11_isScale (l : Launch) (g : GG) (sz : Nat) (p0 : Int32) (o : Int32) (hF : F_X11_isScale p0 = some o) : Met l yX11_isScale w_X11_isScale r_X11_isScale (va_Pc [.int p0] (zP g [] sz)) (q_X11_isScale g o (va_A [] sz)) 0 0 (va_A [] sz) := by
  refine Met.ofW (cc := cX11_isScale) (maxL := 1) (ret := (some .boolean)) (by decide) rfl ?_
  intro p e s m args below meth c s₁ B hml hv
  obtain ⟨rfl, rfl, hP, hK, hD0, hB⟩ := hv
  have hx := B.exec
  have hb := B.bytes
  have hr := B.returns
  have hts : ∀ w ∈ wU, w.before _ s = true := fun w h => atoms_spec (ws := w_X11_isScale) B.pre w (List.mem_cons_of_mem _ h)
  have hown : s.vm.findClass RX11 = some m.cls := findClass_of_methodNamed B.named
  have hlocks := B.notSynchronized
  have hD := hD0.self (sz := s.heap.size)
  generalize hAe : va_A [] s.heap.size = A at hD hB ⊢
  have hA : ∀ q : Nat, s.heap.size ≤ q → A q := fun q h => by rw [← hAe]; exact Or.inr h
  have hS : va_S A s.heap s.heap [] := va_S.rf
  have hl := lv_entry ([.int p0]) (n := 1) (Nat.le_of_ble_eq_true rfl)
  rw [lg_entry_eq]
  generalize (lg_sl ([.int p0]) ++ List.replicate (1 - (lg_sl ([.int p0])).length) Slot.unset).toArray = ls at hl ⊢
  have hl : lv_has ls 1 [(0, .int p0)] := hl
  unfold F_X11_isScale at hF
  refine lv_iload_n hx hb dX11_isScale_0 rfl (lv_at hl 0 rfl) ?_
  refine lv_i2l (v := (Int32.toInt64 p0)) hx hb dX11_isScale_1 rfl ?_
  refine lv_lconst (v := 0) hx hb dX11_isScale_2 (by decide) ?_
  refine lv_ldc2 (v := 4) hx hb hown (hts _ mU_1348) dX11_isScale_3 ?_
  obtain ⟨zo1, hzo1, hF⟩ := z_bind hF
  refine z_calliE (fun (_ : Unit) => []) (va_runS (As := [.long (Int32.toInt64 p0), .long 0, .long 4]) (rest := []) ⟨hx, hb, hml, hown, hts⟩ (c_X11_in l g _ (Int32.toInt64 p0) 0 4 _ hzo1) (va_cwS 3 hts (gdS mU_1341 mU_1342 mU_75 mU_1343) rfl rfl rfl (by decide +kernel) ⟨Nat.le_of_ble_eq_true rfl, Nat.le_of_ble_eq_true rfl⟩) ⟨z_blind _ _ _ _, fun U hU hW => z_preE hP hD hK hB hS hA hU hW⟩ rfl rfl hl.1 rfl (lv_room (Nat.le_of_ble_eq_true rfl)) dX11_isScale_6 ⟨Nat.le_of_ble_eq_true rfl, Nat.le_of_ble_eq_true rfl⟩) hD hS hA (fun _ => rfl) (fun r u H locs hw hP hD hS => ?_)
  subst hw
  have hP : va_P (gD g) zCl [] H := hP
  have hD : va_D A [] := hD
  obtain ⟨zg2, hF⟩ := z_grd hF
  have ho := (Option.some.inj hF).symm
  exact W.zret (v := zo1) hx hb hr (z_narb (Classical.not_not.mp zg2)).1 (fun t ht hW => ⟨⟨zo1, (), rfl, ho, z_end ht hP⟩, hS.F ht⟩) hS.2.2 dX11_isScale_9
abbrev w_X11_isAmount : List Cond := .code yX11_isAmount cX11_isAmount 2 (some .boolean) :: wU
abbrev r_X11_isAmount : Room := { frames := 1, cells := 0, slots := 0, locals := 25 }
abbrev q_X11_isAmount (g : GG) (o : Int32) (A : Nat → Prop) := va_Qi (fun (r : Int32) (u : Unit) => o = r) (fun u t => va_P (gD g) zCl [] t.heap) A
set_option maxHeartbeats 4000000 in
set_option maxRecDepth 100000 in
theorem c_X11_isAmount (l : Launch) (g : GG) (sz : Nat) (p0 : Int32) (p1 : Int32) (o : Int32) (hF : F_X11_isAmount p0 p1 = some o) : Met l yX11_isAmount w_X11_isAmount r_X11_isAmount (va_Pc [.int p0, .int p1] (zP g [] sz)) (q_X11_isAmount g o (va_A [] sz)) 0 0 (va_A [] sz) := by
  refine Met.ofW (cc := cX11_isAmount) (maxL := 2) (ret := (some .boolean)) (by decide) rfl ?_
  intro p e s m args below meth c s₁ B hml hv
  obtain ⟨rfl, rfl, hP, hK, hD0, hB⟩ := hv
  have hx := B.exec
  have hb := B.bytes
  have hr := B.returns
  have hts : ∀ w ∈ wU, w.before _ s = true := fun w h => atoms_spec (ws := w_X11_isAmount) B.pre w (List.mem_cons_of_mem _ h)
  have hown : s.vm.findClass RX11 = some m.cls := findClass_of_methodNamed B.named
  have hlocks := B.notSynchronized
  have hD := hD0.self (sz := s.heap.size)
  generalize hAe : va_A [] s.heap.size = A at hD hB ⊢
  have hA : ∀ q : Nat, s.heap.size ≤ q → A q := fun q h => by rw [← hAe]; exact Or.inr h
  have hS : va_S A s.heap s.heap [] := va_S.rf
  have hl := lv_entry ([.int p0, .int p1]) (n := 2) (Nat.le_of_ble_eq_true rfl)
  rw [lg_entry_eq]
  generalize (lg_sl ([.int p0, .int p1]) ++ List.replicate (2 - (lg_sl ([.int p0, .int p1])).length) Slot.unset).toArray = ls at hl ⊢
  have hl : lv_has ls 2 [(0, .int p0), (1, .int p1)] := hl
  unfold F_X11_isAmount at hF
  refine lv_iload_n hx hb dX11_isAmount_0 rfl (lv_at hl 0 rfl) ?_
  refine lv_i2l (v := (Int32.toInt64 p0)) hx hb dX11_isAmount_1 rfl ?_
  refine lv_lconst (v := 0) hx hb dX11_isAmount_2 (by decide) ?_
  refine lv_ldc2 (v := 999999) hx hb hown (hts _ mU_1340) dX11_isAmount_3 ?_
  obtain ⟨zo1, hzo1, hF⟩ := z_bind hF
  refine z_calliE (fun (_ : Unit) => []) (va_runS (As := [.long (Int32.toInt64 p0), .long 0, .long 999999]) (rest := []) ⟨hx, hb, hml, hown, hts⟩ (c_X11_in l g _ (Int32.toInt64 p0) 0 999999 _ hzo1) (va_cwS 3 hts (gdS mU_1341 mU_1342 mU_75 mU_1343) rfl rfl rfl (by decide +kernel) ⟨Nat.le_of_ble_eq_true rfl, Nat.le_of_ble_eq_true rfl⟩) ⟨z_blind _ _ _ _, fun U hU hW => z_preE hP hD hK hB hS hA hU hW⟩ rfl rfl hl.1 rfl (lv_room (Nat.le_of_ble_eq_true rfl)) dX11_isAmount_6 ⟨Nat.le_of_ble_eq_true rfl, Nat.le_of_ble_eq_true rfl⟩) hD hS hA (fun _ => rfl) (fun r u H locs hw hP hD hS => ?_)
  subst hw
  have hP : va_P (gD g) zCl [] H := hP
  have hD : va_D A [] := hD
  refine lv_if_eq (tgt := 28) hx hb dX11_isAmount_9 (by decide) (fun zc2 => ?_) (fun zc2 => ?_)
  · have hF := z_pos hF zc2
    refine lv_iconst (v := 0) hx hb dX11_isAmount_28 (by decide) ?_
    have ho := (Option.some.inj hF).symm
    exact W.zret (v := 0) hx hb hr rfl (fun t ht hW => ⟨⟨0, (), rfl, ho, z_end ht hP⟩, hS.F ht⟩) hS.2.2 dX11_isAmount_29
  · have hF := z_neg hF zc2
    refine lv_iload_n hx hb dX11_isAmount_12 rfl (lv_at hl 1 rfl) ?_
    refine lv_i2l (v := (Int32.toInt64 p1)) hx hb dX11_isAmount_13 rfl ?_
    refine lv_lconst (v := 0) hx hb dX11_isAmount_14 (by decide) ?_
    refine lv_ldc2 (v := 9999) hx hb hown (hts _ mU_1344) dX11_isAmount_15 ?_
    obtain ⟨zo3, hzo3, hF⟩ := z_bind hF
    refine z_calliE (fun (_ : Unit) => []) (va_runS (As := [.long (Int32.toInt64 p1), .long 0, .long 9999]) (rest := []) ⟨hx, hb, hml, hown, hts⟩ (c_X11_in l g _ (Int32.toInt64 p1) 0 9999 _ hzo3) (va_cwS 3 hts (gdS mU_1341 mU_1342 mU_75 mU_1343) rfl rfl rfl (by decide +kernel) ⟨Nat.le_of_ble_eq_true rfl, Nat.le_of_ble_eq_true rfl⟩) ⟨z_blind _ _ _ _, fun U hU hW => z_preE hP hD hK hB hS hA hU hW⟩ rfl rfl hl.1 rfl (lv_room (Nat.le_of_ble_eq_true rfl)) dX11_isAmount_18 ⟨Nat.le_of_ble_eq_true rfl, Nat.le_of_ble_eq_true rfl⟩) hD hS hA (fun _ => rfl) (fun r u H locs hw hP hD hS => ?_)
    subst hw
    have hP : va_P (gD g) zCl [] H := hP
    have hD : va_D A [] := hD
    refine lv_if_eq (tgt := 28) hx hb dX11_isAmount_21 (by decide) (fun zc4 => ?_) (fun zc4 => ?_)
    · have hF := z_pos hF zc4
      refine lv_iconst (v := 0) hx hb dX11_isAmount_28 (by decide) ?_
      have ho := (Option.some.inj hF).symm
      exact W.zret (v := 0) hx hb hr rfl (fun t ht hW => ⟨⟨0, (), rfl, ho, z_end ht hP⟩, hS.F ht⟩) hS.2.2 dX11_isAmount_29
    · have hF := z_neg hF zc4
      refine lv_iconst (v := 1) hx hb dX11_isAmount_24 (by decide) ?_
      refine lv_goto (tgt := 29) hx hb dX11_isAmount_25 (by decide) ?_
      have ho := (Option.some.inj hF).symm
      exact W.zret (v := 1) hx hb hr rfl (fun t ht hW => ⟨⟨1, (), rfl, ho, z_end ht hP⟩, hS.F ht⟩) hS.2.2 dX11_isAmount_29
abbrev w_X11_units : List Cond := .code yX11_units cX11_units 2 (some .long) :: wU
abbrev r_X11_units : Room := { frames := 0, cells := 0, slots := 0, locals := 0 }
abbrev q_X11_units (g : GG) (o : Int64) (A : Nat → Prop) := va_Ql (fun (r : Int64) (u : Unit) => o = r) (fun u t => va_P (gD g) zCl [] t.heap) A
set_option maxHeartbeats 4000000 in
set_option maxRecDepth 100000 in
theorem c_X11_units (l : Launch) (g : GG) (sz : Nat) (p0 : Int32) (p1 : Int32) (o : Int64) (hF : F_X11_units p0 p1 = some o) : Met l yX11_units w_X11_units r_X11_units (va_Pc [.int p0, .int p1] (zP g [] sz)) (q_X11_units g o (va_A [] sz)) 0 0 (va_A [] sz) := by
  refine Met.ofW (cc := cX11_units) (maxL := 2) (ret := (some .long)) (by decide) rfl ?_
  intro p e s m args below meth c s₁ B hml hv
  obtain ⟨rfl, rfl, hP, hK, hD0, hB⟩ := hv
  have hx := B.exec
  have hb := B.bytes
  have hr := B.returns
  have hts : ∀ w ∈ wU, w.before _ s = true := fun w h => atoms_spec (ws := w_X11_units) B.pre w (List.mem_cons_of_mem _ h)
  have hown : s.vm.findClass RX11 = some m.cls := findClass_of_methodNamed B.named
  have hlocks := B.notSynchronized
  have hD := hD0.self (sz := s.heap.size)
  generalize hAe : va_A [] s.heap.size = A at hD hB ⊢
  have hA : ∀ q : Nat, s.heap.size ≤ q → A q := fun q h => by rw [← hAe]; exact Or.inr h
  have hS : va_S A s.heap s.heap [] := va_S.rf
  have hl := lv_entry ([.int p0, .int p1]) (n := 2) (Nat.le_of_ble_eq_true rfl)
  rw [lg_entry_eq]
  generalize (lg_sl ([.int p0, .int p1]) ++ List.replicate (2 - (lg_sl ([.int p0, .int p1])).length) Slot.unset).toArray = ls at hl ⊢
  have hl : lv_has ls 2 [(0, .int p0), (1, .int p1)] := hl
  unfold F_X11_units at hF
  refine lv_ldc2 (v := 10000) hx hb hown (hts _ mU_1363) dX11_units_0 ?_
  refine lv_iload_n hx hb dX11_units_3 rfl (lv_at hl 0 rfl) ?_
  refine lv_i2l (v := (Int32.toInt64 p0)) hx hb dX11_units_4 rfl ?_
  refine lv_lmul hx hb dX11_units_5 ?_
  refine lv_iload_n hx hb dX11_units_6 rfl (lv_at hl 1 rfl) ?_
  refine lv_i2l (v := (Int32.toInt64 p1)) hx hb dX11_units_7 rfl ?_
  refine lv_ladd hx hb dX11_units_8 ?_
  have ho := (Option.some.inj hF).symm
  exact W.lret (v := ((10000 * (Int32.toInt64 p0)) + (Int32.toInt64 p1))) hx hb hr (fun t ht hW => ⟨⟨((10000 * (Int32.toInt64 p0)) + (Int32.toInt64 p1)), (), rfl, ho, z_end ht hP⟩, hS.F ht⟩) hS.2.2 dX11_units_9
abbrev w_X11_step : List Cond := .code yX11_step cX11_step 4 (some .long) :: wU
abbrev r_X11_step : Room := { frames := 0, cells := 0, slots := 0, locals := 0 }
abbrev q_X11_step (g : GG) (o : Int64) (A : Nat → Prop) := va_Ql (fun (r : Int64) (u : Unit) => o = r) (fun u t => va_P (gD g) zCl [] t.heap) A
set_option maxHeartbeats 4000000 in
set_option maxRecDepth 100000 in
theorem c_X11_step (l : Launch) (g : GG) (sz : Nat) (p0 : Int32) (fu : Nat) (o : Int64) (hF : F_X11_step fu p0 = some o) : Met l yX11_step w_X11_step r_X11_step (va_Pc [.int p0] (zP g [] sz)) (q_X11_step g o (va_A [] sz)) 0 0 (va_A [] sz) := by
  refine Met.ofW (cc := cX11_step) (maxL := 4) (ret := (some .long)) (by decide) rfl ?_
  intro p e s m args below meth c s₁ B hml hv
  obtain ⟨rfl, rfl, hP, hK, hD0, hB⟩ := hv
  have hx := B.exec
  have hb := B.bytes
  have hr := B.returns
  have hts : ∀ w ∈ wU, w.before _ s = true := fun w h => atoms_spec (ws := w_X11_step) B.pre w (List.mem_cons_of_mem _ h)
  have hown : s.vm.findClass RX11 = some m.cls := findClass_of_methodNamed B.named
  have hlocks := B.notSynchronized
  have hD := hD0.self (sz := s.heap.size)
  generalize hAe : va_A [] s.heap.size = A at hD hB ⊢
  have hA : ∀ q : Nat, s.heap.size ≤ q → A q := fun q h => by rw [← hAe]; exact Or.inr h
  have hS : va_S A s.heap s.heap [] := va_S.rf
  have hl := lv_entry ([.int p0]) (n := 4) (Nat.le_of_ble_eq_true rfl)
  rw [lg_entry_eq]
  generalize (lg_sl ([.int p0]) ++ List.replicate (4 - (lg_sl ([.int p0])).length) Slot.unset).toArray = ls at hl ⊢
  have hl : lv_has ls 4 [(0, .int p0)] := hl
  unfold F_X11_step at hF
  have K6 : ∀ (n6 : Nat) (x1 : Int64) (x3 : Int32), F_X11_step_6 fu n6 p0 x1 x3 = some o → ∀ (H : Heap) (locs : List Loc) (ls : Array Slot), lv_has ls 4 [(0, .int p0), (1, .long x1), (3, .int x3)] → va_P (gD g) zCl [] H → va_D A [] → va_S A s.heap H locs → W p l e (headSpec w_X11_step r_X11_step).room s m ([.int p0] : List Value).toArray below meth c H locs 0 0 (MQ below (q_X11_step g o A) ([.int p0] : List Value).toArray s 0 0 A) (F0 m 6 ls []) := by
    intro n6
    induction n6 with
    | zero =>
      intro x1 x3 hF
      exact absurd hF (by simp [F_X11_step_6])
    | succ n6 ih6 =>
      intro x1 x3 hF H locs ls hl hP hD hS
      unfold F_X11_step_6 at hF
      refine lv_iload_n hx hb dX11_step_6 rfl (lv_at hl 2 rfl) ?_
      refine lv_iload_n hx hb dX11_step_7 rfl (lv_at hl 0 rfl) ?_
      refine lv_icmp_ge (tgt := 23) hx hb dX11_step_8 (by decide) (fun zc1 => ?_) (fun zc1 => ?_)
      · have hF := z_pos hF zc1
        refine lv_lload_n hx hb dX11_step_23 rfl (lv_at hl 1 rfl) ?_
        have ho := (Option.some.inj hF).symm
        exact W.lret (v := x1) hx hb hr (fun t ht hW => ⟨⟨x1, (), rfl, ho, z_end ht hP⟩, hS.F ht⟩) hS.2.2 dX11_step_24
      · have hF := z_neg hF zc1
        refine lv_lload_n hx hb dX11_step_11 rfl (lv_at hl 1 rfl) ?_
        refine lv_ldc2 (v := 10) hx hb hown (hts _ mU_1367) dX11_step_12 ?_
        refine lv_ldiv hx hb dX11_step_15 (by decide) ?_
        obtain ⟨zv2, ezv2, hF⟩ := z_let hF
        refine z_topl ezv2 ?_
        refine lv_lstore_n (lv' := [(1, .long zv2), (0, .int p0), (3, .int x3)]) hx hb dX11_step_16 rfl hl (by decide) rfl (fun ls hl => ?_)
        obtain ⟨zv3, ezv3, hF⟩ := z_let hF
        refine lv_iinc (v := zv3) (lv' := [(3, .int zv3), (1, .long zv2), (0, .int p0)]) hx hb dX11_step_17 hl (k := 2) rfl (by rw [ezv3]; rfl) (by decide) rfl (fun ls hl => ?_)
        refine lv_goto (tgt := 6) hx hb dX11_step_20 (by decide) ?_
        exact ih6 zv2 zv3 hF _ _ _ (lv_sub hl [2, 1, 0] rfl) hP hD hS
  refine lv_ldc2 (v := 10000) hx hb hown (hts _ mU_1363) dX11_step_0 ?_
  refine lv_lstore_n (lv' := [(1, .long 10000), (0, .int p0)]) hx hb dX11_step_3 rfl hl (by decide) rfl (fun ls hl => ?_)
  refine lv_iconst (v := 0) hx hb dX11_step_4 (by decide) ?_
  refine lv_istore_n (lv' := [(3, .int 0), (1, .long 10000), (0, .int p0)]) hx hb dX11_step_5 rfl hl (by decide) rfl (fun ls hl => ?_)
  exact K6 fu 10000 0 hF _ _ _ (lv_sub hl [2, 1, 0] rfl) hP hD hS
abbrev w_X11_times : List Cond := .code yX11_times cX11_times 10 (some .long) :: wU
abbrev r_X11_times : Room := { frames := 0, cells := 0, slots := 0, locals := 0 }
abbrev q_X11_times (g : GG) (o : Int64) (A : Nat → Prop) := va_Ql (fun (r : Int64) (u : Unit) => o = r) (fun u t => va_P (gD g) zCl [] t.heap) A
set_option maxHeartbeats 4000000 in
set_option maxRecDepth 100000 in
theorem c_X11_times (l : Launch) (g : GG) (sz : Nat) (p0 : Int64) (p2 : Int64) (p4 : Int32) (o : Int64) (hF : F_X11_times p0 p2 p4 = some o) : Met l yX11_times w_X11_times r_X11_times (va_Pc [.long p0, .long p2, .int p4] (zP g [] sz)) (q_X11_times g o (va_A [] sz)) 0 0 (va_A [] sz) := by
  refine Met.ofW (cc := cX11_times) (maxL := 10) (ret := (some .long)) (by decide) rfl ?_
  intro p e s m args below meth c s₁ B hml hv
  obtain ⟨rfl, rfl, hP, hK, hD0, hB⟩ := hv
  have hx := B.exec
  have hb := B.bytes
  have hr := B.returns
  have hts : ∀ w ∈ wU, w.before _ s = true := fun w h => atoms_spec (ws := w_X11_times) B.pre w (List.mem_cons_of_mem _ h)
  have hown : s.vm.findClass RX11 = some m.cls := findClass_of_methodNamed B.named
  have hlocks := B.notSynchronized
  have hD := hD0.self (sz := s.heap.size)
  generalize hAe : va_A [] s.heap.size = A at hD hB ⊢
  have hA : ∀ q : Nat, s.heap.size ≤ q → A q := fun q h => by rw [← hAe]; exact Or.inr h
  have hS : va_S A s.heap s.heap [] := va_S.rf
  have hl := lv_entry ([.long p0, .long p2, .int p4]) (n := 10) (Nat.le_of_ble_eq_true rfl)
  rw [lg_entry_eq]
  generalize (lg_sl ([.long p0, .long p2, .int p4]) ++ List.replicate (10 - (lg_sl ([.long p0, .long p2, .int p4])).length) Slot.unset).toArray = ls at hl ⊢
  have hl : lv_has ls 10 [(0, .long p0), (2, .long p2), (4, .int p4)] := hl
  unfold F_X11_times at hF
  have K110 : ∀ (_ : Unit) (x5 : Int64) (x7 : Int64) (y0 : Int32), F_X11_times_110 x5 x7 y0 = some o → ∀ (H : Heap) (locs : List Loc) (ls : Array Slot), lv_has ls 10 [(5, .long x5), (7, .long x7)] → va_P (gD g) zCl [] H → va_D A [] → va_S A s.heap H locs → W p l e (headSpec w_X11_times r_X11_times).room s m ([.long p0, .long p2, .int p4] : List Value).toArray below meth c H locs 0 0 (MQ below (q_X11_times g o A) ([.long p0, .long p2, .int p4] : List Value).toArray s 0 0 A) (F0 m 110 ls [.int y0]) := by
    intro _ x5 x7 y0 hF H locs ls hl hP hD hS
    unfold F_X11_times_110 at hF
    refine lv_istore (lv' := [(9, .int y0), (5, .long x5), (7, .long x7)]) hx hb dX11_times_110 hl (by decide) rfl (fun ls hl => ?_)
    refine lv_lload hx hb dX11_times_112 (lv_at hl 2 rfl) ?_
    refine lv_lconst (v := 0) hx hb dX11_times_114 (by decide) ?_
    refine z_lcmp_le (tgt := 131) hx hb dX11_times_115 dX11_times_116 (by decide) (fun zc1 => ?_) (fun zc1 => ?_)
    · have hF := z_neg hF zc1
      refine lv_lload hx hb dX11_times_131 (lv_at hl 1 rfl) ?_
      have ho := (Option.some.inj hF).symm
      exact W.lret (v := x5) hx hb hr (fun t ht hW => ⟨⟨x5, (), rfl, ho, z_end ht hP⟩, hS.F ht⟩) hS.2.2 dX11_times_133
    · have hF := z_pos hF zc1
      refine lv_iload hx hb dX11_times_119 (lv_at hl 0 rfl) ?_
      refine lv_if_eq (tgt := 131) hx hb dX11_times_121 (by decide) (fun zc2 => ?_) (fun zc2 => ?_)
      · have hF := z_pos hF zc2
        refine lv_lload hx hb dX11_times_131 (lv_at hl 1 rfl) ?_
        have ho := (Option.some.inj hF).symm
        exact W.lret (v := x5) hx hb hr (fun t ht hW => ⟨⟨x5, (), rfl, ho, z_end ht hP⟩, hS.F ht⟩) hS.2.2 dX11_times_133
      · have hF := z_neg hF zc2
        refine lv_lload hx hb dX11_times_124 (lv_at hl 1 rfl) ?_
        refine lv_lconst (v := 1) hx hb dX11_times_126 (by decide) ?_
        refine lv_ladd hx hb dX11_times_127 ?_
        refine lv_goto (tgt := 133) hx hb dX11_times_128 (by decide) ?_
        have ho := (Option.some.inj hF).symm
        exact W.lret (v := (x5 + 1)) hx hb hr (fun t ht hW => ⟨⟨(x5 + 1), (), rfl, ho, z_end ht hP⟩, hS.F ht⟩) hS.2.2 dX11_times_133
  have K58 : ∀ (_ : Unit) (x5 : Int64) (x7 : Int64) (y0 : Int32), F_X11_times_58 p2 p4 x5 x7 y0 = some o → ∀ (H : Heap) (locs : List Loc) (ls : Array Slot), lv_has ls 10 [(2, .long p2), (4, .int p4), (5, .long x5), (7, .long x7)] → va_P (gD g) zCl [] H → va_D A [] → va_S A s.heap H locs → W p l e (headSpec w_X11_times r_X11_times).room s m ([.long p0, .long p2, .int p4] : List Value).toArray below meth c H locs 0 0 (MQ below (q_X11_times g o A) ([.long p0, .long p2, .int p4] : List Value).toArray s 0 0 A) (F0 m 58 ls [.int y0]) := by
    intro _ x5 x7 y0 hF H locs ls hl hP hD hS
    unfold F_X11_times_58 at hF
    refine lv_istore (lv' := [(9, .int y0), (2, .long p2), (4, .int p4), (5, .long x5), (7, .long x7)]) hx hb dX11_times_58 hl (by decide) rfl (fun ls hl => ?_)
    refine lv_iload hx hb dX11_times_60 (lv_at hl 0 rfl) ?_
    refine lv_if_ne (tgt := 105) hx hb dX11_times_62 (by decide) (fun zc3 => ?_) (fun zc3 => ?_)
    · have hF := z_neg hF zc3
      refine lv_iconst (v := 1) hx hb dX11_times_105 (by decide) ?_
      refine lv_goto (tgt := 110) hx hb dX11_times_106 (by decide) ?_
      exact K110 () x5 x7 1 hF _ _ _ (lv_sub hl [3, 4] rfl) hP hD hS
    · have hF := z_pos hF zc3
      refine lv_iload hx hb dX11_times_65 (lv_at hl 2 rfl) ?_
      refine lv_bipush (v := 101) hx hb dX11_times_67 (by decide) ?_
      refine lv_icmp_ne (tgt := 109) hx hb dX11_times_69 (by decide) (fun zc4 => ?_) (fun zc4 => ?_)
      · have hF := z_neg hF zc4
        refine lv_iconst (v := 0) hx hb dX11_times_109 (by decide) ?_
        exact K110 () x5 x7 0 hF _ _ _ (lv_sub hl [3, 4] rfl) hP hD hS
      · have hF := z_pos hF zc4
        refine lv_ldc2 (v := 2) hx hb hown (hts _ mU_1391) dX11_times_72 ?_
        refine lv_lload hx hb dX11_times_75 (lv_at hl 4 rfl) ?_
        refine lv_lmul hx hb dX11_times_77 ?_
        refine lv_lload_n hx hb dX11_times_78 rfl (lv_at hl 1 rfl) ?_
        refine z_lcmp_gt (tgt := 105) hx hb dX11_times_79 dX11_times_80 (by decide) (fun zc5 => ?_) (fun zc5 => ?_)
        · have hF := z_pos hF zc5
          refine lv_iconst (v := 1) hx hb dX11_times_105 (by decide) ?_
          refine lv_goto (tgt := 110) hx hb dX11_times_106 (by decide) ?_
          exact K110 () x5 x7 1 hF _ _ _ (lv_sub hl [3, 4] rfl) hP hD hS
        · have hF := z_neg hF zc5
          refine lv_ldc2 (v := 2) hx hb hown (hts _ mU_1391) dX11_times_83 ?_
          refine lv_lload hx hb dX11_times_86 (lv_at hl 4 rfl) ?_
          refine lv_lmul hx hb dX11_times_88 ?_
          refine lv_lload_n hx hb dX11_times_89 rfl (lv_at hl 1 rfl) ?_
          refine z_lcmp_ne (tgt := 109) hx hb dX11_times_90 dX11_times_91 (by decide) (fun zc6 => ?_) (fun zc6 => ?_)
          · have hF := z_neg hF zc6
            refine lv_iconst (v := 0) hx hb dX11_times_109 (by decide) ?_
            exact K110 () x5 x7 0 hF _ _ _ (lv_sub hl [3, 4] rfl) hP hD hS
          · have hF := z_pos hF zc6
            refine lv_lload hx hb dX11_times_94 (lv_at hl 3 rfl) ?_
            refine lv_ldc2 (v := 2) hx hb hown (hts _ mU_1391) dX11_times_96 ?_
            refine lv_lrem hx hb dX11_times_99 (by decide) ?_
            refine lv_lconst (v := 1) hx hb dX11_times_100 (by decide) ?_
            refine z_lcmp_ne (tgt := 109) hx hb dX11_times_101 dX11_times_102 (by decide) (fun zc7 => ?_) (fun zc7 => ?_)
            · have hF := z_neg hF zc7
              refine lv_iconst (v := 0) hx hb dX11_times_109 (by decide) ?_
              exact K110 () x5 x7 0 hF _ _ _ (lv_sub hl [3, 4] rfl) hP hD hS
            · have hF := z_pos hF zc7
              refine lv_iconst (v := 1) hx hb dX11_times_105 (by decide) ?_
              refine lv_goto (tgt := 110) hx hb dX11_times_106 (by decide) ?_
              exact K110 () x5 x7 1 hF _ _ _ (lv_sub hl [3, 4] rfl) hP hD hS
  have K35 : ∀ (_ : Unit) (x5 : Int64) (x7 : Int64), F_X11_times_35 p2 p4 x5 x7 = some o → ∀ (H : Heap) (locs : List Loc) (ls : Array Slot), lv_has ls 10 [(2, .long p2), (4, .int p4), (5, .long x5), (7, .long x7)] → va_P (gD g) zCl [] H → va_D A [] → va_S A s.heap H locs → W p l e (headSpec w_X11_times r_X11_times).room s m ([.long p0, .long p2, .int p4] : List Value).toArray below meth c H locs 0 0 (MQ below (q_X11_times g o A) ([.long p0, .long p2, .int p4] : List Value).toArray s 0 0 A) (F0 m 35 ls []) := by
    intro _ x5 x7 hF H locs ls hl hP hD hS
    unfold F_X11_times_35 at hF
    refine lv_iload hx hb dX11_times_35 (lv_at hl 1 rfl) ?_
    refine lv_bipush (v := 108) hx hb dX11_times_37 (by decide) ?_
    refine lv_icmp_ne (tgt := 57) hx hb dX11_times_39 (by decide) (fun zc8 => ?_) (fun zc8 => ?_)
    · have hF := z_neg hF zc8
      refine lv_iconst (v := 0) hx hb dX11_times_57 (by decide) ?_
      exact K58 () x5 x7 0 hF _ _ _ (lv_sub hl [0, 1, 2, 3] rfl) hP hD hS
    · have hF := z_pos hF zc8
      refine lv_ldc2 (v := 2) hx hb hown (hts _ mU_1391) dX11_times_42 ?_
      refine lv_lload hx hb dX11_times_45 (lv_at hl 3 rfl) ?_
      refine lv_lmul hx hb dX11_times_47 ?_
      refine lv_lload_n hx hb dX11_times_48 rfl (lv_at hl 0 rfl) ?_
      refine z_lcmp_le (tgt := 57) hx hb dX11_times_49 dX11_times_50 (by decide) (fun zc9 => ?_) (fun zc9 => ?_)
      · have hF := z_neg hF zc9
        refine lv_iconst (v := 0) hx hb dX11_times_57 (by decide) ?_
        exact K58 () x5 x7 0 hF _ _ _ (lv_sub hl [0, 1, 2, 3] rfl) hP hD hS
      · have hF := z_pos hF zc9
        refine lv_iconst (v := 1) hx hb dX11_times_53 (by decide) ?_
        refine lv_goto (tgt := 58) hx hb dX11_times_54 (by decide) ?_
        exact K58 () x5 x7 1 hF _ _ _ (lv_sub hl [0, 1, 2, 3] rfl) hP hD hS
  refine lv_lload_n hx hb dX11_times_0 rfl (lv_at hl 0 rfl) ?_
  refine lv_lload_n hx hb dX11_times_1 rfl (lv_at hl 1 rfl) ?_
  obtain ⟨zg10, hF⟩ := z_grd hF
  refine lv_ldiv hx hb dX11_times_2 zg10 ?_
  obtain ⟨zv11, ezv11, hF⟩ := z_let hF
  refine z_topl ezv11 ?_
  refine lv_lstore (lv' := [(5, .long zv11), (0, .long p0), (2, .long p2), (4, .int p4)]) hx hb dX11_times_3 hl (by decide) rfl (fun ls hl => ?_)
  refine lv_lload_n hx hb dX11_times_5 rfl (lv_at hl 1 rfl) ?_
  refine lv_lload_n hx hb dX11_times_6 rfl (lv_at hl 2 rfl) ?_
  obtain ⟨zg12, hF⟩ := z_grd hF
  refine lv_lrem hx hb dX11_times_7 zg12 ?_
  obtain ⟨zv13, ezv13, hF⟩ := z_let hF
  refine z_topl ezv13 ?_
  refine lv_lstore (lv' := [(7, .long zv13), (5, .long zv11), (0, .long p0), (2, .long p2), (4, .int p4)]) hx hb dX11_times_8 hl (by decide) rfl (fun ls hl => ?_)
  refine lv_iload hx hb dX11_times_10 (lv_at hl 4 rfl) ?_
  refine lv_bipush (v := 117) hx hb dX11_times_12 (by decide) ?_
  refine lv_icmp_eq (tgt := 53) hx hb dX11_times_14 (by decide) (fun zc14 => ?_) (fun zc14 => ?_)
  · have hF := z_pos hF zc14
    refine lv_iconst (v := 1) hx hb dX11_times_53 (by decide) ?_
    refine lv_goto (tgt := 58) hx hb dX11_times_54 (by decide) ?_
    exact K58 () zv11 zv13 1 hF _ _ _ (lv_sub hl [3, 4, 1, 0] rfl) hP hD hS
  · have hF := z_neg hF zc14
    refine lv_iload hx hb dX11_times_17 (lv_at hl 4 rfl) ?_
    refine lv_bipush (v := 104) hx hb dX11_times_19 (by decide) ?_
    refine lv_icmp_ne (tgt := 35) hx hb dX11_times_21 (by decide) (fun zc15 => ?_) (fun zc15 => ?_)
    · have hF := z_neg hF zc15
      exact K35 () zv11 zv13 hF _ _ _ (lv_sub hl [3, 4, 1, 0] rfl) hP hD hS
    · have hF := z_pos hF zc15
      refine lv_ldc2 (v := 2) hx hb hown (hts _ mU_1391) dX11_times_24 ?_
      refine lv_lload hx hb dX11_times_27 (lv_at hl 0 rfl) ?_
      refine lv_lmul hx hb dX11_times_29 ?_
      refine lv_lload_n hx hb dX11_times_30 rfl (lv_at hl 3 rfl) ?_
      refine z_lcmp_ge (tgt := 53) hx hb dX11_times_31 dX11_times_32 (by decide) (fun zc16 => ?_) (fun zc16 => ?_)
      · have hF := z_neg hF zc16
        refine lv_iconst (v := 1) hx hb dX11_times_53 (by decide) ?_
        refine lv_goto (tgt := 58) hx hb dX11_times_54 (by decide) ?_
        exact K58 () zv11 zv13 1 hF _ _ _ (lv_sub hl [3, 4, 1, 0] rfl) hP hD hS
      · have hF := z_pos hF zc16
        exact K35 () zv11 zv13 hF _ _ _ (lv_sub hl [3, 4, 1, 0] rfl) hP hD hS
abbrev w_X11_round : List Cond := .code yX11_round cX11_round 4 (some .long) :: wU
abbrev r_X11_round : Room := { frames := 1, cells := 0, slots := 0, locals := 29 }
abbrev q_X11_round (g : GG) (o : Int64) (A : Nat → Prop) := va_Ql (fun (r : Int64) (u : Unit) => o = r) (fun u t => va_P (gD g) zCl [] t.heap) A
set_option maxHeartbeats 4000000 in
set_option maxRecDepth 100000 in
theorem c_X11_round (l : Launch) (g : GG) (sz : Nat) (p0 : Int64) (p2 : Int32) (p3 : Int32) (fu : Nat) (o : Int64) (hF : F_X11_round fu p0 p2 p3 = some o) : Met l yX11_round w_X11_round r_X11_round (va_Pc [.long p0, .int p2, .int p3] (zP g [] sz)) (q_X11_round g o (va_A [] sz)) 0 0 (va_A [] sz) := by
  refine Met.ofW (cc := cX11_round) (maxL := 4) (ret := (some .long)) (by decide) rfl ?_
  intro p e s m args below meth c s₁ B hml hv
  obtain ⟨rfl, rfl, hP, hK, hD0, hB⟩ := hv
  have hx := B.exec
  have hb := B.bytes
  have hr := B.returns
  have hts : ∀ w ∈ wU, w.before _ s = true := fun w h => atoms_spec (ws := w_X11_round) B.pre w (List.mem_cons_of_mem _ h)
  have hown : s.vm.findClass RX11 = some m.cls := findClass_of_methodNamed B.named
  have hlocks := B.notSynchronized
  have hD := hD0.self (sz := s.heap.size)
  generalize hAe : va_A [] s.heap.size = A at hD hB ⊢
  have hA : ∀ q : Nat, s.heap.size ≤ q → A q := fun q h => by rw [← hAe]; exact Or.inr h
  have hS : va_S A s.heap s.heap [] := va_S.rf
  have hl := lv_entry ([.long p0, .int p2, .int p3]) (n := 4) (Nat.le_of_ble_eq_true rfl)
  rw [lg_entry_eq]
  generalize (lg_sl ([.long p0, .int p2, .int p3]) ++ List.replicate (4 - (lg_sl ([.long p0, .int p2, .int p3])).length) Slot.unset).toArray = ls at hl ⊢
  have hl : lv_has ls 4 [(0, .long p0), (2, .int p2), (3, .int p3)] := hl
  unfold F_X11_round at hF
  refine lv_iload_n hx hb dX11_round_0 rfl (lv_at hl 1 rfl) ?_
  obtain ⟨zo1, hzo1, hF⟩ := z_bind hF
  refine z_calllE (fun (_ : Unit) => []) (va_runS (As := [.int p2]) (rest := []) ⟨hx, hb, hml, hown, hts⟩ (c_X11_step l g _ p2 fu _ hzo1) (va_cwS 1 hts (gdS mU_1364 mU_1365 mU_75 mU_1366) rfl rfl rfl (by decide +kernel) ⟨Nat.le_of_ble_eq_true rfl, Nat.le_of_ble_eq_true rfl⟩) ⟨z_blind _ _ _ _, fun U hU hW => z_preE hP hD hK hB hS hA hU hW⟩ rfl rfl hl.1 rfl (lv_room (Nat.le_of_ble_eq_true rfl)) dX11_round_1 ⟨Nat.le_of_ble_eq_true rfl, Nat.le_of_ble_eq_true rfl⟩) hD hS hA (fun _ => rfl) (fun r u H locs hw hP hD hS => ?_)
  subst hw
  have hP : va_P (gD g) zCl [] H := hP
  have hD : va_D A [] := hD
  refine lv_lload_n hx hb dX11_round_4 rfl (lv_at hl 0 rfl) ?_
  refine lv_iload_n hx hb dX11_round_5 rfl (lv_at hl 1 rfl) ?_
  obtain ⟨zo2, hzo2, hF⟩ := z_bind hF
  refine z_calllE (fun (_ : Unit) => []) (va_runS (As := [.int p2]) (rest := [.long p0, .long zo1]) ⟨hx, hb, hml, hown, hts⟩ (c_X11_step l g _ p2 fu _ hzo2) (va_cwS 1 hts (gdS mU_1364 mU_1365 mU_75 mU_1366) rfl rfl rfl (by decide +kernel) ⟨Nat.le_of_ble_eq_true rfl, Nat.le_of_ble_eq_true rfl⟩) ⟨z_blind _ _ _ _, fun U hU hW => z_preE hP hD hK hB hS hA hU hW⟩ rfl rfl hl.1 rfl (lv_room (Nat.le_of_ble_eq_true rfl)) dX11_round_6 ⟨Nat.le_of_ble_eq_true rfl, Nat.le_of_ble_eq_true rfl⟩) hD hS hA (fun _ => rfl) (fun r u H locs hw hP hD hS => ?_)
  subst hw
  have hP : va_P (gD g) zCl [] H := hP
  have hD : va_D A [] := hD
  refine lv_iload_n hx hb dX11_round_9 rfl (lv_at hl 2 rfl) ?_
  obtain ⟨zo3, hzo3, hF⟩ := z_bind hF
  refine z_calllE (fun (_ : Unit) => []) (va_runS (As := [.long p0, .long zo2, .int p3]) (rest := [.long zo1]) ⟨hx, hb, hml, hown, hts⟩ (c_X11_times l g _ p0 zo2 p3 _ hzo3) (va_cwS 3 hts (gdS mU_1388 mU_1389 mU_75 mU_1390) rfl rfl rfl (by decide +kernel) ⟨Nat.le_of_ble_eq_true rfl, Nat.le_of_ble_eq_true rfl⟩) ⟨z_blind _ _ _ _, fun U hU hW => z_preE hP hD hK hB hS hA hU hW⟩ rfl rfl hl.1 rfl (lv_room (Nat.le_of_ble_eq_true rfl)) dX11_round_10 ⟨Nat.le_of_ble_eq_true rfl, Nat.le_of_ble_eq_true rfl⟩) hD hS hA (fun _ => rfl) (fun r u H locs hw hP hD hS => ?_)
  subst hw
  have hP : va_P (gD g) zCl [] H := hP
  have hD : va_D A [] := hD
  refine lv_lmul hx hb dX11_round_13 ?_
  have ho := (Option.some.inj hF).symm
  exact W.lret (v := (zo1 * zo3)) hx hb hr (fun t ht hW => ⟨⟨(zo1 * zo3), (), rfl, ho, z_end ht hP⟩, hS.F ht⟩) hS.2.2 dX11_round_14
abbrev w_X11_becomes : List Cond := .code yX11_becomes cX11_becomes 6 none :: wU
abbrev r_X11_becomes : Room := { frames := 2, cells := 0, slots := 0, locals := 52 }
abbrev q_X11_becomes (g : GG) (q0 q1 q2 q3 q4 q5 q6 q7 q8 q9 q10 q11 q12 : Nat) (mm : Nat → Int64) (masd : Nat → Int64) (msav : Nat → Int64) (misS : Int32) (mpst : Nat → Int64) (mchg : Int32) (merr : Int32) (mfai : Int32) (mthr : Int32) (minp : Nat → Int32) (minM : Int32) (mUp : Nat → Int32) (mcar : Nat → Int32) (mcam : Nat → Int32) (mahd : Int32) (magn : Int32) (mltr : Nat → Int32) (mbeg : Nat → Int32) (mcmd : Nat → Int32) (mcmM : Int32) (mpl : Int32) (msz : Int32) (mwr : Int32) (mlin : Nat → Int32) (mliM : Int32) (o : (Nat → Int64)) (A : Nat → Prop) := va_Qv (fun (u : (Nat → Int64)) => o = u) (fun u t => va_P (gD g) zCl (wModel g q0 q1 q2 q3 q4 q5 q6 q7 q8 q9 q10 q11 q12 u masd msav misS mpst mchg merr mfai mthr minp minM mUp mcar mcam mahd magn mltr mbeg mcmd mcmM mpl msz mwr mlin mliM) t.heap) A
set_option maxHeartbeats 4000000 in
set_option maxRecDepth 100000 in
theorem c_X11_becomes (l : Launch) (g : GG) (q0 q1 q2 q3 q4 q5 q6 q7 q8 q9 q10 q11 q12 : Nat) (mm : Nat → Int64) (masd : Nat → Int64) (msav : Nat → Int64) (misS : Int32) (mpst : Nat → Int64) (mchg : Int32) (merr : Int32) (mfai : Int32) (mthr : Int32) (minp : Nat → Int32) (minM : Int32) (mUp : Nat → Int32) (mcar : Nat → Int32) (mcam : Nat → Int32) (mahd : Int32) (magn : Int32) (mltr : Nat → Int32) (mbeg : Nat → Int32) (mcmd : Nat → Int32) (mcmM : Int32) (mpl : Int32) (msz : Int32) (mwr : Int32) (mlin : Nat → Int32) (mliM : Int32) (sz : Nat) (p1 : Int32) (p2 : Int64) (fu : Nat) (o : (Nat → Int64)) (hF : F_X11_becomes fu mm p1 p2 = some o) : Met l yX11_becomes w_X11_becomes r_X11_becomes (va_Pc [.ref q0, .int p1, .long p2] (zP g (wModel g q0 q1 q2 q3 q4 q5 q6 q7 q8 q9 q10 q11 q12 mm masd msav misS mpst mchg merr mfai mthr minp minM mUp mcar mcam mahd magn mltr mbeg mcmd mcmM mpl msz mwr mlin mliM) sz)) (q_X11_becomes g q0 q1 q2 q3 q4 q5 q6 q7 q8 q9 q10 q11 q12 mm masd msav misS mpst mchg merr mfai mthr minp minM mUp mcar mcam mahd magn mltr mbeg mcmd mcmM mpl msz mwr mlin mliM o (va_A (wModel g q0 q1 q2 q3 q4 q5 q6 q7 q8 q9 q10 q11 q12 mm masd msav misS mpst mchg merr mfai mthr minp minM mUp mcar mcam mahd magn mltr mbeg mcmd mcmM mpl msz mwr mlin mliM) sz)) 0 0 (va_A (wModel g q0 q1 q2 q3 q4 q5 q6 q7 q8 q9 q10 q11 q12 mm masd msav misS mpst mchg merr mfai mthr minp minM mUp mcar mcam mahd magn mltr mbeg mcmd mcmM mpl msz mwr mlin mliM) sz) := by
  refine Met.ofW (cc := cX11_becomes) (maxL := 6) (ret := none) (by decide) rfl ?_
  intro p e s m args below meth c s₁ B hml hv
  obtain ⟨rfl, rfl, hP, hK, hD0, hB⟩ := hv
  have hx := B.exec
  have hb := B.bytes
  have hr := B.returns
  have hts : ∀ w ∈ wU, w.before _ s = true := fun w h => atoms_spec (ws := w_X11_becomes) B.pre w (List.mem_cons_of_mem _ h)
  have hown : s.vm.findClass RX11 = some m.cls := findClass_of_methodNamed B.named
  have hlocks := B.notSynchronized
  have hD := hD0.self (sz := s.heap.size)
  generalize hAe : va_A (wModel g q0 q1 q2 q3 q4 q5 q6 q7 q8 q9 q10 q11 q12 mm masd msav misS mpst mchg merr mfai mthr minp minM mUp mcar mcam mahd magn mltr mbeg mcmd mcmM mpl msz mwr mlin mliM) s.heap.size = A at hD hB ⊢
  have hA : ∀ q : Nat, s.heap.size ≤ q → A q := fun q h => by rw [← hAe]; exact Or.inr h
  have hS : va_S A s.heap s.heap [] := va_S.rf
  have hl := lv_entry ([.ref q0, .int p1, .long p2]) (n := 6) (Nat.le_of_ble_eq_true rfl)
  rw [lg_entry_eq]
  generalize (lg_sl ([.ref q0, .int p1, .long p2]) ++ List.replicate (6 - (lg_sl ([.ref q0, .int p1, .long p2])).length) Slot.unset).toArray = ls at hl ⊢
  have hl : lv_has ls 6 [(0, .ref q0), (1, .int p1), (2, .long p2)] := hl
  unfold F_X11_becomes at hF
  have K64 : ∀ (_ : Unit) (mm : Nat → Int64) (x4 : Int64) (y1 : Int32) (y2 : Int64) (y3 : Int64), F_X11_becomes_64 fu mm p1 x4 y1 y2 y3 = some o → ∀ (H : Heap) (locs : List Loc) (ls : Array Slot), lv_has ls 6 [(0, .ref q0), (1, .int p1), (4, .long x4)] → va_P (gD g) zCl (wModel g q0 q1 q2 q3 q4 q5 q6 q7 q8 q9 q10 q11 q12 mm masd msav misS mpst mchg merr mfai mthr minp minM mUp mcar mcam mahd magn mltr mbeg mcmd mcmM mpl msz mwr mlin mliM) H → va_D A (wModel g q0 q1 q2 q3 q4 q5 q6 q7 q8 q9 q10 q11 q12 mm masd msav misS mpst mchg merr mfai mthr minp minM mUp mcar mcam mahd magn mltr mbeg mcmd mcmM mpl msz mwr mlin mliM) → va_S A s.heap H locs → W p l e (headSpec w_X11_becomes r_X11_becomes).room s m ([.ref q0, .int p1, .long p2] : List Value).toArray below meth c H locs 0 0 (MQ below (q_X11_becomes g q0 q1 q2 q3 q4 q5 q6 q7 q8 q9 q10 q11 q12 mm masd msav misS mpst mchg merr mfai mthr minp minM mUp mcar mcam mahd magn mltr mbeg mcmd mcmM mpl msz mwr mlin mliM o A) ([.ref q0, .int p1, .long p2] : List Value).toArray s 0 0 A) (F0 m 64 ls [.long y3, .long y2, .int y1, .ref q1]) := by
    intro _ mm x4 y1 y2 y3 hF H locs ls hl hP hD hS
    unfold F_X11_becomes_64 at hF
    refine lv_ladd hx hb dX11_becomes_64 ?_
    obtain ⟨zg1, hF⟩ := z_grd hF
    refine va_last hx hb hK hP hD hS 1 2 rfl rfl zg1 dX11_becomes_65 (fun H locs hP hD hS => ?_)
    have hP : va_P (gD g) zCl (wModel g q0 q1 q2 q3 q4 q5 q6 q7 q8 q9 q10 q11 q12 (vp_updL mm (Int32.toNatClampNeg y1) (y2 + y3)) masd msav misS mpst mchg merr mfai mthr minp minM mUp mcar mcam mahd magn mltr mbeg mcmd mcmM mpl msz mwr mlin mliM) H := hP
    have hD : va_D A (wModel g q0 q1 q2 q3 q4 q5 q6 q7 q8 q9 q10 q11 q12 (vp_updL mm (Int32.toNatClampNeg y1) (y2 + y3)) masd msav misS mpst mchg merr mfai mthr minp minM mUp mcar mcam mahd magn mltr mbeg mcmd mcmM mpl msz mwr mlin mliM) := hD
    refine lv_aload_n hx hb dX11_becomes_66 rfl (lv_at hl 0 rfl) ?_
    refine va_get (D := gD g) (ci := 7) (v := .ref q1) (C := RX11) (T := TX11) (N := 25) hx hb hts inX11 hown hK hP 0 rfl rfl 0 (by decide) (hts _ mU_1244) (fun _ h9 => h9) rfl dX11_becomes_67 ?_
    refine lv_iload_n hx hb dX11_becomes_70 rfl (lv_at hl 1 rfl) ?_
    obtain ⟨zo2, hzo2, hF⟩ := z_bind hF
    refine z_calli (fun (_ : Unit) => []) [] (va_runS (As := [.int p1]) (rest := [.ref q1]) ⟨hx, hb, hml, hown, hts⟩ (c_X11_at l g _ p1 _ hzo2) (va_cwS 1 hts (gdS mU_1372 mU_1373 mU_75 mU_1374) rfl rfl rfl (by decide +kernel) ⟨Nat.le_of_ble_eq_true rfl, Nat.le_of_ble_eq_true rfl⟩) ⟨z_blind _ _ _ _, fun U hU hW => z_pre [] hP hD hK hB hS hA rfl rfl hU hW⟩ rfl rfl hl.1 rfl (lv_room (Nat.le_of_ble_eq_true rfl)) dX11_becomes_71 ⟨Nat.le_of_ble_eq_true rfl, Nat.le_of_ble_eq_true rfl⟩) hP hD hS hA rfl (fun _ => rfl) (fun r u H locs hw hP hD hS => ?_)
    subst hw
    have hP : va_P (gD g) zCl (wModel g q0 q1 q2 q3 q4 q5 q6 q7 q8 q9 q10 q11 q12 (vp_updL mm (Int32.toNatClampNeg y1) (y2 + y3)) masd msav misS mpst mchg merr mfai mthr minp minM mUp mcar mcam mahd magn mltr mbeg mcmd mcmM mpl msz mwr mlin mliM) H := hP
    have hD : va_D A (wModel g q0 q1 q2 q3 q4 q5 q6 q7 q8 q9 q10 q11 q12 (vp_updL mm (Int32.toNatClampNeg y1) (y2 + y3)) masd msav misS mpst mchg merr mfai mthr minp minM mUp mcar mcam mahd magn mltr mbeg mcmd mcmM mpl msz mwr mlin mliM) := hD
    refine lv_iconst (v := 1) hx hb dX11_becomes_74 (by decide) ?_
    refine lv_iadd hx hb dX11_becomes_75 ?_
    refine lv_lload hx hb dX11_becomes_76 (lv_at hl 2 rfl) ?_
    refine lv_ldc2 (v := 10000000000) hx hb hown (hts _ mU_1419) dX11_becomes_78 ?_
    refine z_lcmp_lt (tgt := 94) hx hb dX11_becomes_81 dX11_becomes_82 (by decide) (fun zc3 => ?_) (fun zc3 => ?_)
    · have hF := z_pos hF zc3
      refine lv_lload hx hb dX11_becomes_94 (lv_at hl 2 rfl) ?_
      obtain ⟨zg4, hF⟩ := z_grd hF
      refine va_last hx hb hK hP hD hS 1 2 rfl rfl zg4 dX11_becomes_96 (fun H locs hP hD hS => ?_)
      have hP : va_P (gD g) zCl (wModel g q0 q1 q2 q3 q4 q5 q6 q7 q8 q9 q10 q11 q12 (vp_updL (vp_updL mm (Int32.toNatClampNeg y1) (y2 + y3)) (Int32.toNatClampNeg (zo2 + 1)) x4) masd msav misS mpst mchg merr mfai mthr minp minM mUp mcar mcam mahd magn mltr mbeg mcmd mcmM mpl msz mwr mlin mliM) H := hP
      have hD : va_D A (wModel g q0 q1 q2 q3 q4 q5 q6 q7 q8 q9 q10 q11 q12 (vp_updL (vp_updL mm (Int32.toNatClampNeg y1) (y2 + y3)) (Int32.toNatClampNeg (zo2 + 1)) x4) masd msav misS mpst mchg merr mfai mthr minp minM mUp mcar mcam mahd magn mltr mbeg mcmd mcmM mpl msz mwr mlin mliM) := hD
      have ho := (Option.some.inj hF).symm
      exact W.vret hx hb hr (fun t ht hW => ⟨⟨(vp_updL (vp_updL mm (Int32.toNatClampNeg y1) (y2 + y3)) (Int32.toNatClampNeg (zo2 + 1)) x4), rfl, ho, z_end ht hP⟩, hS.F ht⟩) hS.2.2 dX11_becomes_97
    · have hF := z_neg hF zc3
      refine lv_lload hx hb dX11_becomes_85 (lv_at hl 2 rfl) ?_
      refine lv_ldc2 (v := 10000000000) hx hb hown (hts _ mU_1419) dX11_becomes_87 ?_
      refine lv_lsub hx hb dX11_becomes_90 ?_
      refine lv_goto (tgt := 96) hx hb dX11_becomes_91 (by decide) ?_
      obtain ⟨zg5, hF⟩ := z_grd hF
      refine va_last hx hb hK hP hD hS 1 2 rfl rfl zg5 dX11_becomes_96 (fun H locs hP hD hS => ?_)
      have hP : va_P (gD g) zCl (wModel g q0 q1 q2 q3 q4 q5 q6 q7 q8 q9 q10 q11 q12 (vp_updL (vp_updL mm (Int32.toNatClampNeg y1) (y2 + y3)) (Int32.toNatClampNeg (zo2 + 1)) (x4 - 10000000000)) masd msav misS mpst mchg merr mfai mthr minp minM mUp mcar mcam mahd magn mltr mbeg mcmd mcmM mpl msz mwr mlin mliM) H := hP
      have hD : va_D A (wModel g q0 q1 q2 q3 q4 q5 q6 q7 q8 q9 q10 q11 q12 (vp_updL (vp_updL mm (Int32.toNatClampNeg y1) (y2 + y3)) (Int32.toNatClampNeg (zo2 + 1)) (x4 - 10000000000)) masd msav misS mpst mchg merr mfai mthr minp minM mUp mcar mcam mahd magn mltr mbeg mcmd mcmM mpl msz mwr mlin mliM) := hD
      have ho := (Option.some.inj hF).symm
      exact W.vret hx hb hr (fun t ht hW => ⟨⟨(vp_updL (vp_updL mm (Int32.toNatClampNeg y1) (y2 + y3)) (Int32.toNatClampNeg (zo2 + 1)) (x4 - 10000000000)), rfl, ho, z_end ht hP⟩, hS.F ht⟩) hS.2.2 dX11_becomes_97
  refine lv_lload_n hx hb dX11_becomes_0 rfl (lv_at hl 2 rfl) ?_
  refine lv_aload_n hx hb dX11_becomes_1 rfl (lv_at hl 0 rfl) ?_
  refine va_get (D := gD g) (ci := 7) (v := .ref q1) (C := RX11) (T := TX11) (N := 25) hx hb hts inX11 hown hK hP 0 rfl rfl 0 (by decide) (hts _ mU_1244) (fun _ h9 => h9) rfl dX11_becomes_2 ?_
  refine lv_iload_n hx hb dX11_becomes_5 rfl (lv_at hl 1 rfl) ?_
  obtain ⟨zo6, hzo6, hF⟩ := z_bind hF
  refine z_calli (fun (_ : Unit) => []) [] (va_runS (As := [.int p1]) (rest := [.ref q1, .long p2]) ⟨hx, hb, hml, hown, hts⟩ (c_X11_at l g _ p1 _ hzo6) (va_cwS 1 hts (gdS mU_1372 mU_1373 mU_75 mU_1374) rfl rfl rfl (by decide +kernel) ⟨Nat.le_of_ble_eq_true rfl, Nat.le_of_ble_eq_true rfl⟩) ⟨z_blind _ _ _ _, fun U hU hW => z_pre [] hP hD hK hB hS hA rfl rfl hU hW⟩ rfl rfl hl.1 rfl (lv_room (Nat.le_of_ble_eq_true rfl)) dX11_becomes_6 ⟨Nat.le_of_ble_eq_true rfl, Nat.le_of_ble_eq_true rfl⟩) hP hD hS hA rfl (fun _ => rfl) (fun r u H locs hw hP hD hS => ?_)
  subst hw
  have hP : va_P (gD g) zCl (wModel g q0 q1 q2 q3 q4 q5 q6 q7 q8 q9 q10 q11 q12 mm masd msav misS mpst mchg merr mfai mthr minp minM mUp mcar mcam mahd magn mltr mbeg mcmd mcmM mpl msz mwr mlin mliM) H := hP
  have hD : va_D A (wModel g q0 q1 q2 q3 q4 q5 q6 q7 q8 q9 q10 q11 q12 mm masd msav misS mpst mchg merr mfai mthr minp minM mUp mcar mcam mahd magn mltr mbeg mcmd mcmM mpl msz mwr mlin mliM) := hD
  refine lv_iconst (v := 2) hx hb dX11_becomes_9 (by decide) ?_
  refine lv_iadd hx hb dX11_becomes_10 ?_
  obtain ⟨zg7, hF⟩ := z_grd hF
  refine va_lald hx hb hK hP 1 2 rfl rfl zg7 dX11_becomes_11 ?_
  refine lv_l2i (v := (Int64.toInt32 (mm (Int32.toNatClampNeg (zo6 + 2))))) hx hb dX11_becomes_12 rfl ?_
  refine lv_aload_n hx hb dX11_becomes_13 rfl (lv_at hl 0 rfl) ?_
  refine va_get (D := gD g) (ci := 7) (v := .ref q1) (C := RX11) (T := TX11) (N := 25) hx hb hts inX11 hown hK hP 0 rfl rfl 0 (by decide) (hts _ mU_1244) (fun _ h9 => h9) rfl dX11_becomes_14 ?_
  refine lv_iload_n hx hb dX11_becomes_17 rfl (lv_at hl 1 rfl) ?_
  obtain ⟨zo8, hzo8, hF⟩ := z_bind hF
  refine z_calli (fun (_ : Unit) => []) [] (va_runS (As := [.int p1]) (rest := [.ref q1, .int (Int64.toInt32 (mm (Int32.toNatClampNeg (zo6 + 2)))), .long p2]) ⟨hx, hb, hml, hown, hts⟩ (c_X11_at l g _ p1 _ hzo8) (va_cwS 1 hts (gdS mU_1372 mU_1373 mU_75 mU_1374) rfl rfl rfl (by decide +kernel) ⟨Nat.le_of_ble_eq_true rfl, Nat.le_of_ble_eq_true rfl⟩) ⟨z_blind _ _ _ _, fun U hU hW => z_pre [] hP hD hK hB hS hA rfl rfl hU hW⟩ rfl rfl hl.1 rfl (lv_room (Nat.le_of_ble_eq_true rfl)) dX11_becomes_18 ⟨Nat.le_of_ble_eq_true rfl, Nat.le_of_ble_eq_true rfl⟩) hP hD hS hA rfl (fun _ => rfl) (fun r u H locs hw hP hD hS => ?_)
  subst hw
  have hP : va_P (gD g) zCl (wModel g q0 q1 q2 q3 q4 q5 q6 q7 q8 q9 q10 q11 q12 mm masd msav misS mpst mchg merr mfai mthr minp minM mUp mcar mcam mahd magn mltr mbeg mcmd mcmM mpl msz mwr mlin mliM) H := hP
  have hD : va_D A (wModel g q0 q1 q2 q3 q4 q5 q6 q7 q8 q9 q10 q11 q12 mm masd msav misS mpst mchg merr mfai mthr minp minM mUp mcar mcam mahd magn mltr mbeg mcmd mcmM mpl msz mwr mlin mliM) := hD
  refine lv_iconst (v := 3) hx hb dX11_becomes_21 (by decide) ?_
  refine lv_iadd hx hb dX11_becomes_22 ?_
  obtain ⟨zg9, hF⟩ := z_grd hF
  refine va_lald hx hb hK hP 1 2 rfl rfl zg9 dX11_becomes_23 ?_
  refine lv_l2i (v := (Int64.toInt32 (mm (Int32.toNatClampNeg (zo8 + 3))))) hx hb dX11_becomes_24 rfl ?_
  obtain ⟨zo10, hzo10, hF⟩ := z_bind hF
  refine z_calll (fun (_ : Unit) => []) [] (va_runS (As := [.long p2, .int (Int64.toInt32 (mm (Int32.toNatClampNeg (zo6 + 2)))), .int (Int64.toInt32 (mm (Int32.toNatClampNeg (zo8 + 3))))]) (rest := []) ⟨hx, hb, hml, hown, hts⟩ (c_X11_round l g _ p2 (Int64.toInt32 (mm (Int32.toNatClampNeg (zo6 + 2)))) (Int64.toInt32 (mm (Int32.toNatClampNeg (zo8 + 3)))) fu _ hzo10) (va_cwS 3 hts (gdS mU_1416 mU_1417 mU_75 mU_1418) rfl rfl rfl (by decide +kernel) ⟨Nat.le_of_ble_eq_true rfl, Nat.le_of_ble_eq_true rfl⟩) ⟨z_blind _ _ _ _, fun U hU hW => z_pre [] hP hD hK hB hS hA rfl rfl hU hW⟩ rfl rfl hl.1 rfl (lv_room (Nat.le_of_ble_eq_true rfl)) dX11_becomes_25 ⟨Nat.le_of_ble_eq_true rfl, Nat.le_of_ble_eq_true rfl⟩) hP hD hS hA rfl (fun _ => rfl) (fun r u H locs hw hP hD hS => ?_)
  subst hw
  have hP : va_P (gD g) zCl (wModel g q0 q1 q2 q3 q4 q5 q6 q7 q8 q9 q10 q11 q12 mm masd msav misS mpst mchg merr mfai mthr minp minM mUp mcar mcam mahd magn mltr mbeg mcmd mcmM mpl msz mwr mlin mliM) H := hP
  have hD : va_D A (wModel g q0 q1 q2 q3 q4 q5 q6 q7 q8 q9 q10 q11 q12 mm masd msav misS mpst mchg merr mfai mthr minp minM mUp mcar mcam mahd magn mltr mbeg mcmd mcmM mpl msz mwr mlin mliM) := hD
  refine lv_lstore (lv' := [(4, .long zo10), (0, .ref q0), (1, .int p1), (2, .long p2)]) hx hb dX11_becomes_28 hl (by decide) rfl (fun ls hl => ?_)
  refine lv_aload_n hx hb dX11_becomes_30 rfl (lv_at hl 1 rfl) ?_
  refine va_get (D := gD g) (ci := 7) (v := .ref q1) (C := RX11) (T := TX11) (N := 25) hx hb hts inX11 hown hK hP 0 rfl rfl 0 (by decide) (hts _ mU_1244) (fun _ h9 => h9) rfl dX11_becomes_31 ?_
  refine lv_iconst (v := 3) hx hb dX11_becomes_34 (by decide) ?_
  refine lv_dup2_11 hx hb dX11_becomes_35 rfl rfl ?_
  refine va_lald hx hb hK hP 1 2 rfl rfl (by unfold vp_in; decide) dX11_becomes_36 ?_
  refine lv_lload hx hb dX11_becomes_37 (lv_at hl 0 rfl) ?_
  refine lv_lload_n hx hb dX11_becomes_39 rfl (lv_at hl 3 rfl) ?_
  refine lv_lsub hx hb dX11_becomes_40 ?_
  refine lv_ladd hx hb dX11_becomes_41 ?_
  refine va_last hx hb hK hP hD hS 1 2 rfl rfl (by unfold vp_in; decide) dX11_becomes_42 (fun H locs hP hD hS => ?_)
  have hP : va_P (gD g) zCl (wModel g q0 q1 q2 q3 q4 q5 q6 q7 q8 q9 q10 q11 q12 (vp_updL mm (Int32.toNatClampNeg 3) ((mm (Int32.toNatClampNeg 3)) + (zo10 - p2))) masd msav misS mpst mchg merr mfai mthr minp minM mUp mcar mcam mahd magn mltr mbeg mcmd mcmM mpl msz mwr mlin mliM) H := hP
  have hD : va_D A (wModel g q0 q1 q2 q3 q4 q5 q6 q7 q8 q9 q10 q11 q12 (vp_updL mm (Int32.toNatClampNeg 3) ((mm (Int32.toNatClampNeg 3)) + (zo10 - p2))) masd msav misS mpst mchg merr mfai mthr minp minM mUp mcar mcam mahd magn mltr mbeg mcmd mcmM mpl msz mwr mlin mliM) := hD
  refine lv_aload_n hx hb dX11_becomes_43 rfl (lv_at hl 1 rfl) ?_
  refine va_get (D := gD g) (ci := 7) (v := .ref q1) (C := RX11) (T := TX11) (N := 25) hx hb hts inX11 hown hK hP 0 rfl rfl 0 (by decide) (hts _ mU_1244) (fun _ h9 => h9) rfl dX11_becomes_44 ?_
  refine lv_iconst (v := 2) hx hb dX11_becomes_47 (by decide) ?_
  refine lv_dup2_11 hx hb dX11_becomes_48 rfl rfl ?_
  refine va_lald hx hb hK hP 1 2 rfl rfl (by unfold vp_in; decide) dX11_becomes_49 ?_
  refine lv_lload hx hb dX11_becomes_50 (lv_at hl 0 rfl) ?_
  refine lv_ldc2 (v := 10000000000) hx hb hown (hts _ mU_1419) dX11_becomes_52 ?_
  refine z_lcmp_lt (tgt := 63) hx hb dX11_becomes_55 dX11_becomes_56 (by decide) (fun zc11 => ?_) (fun zc11 => ?_)
  · have hF := z_pos hF zc11
    refine lv_lconst (v := 0) hx hb dX11_becomes_63 (by decide) ?_
    exact K64 () (vp_updL mm (Int32.toNatClampNeg 3) ((mm (Int32.toNatClampNeg 3)) + (zo10 - p2))) zo10 2 ((vp_updL mm (Int32.toNatClampNeg 3) ((mm (Int32.toNatClampNeg 3)) + (zo10 - p2))) (Int32.toNatClampNeg 2)) 0 hF _ _ _ (lv_sub hl [1, 2, 0] rfl) hP hD hS
  · have hF := z_neg hF zc11
    refine lv_lconst (v := 1) hx hb dX11_becomes_59 (by decide) ?_
    refine lv_goto (tgt := 64) hx hb dX11_becomes_60 (by decide) ?_
    exact K64 () (vp_updL mm (Int32.toNatClampNeg 3) ((mm (Int32.toNatClampNeg 3)) + (zo10 - p2))) zo10 2 ((vp_updL mm (Int32.toNatClampNeg 3) ((mm (Int32.toNatClampNeg 3)) + (zo10 - p2))) (Int32.toNatClampNeg 2)) 1 hF _ _ _ (lv_sub hl [1, 2, 0] rfl) hP hD hS
abbrev w_X11_sum : List Cond := .code yX11_sum cX11_sum 4 (some .long) :: wU
abbrev r_X11_sum : Room := { frames := 1, cells := 0, slots := 0, locals := 20 }
abbrev q_X11_sum (g : GG) (q0 q1 q2 q3 q4 q5 q6 q7 q8 q9 q10 q11 q12 : Nat) (mm : Nat → Int64) (masd : Nat → Int64) (msav : Nat → Int64) (misS : Int32) (mpst : Nat → Int64) (mchg : Int32) (merr : Int32) (mfai : Int32) (mthr : Int32) (minp : Nat → Int32) (minM : Int32) (mUp : Nat → Int32) (mcar : Nat → Int32) (mcam : Nat → Int32) (mahd : Int32) (magn : Int32) (mltr : Nat → Int32) (mbeg : Nat → Int32) (mcmd : Nat → Int32) (mcmM : Int32) (mpl : Int32) (msz : Int32) (mwr : Int32) (mlin : Nat → Int32) (mliM : Int32) (o : Int64) (A : Nat → Prop) := va_Ql (fun (r : Int64) (u : Unit) => o = r) (fun u t => va_P (gD g) zCl (wModel g q0 q1 q2 q3 q4 q5 q6 q7 q8 q9 q10 q11 q12 mm masd msav misS mpst mchg merr mfai mthr minp minM mUp mcar mcam mahd magn mltr mbeg mcmd mcmM mpl msz mwr mlin mliM) t.heap) A
set_option maxHeartbeats 4000000 in
set_option maxRecDepth 100000 in
theorem c_X11_sum (l : Launch) (g : GG) (q0 q1 q2 q3 q4 q5 q6 q7 q8 q9 q10 q11 q12 : Nat) (mm : Nat → Int64) (masd : Nat → Int64) (msav : Nat → Int64) (misS : Int32) (mpst : Nat → Int64) (mchg : Int32) (merr : Int32) (mfai : Int32) (mthr : Int32) (minp : Nat → Int32) (minM : Int32) (mUp : Nat → Int32) (mcar : Nat → Int32) (mcam : Nat → Int32) (mahd : Int32) (magn : Int32) (mltr : Nat → Int32) (mbeg : Nat → Int32) (mcmd : Nat → Int32) (mcmM : Int32) (mpl : Int32) (msz : Int32) (mwr : Int32) (mlin : Nat → Int32) (mliM : Int32) (sz : Nat) (fu : Nat) (o : Int64) (hF : F_X11_sum fu mm = some o) : Met l yX11_sum w_X11_sum r_X11_sum (va_Pc [.ref q0] (zP g (wModel g q0 q1 q2 q3 q4 q5 q6 q7 q8 q9 q10 q11 q12 mm masd msav misS mpst mchg merr mfai mthr minp minM mUp mcar mcam mahd magn mltr mbeg mcmd mcmM mpl msz mwr mlin mliM) sz)) (q_X11_sum g q0 q1 q2 q3 q4 q5 q6 q7 q8 q9 q10 q11 q12 mm masd msav misS mpst mchg merr mfai mthr minp minM mUp mcar mcam mahd magn mltr mbeg mcmd mcmM mpl msz mwr mlin mliM o (va_A (wModel g q0 q1 q2 q3 q4 q5 q6 q7 q8 q9 q10 q11 q12 mm masd msav misS mpst mchg merr mfai mthr minp minM mUp mcar mcam mahd magn mltr mbeg mcmd mcmM mpl msz mwr mlin mliM) sz)) 0 0 (va_A (wModel g q0 q1 q2 q3 q4 q5 q6 q7 q8 q9 q10 q11 q12 mm masd msav misS mpst mchg merr mfai mthr minp minM mUp mcar mcam mahd magn mltr mbeg mcmd mcmM mpl msz mwr mlin mliM) sz) := by
  refine Met.ofW (cc := cX11_sum) (maxL := 4) (ret := (some .long)) (by decide) rfl ?_
  intro p e s m args below meth c s₁ B hml hv
  obtain ⟨rfl, rfl, hP, hK, hD0, hB⟩ := hv
  have hx := B.exec
  have hb := B.bytes
  have hr := B.returns
  have hts : ∀ w ∈ wU, w.before _ s = true := fun w h => atoms_spec (ws := w_X11_sum) B.pre w (List.mem_cons_of_mem _ h)
  have hown : s.vm.findClass RX11 = some m.cls := findClass_of_methodNamed B.named
  have hlocks := B.notSynchronized
  have hD := hD0.self (sz := s.heap.size)
  generalize hAe : va_A (wModel g q0 q1 q2 q3 q4 q5 q6 q7 q8 q9 q10 q11 q12 mm masd msav misS mpst mchg merr mfai mthr minp minM mUp mcar mcam mahd magn mltr mbeg mcmd mcmM mpl msz mwr mlin mliM) s.heap.size = A at hD hB ⊢
  have hA : ∀ q : Nat, s.heap.size ≤ q → A q := fun q h => by rw [← hAe]; exact Or.inr h
  have hS : va_S A s.heap s.heap [] := va_S.rf
  have hl := lv_entry ([.ref q0]) (n := 4) (Nat.le_of_ble_eq_true rfl)
  rw [lg_entry_eq]
  generalize (lg_sl ([.ref q0]) ++ List.replicate (4 - (lg_sl ([.ref q0])).length) Slot.unset).toArray = ls at hl ⊢
  have hl : lv_has ls 4 [(0, .ref q0)] := hl
  unfold F_X11_sum at hF
  have K4 : ∀ (n4 : Nat) (x1 : Int64) (x3 : Int32), F_X11_sum_4 fu n4 mm x1 x3 = some o → ∀ (H : Heap) (locs : List Loc) (ls : Array Slot), lv_has ls 4 [(0, .ref q0), (1, .long x1), (3, .int x3)] → va_P (gD g) zCl (wModel g q0 q1 q2 q3 q4 q5 q6 q7 q8 q9 q10 q11 q12 mm masd msav misS mpst mchg merr mfai mthr minp minM mUp mcar mcam mahd magn mltr mbeg mcmd mcmM mpl msz mwr mlin mliM) H → va_D A (wModel g q0 q1 q2 q3 q4 q5 q6 q7 q8 q9 q10 q11 q12 mm masd msav misS mpst mchg merr mfai mthr minp minM mUp mcar mcam mahd magn mltr mbeg mcmd mcmM mpl msz mwr mlin mliM) → va_S A s.heap H locs → W p l e (headSpec w_X11_sum r_X11_sum).room s m ([.ref q0] : List Value).toArray below meth c H locs 0 0 (MQ below (q_X11_sum g q0 q1 q2 q3 q4 q5 q6 q7 q8 q9 q10 q11 q12 mm masd msav misS mpst mchg merr mfai mthr minp minM mUp mcar mcam mahd magn mltr mbeg mcmd mcmM mpl msz mwr mlin mliM o A) ([.ref q0] : List Value).toArray s 0 0 A) (F0 m 4 ls []) := by
    intro n4
    induction n4 with
    | zero =>
      intro x1 x3 hF
      exact absurd hF (by simp [F_X11_sum_4])
    | succ n4 ih4 =>
      intro x1 x3 hF H locs ls hl hP hD hS
      unfold F_X11_sum_4 at hF
      refine lv_iload_n hx hb dX11_sum_4 rfl (lv_at hl 2 rfl) ?_
      refine lv_aload_n hx hb dX11_sum_5 rfl (lv_at hl 0 rfl) ?_
      obtain ⟨zo1, hzo1, hF⟩ := z_bind hF
      refine z_calliE (fun (_ : Unit) => (wModel g q0 q1 q2 q3 q4 q5 q6 q7 q8 q9 q10 q11 q12 mm masd msav misS mpst mchg merr mfai mthr minp minM mUp mcar mcam mahd magn mltr mbeg mcmd mcmM mpl msz mwr mlin mliM)) (va_runV (As := []) (rest := [.int x3]) ⟨hx, hb, hml, hown, hts⟩ (c_X11_many l g q0 q1 q2 q3 q4 q5 q6 q7 q8 q9 q10 q11 q12 mm masd msav misS mpst mchg merr mfai mthr minp minM mUp mcar mcam mahd magn mltr mbeg mcmd mcmM mpl msz mwr mlin mliM _ _ hzo1) (cwV 0 hts (gdV mU_1356 mU_1358 mU_32 mU_75 mU_1359) rfl rfl rfl (by decide +kernel) ⟨Nat.le_of_ble_eq_true rfl, Nat.le_of_ble_eq_true rfl⟩) ⟨z_blind _ _ _ _, va_recv hK hP (ci := 7) (q0 := 0) rfl rfl, fun U hU hW => z_preE hP hD hK hB hS hA hU hW⟩ rfl rfl hl.1 rfl (lv_room (Nat.le_of_ble_eq_true rfl)) dX11_sum_6 ⟨Nat.le_of_ble_eq_true rfl, Nat.le_of_ble_eq_true rfl⟩) hD hS hA (fun _ => rfl) (fun r u H locs hw hP hD hS => ?_)
      subst hw
      have hP : va_P (gD g) zCl (wModel g q0 q1 q2 q3 q4 q5 q6 q7 q8 q9 q10 q11 q12 mm masd msav misS mpst mchg merr mfai mthr minp minM mUp mcar mcam mahd magn mltr mbeg mcmd mcmM mpl msz mwr mlin mliM) H := hP
      have hD : va_D A (wModel g q0 q1 q2 q3 q4 q5 q6 q7 q8 q9 q10 q11 q12 mm masd msav misS mpst mchg merr mfai mthr minp minM mUp mcar mcam mahd magn mltr mbeg mcmd mcmM mpl msz mwr mlin mliM) := hD
      refine lv_icmp_ge (tgt := 32) hx hb dX11_sum_9 (by decide) (fun zc2 => ?_) (fun zc2 => ?_)
      · have hF := z_pos hF zc2
        refine lv_lload_n hx hb dX11_sum_32 rfl (lv_at hl 1 rfl) ?_
        have ho := (Option.some.inj hF).symm
        exact W.lret (v := x1) hx hb hr (fun t ht hW => ⟨⟨x1, (), rfl, ho, z_end ht hP⟩, hS.F ht⟩) hS.2.2 dX11_sum_33
      · have hF := z_neg hF zc2
        refine lv_lload_n hx hb dX11_sum_12 rfl (lv_at hl 1 rfl) ?_
        refine lv_aload_n hx hb dX11_sum_13 rfl (lv_at hl 0 rfl) ?_
        refine va_get (D := gD g) (ci := 7) (v := .ref q1) (C := RX11) (T := TX11) (N := 25) hx hb hts inX11 hown hK hP 0 rfl rfl 0 (by decide) (hts _ mU_1244) (fun _ h9 => h9) rfl dX11_sum_14 ?_
        refine lv_iload_n hx hb dX11_sum_17 rfl (lv_at hl 2 rfl) ?_
        obtain ⟨zo3, hzo3, hF⟩ := z_bind hF
        refine z_calli (fun (_ : Unit) => []) [] (va_runS (As := [.int x3]) (rest := [.ref q1, .long x1]) ⟨hx, hb, hml, hown, hts⟩ (c_X11_at l g _ x3 _ hzo3) (va_cwS 1 hts (gdS mU_1372 mU_1373 mU_75 mU_1374) rfl rfl rfl (by decide +kernel) ⟨Nat.le_of_ble_eq_true rfl, Nat.le_of_ble_eq_true rfl⟩) ⟨z_blind _ _ _ _, fun U hU hW => z_pre [] hP hD hK hB hS hA rfl rfl hU hW⟩ rfl rfl hl.1 rfl (lv_room (Nat.le_of_ble_eq_true rfl)) dX11_sum_18 ⟨Nat.le_of_ble_eq_true rfl, Nat.le_of_ble_eq_true rfl⟩) hP hD hS hA rfl (fun _ => rfl) (fun r u H locs hw hP hD hS => ?_)
        subst hw
        have hP : va_P (gD g) zCl (wModel g q0 q1 q2 q3 q4 q5 q6 q7 q8 q9 q10 q11 q12 mm masd msav misS mpst mchg merr mfai mthr minp minM mUp mcar mcam mahd magn mltr mbeg mcmd mcmM mpl msz mwr mlin mliM) H := hP
        have hD : va_D A (wModel g q0 q1 q2 q3 q4 q5 q6 q7 q8 q9 q10 q11 q12 mm masd msav misS mpst mchg merr mfai mthr minp minM mUp mcar mcam mahd magn mltr mbeg mcmd mcmM mpl msz mwr mlin mliM) := hD
        refine lv_iconst (v := 1) hx hb dX11_sum_21 (by decide) ?_
        refine lv_iadd hx hb dX11_sum_22 ?_
        obtain ⟨zg4, hF⟩ := z_grd hF
        refine va_lald hx hb hK hP 1 2 rfl rfl zg4 dX11_sum_23 ?_
        refine lv_ladd hx hb dX11_sum_24 ?_
        obtain ⟨zv5, ezv5, hF⟩ := z_let hF
        refine z_topl ezv5 ?_
        refine lv_lstore_n (lv' := [(1, .long zv5), (0, .ref q0), (3, .int x3)]) hx hb dX11_sum_25 rfl hl (by decide) rfl (fun ls hl => ?_)
        obtain ⟨zv6, ezv6, hF⟩ := z_let hF
        refine lv_iinc (v := zv6) (lv' := [(3, .int zv6), (1, .long zv5), (0, .ref q0)]) hx hb dX11_sum_26 hl (k := 2) rfl (by rw [ezv6]; rfl) (by decide) rfl (fun ls hl => ?_)
        refine lv_goto (tgt := 4) hx hb dX11_sum_29 (by decide) ?_
        exact ih4 zv5 zv6 hF _ _ _ (lv_sub hl [2, 1, 0] rfl) hP hD hS
  refine lv_lconst (v := 0) hx hb dX11_sum_0 (by decide) ?_
  refine lv_lstore_n (lv' := [(1, .long 0), (0, .ref q0)]) hx hb dX11_sum_1 rfl hl (by decide) rfl (fun ls hl => ?_)
  refine lv_iconst (v := 0) hx hb dX11_sum_2 (by decide) ?_
  refine lv_istore_n (lv' := [(3, .int 0), (1, .long 0), (0, .ref q0)]) hx hb dX11_sum_3 rfl hl (by decide) rfl (fun ls hl => ?_)
  exact K4 fu 0 0 hF _ _ _ (lv_sub hl [2, 1, 0] rfl) hP hD hS
abbrev w_X11_rest : List Cond := .code yX11_rest cX11_rest 3 (some .long) :: wU
abbrev r_X11_rest : Room := { frames := 1, cells := 0, slots := 0, locals := 23 }
abbrev q_X11_rest (g : GG) (q0 q1 q2 q3 q4 q5 q6 q7 q8 q9 q10 q11 q12 : Nat) (mm : Nat → Int64) (masd : Nat → Int64) (msav : Nat → Int64) (misS : Int32) (mpst : Nat → Int64) (mchg : Int32) (merr : Int32) (mfai : Int32) (mthr : Int32) (minp : Nat → Int32) (minM : Int32) (mUp : Nat → Int32) (mcar : Nat → Int32) (mcam : Nat → Int32) (mahd : Int32) (magn : Int32) (mltr : Nat → Int32) (mbeg : Nat → Int32) (mcmd : Nat → Int32) (mcmM : Int32) (mpl : Int32) (msz : Int32) (mwr : Int32) (mlin : Nat → Int32) (mliM : Int32) (o : Int64) (A : Nat → Prop) := va_Ql (fun (r : Int64) (u : Unit) => o = r) (fun u t => va_P (gD g) zCl (wModel g q0 q1 q2 q3 q4 q5 q6 q7 q8 q9 q10 q11 q12 mm masd msav misS mpst mchg merr mfai mthr minp minM mUp mcar mcam mahd magn mltr mbeg mcmd mcmM mpl msz mwr mlin mliM) t.heap) A
set_option maxHeartbeats 4000000 in
set_option maxRecDepth 100000 in
theorem c_X11_rest (l : Launch) (g : GG) (q0 q1 q2 q3 q4 q5 q6 q7 q8 q9 q10 q11 q12 : Nat) (mm : Nat → Int64) (masd : Nat → Int64) (msav : Nat → Int64) (misS : Int32) (mpst : Nat → Int64) (mchg : Int32) (merr : Int32) (mfai : Int32) (mthr : Int32) (minp : Nat → Int32) (minM : Int32) (mUp : Nat → Int32) (mcar : Nat → Int32) (mcam : Nat → Int32) (mahd : Int32) (magn : Int32) (mltr : Nat → Int32) (mbeg : Nat → Int32) (mcmd : Nat → Int32) (mcmM : Int32) (mpl : Int32) (msz : Int32) (mwr : Int32) (mlin : Nat → Int32) (mliM : Int32) (sz : Nat) (p1 : Int32) (p2 : Int32) (fu : Nat) (o : Int64) (hF : F_X11_rest fu mm p1 p2 = some o) : Met l yX11_rest w_X11_rest r_X11_rest (va_Pc [.ref q0, .int p1, .int p2] (zP g (wModel g q0 q1 q2 q3 q4 q5 q6 q7 q8 q9 q10 q11 q12 mm masd msav misS mpst mchg merr mfai mthr minp minM mUp mcar mcam mahd magn mltr mbeg mcmd mcmM mpl msz mwr mlin mliM) sz)) (q_X11_rest g q0 q1 q2 q3 q4 q5 q6 q7 q8 q9 q10 q11 q12 mm masd msav misS mpst mchg merr mfai mthr minp minM mUp mcar mcam mahd magn mltr mbeg mcmd mcmM mpl msz mwr mlin mliM o (va_A (wModel g q0 q1 q2 q3 q4 q5 q6 q7 q8 q9 q10 q11 q12 mm masd msav misS mpst mchg merr mfai mthr minp minM mUp mcar mcam mahd magn mltr mbeg mcmd mcmM mpl msz mwr mlin mliM) sz)) 0 0 (va_A (wModel g q0 q1 q2 q3 q4 q5 q6 q7 q8 q9 q10 q11 q12 mm masd msav misS mpst mchg merr mfai mthr minp minM mUp mcar mcam mahd magn mltr mbeg mcmd mcmM mpl msz mwr mlin mliM) sz) := by
  refine Met.ofW (cc := cX11_rest) (maxL := 3) (ret := (some .long)) (by decide) rfl ?_
  intro p e s m args below meth c s₁ B hml hv
  obtain ⟨rfl, rfl, hP, hK, hD0, hB⟩ := hv
  have hx := B.exec
  have hb := B.bytes
  have hr := B.returns
  have hts : ∀ w ∈ wU, w.before _ s = true := fun w h => atoms_spec (ws := w_X11_rest) B.pre w (List.mem_cons_of_mem _ h)
  have hown : s.vm.findClass RX11 = some m.cls := findClass_of_methodNamed B.named
  have hlocks := B.notSynchronized
  have hD := hD0.self (sz := s.heap.size)
  generalize hAe : va_A (wModel g q0 q1 q2 q3 q4 q5 q6 q7 q8 q9 q10 q11 q12 mm masd msav misS mpst mchg merr mfai mthr minp minM mUp mcar mcam mahd magn mltr mbeg mcmd mcmM mpl msz mwr mlin mliM) s.heap.size = A at hD hB ⊢
  have hA : ∀ q : Nat, s.heap.size ≤ q → A q := fun q h => by rw [← hAe]; exact Or.inr h
  have hS : va_S A s.heap s.heap [] := va_S.rf
  have hl := lv_entry ([.ref q0, .int p1, .int p2]) (n := 3) (Nat.le_of_ble_eq_true rfl)
  rw [lg_entry_eq]
  generalize (lg_sl ([.ref q0, .int p1, .int p2]) ++ List.replicate (3 - (lg_sl ([.ref q0, .int p1, .int p2])).length) Slot.unset).toArray = ls at hl ⊢
  have hl : lv_has ls 3 [(0, .ref q0), (1, .int p1), (2, .int p2)] := hl
  unfold F_X11_rest at hF
  refine lv_aload_n hx hb dX11_rest_0 rfl (lv_at hl 0 rfl) ?_
  refine va_get (D := gD g) (ci := 7) (v := .ref q1) (C := RX11) (T := TX11) (N := 25) hx hb hts inX11 hown hK hP 0 rfl rfl 0 (by decide) (hts _ mU_1244) (fun _ h9 => h9) rfl dX11_rest_1 ?_
  refine lv_iload_n hx hb dX11_rest_4 rfl (lv_at hl 1 rfl) ?_
  obtain ⟨zo1, hzo1, hF⟩ := z_bind hF
  refine z_calli (fun (_ : Unit) => []) [] (va_runS (As := [.int p1]) (rest := [.ref q1]) ⟨hx, hb, hml, hown, hts⟩ (c_X11_at l g _ p1 _ hzo1) (va_cwS 1 hts (gdS mU_1372 mU_1373 mU_75 mU_1374) rfl rfl rfl (by decide +kernel) ⟨Nat.le_of_ble_eq_true rfl, Nat.le_of_ble_eq_true rfl⟩) ⟨z_blind _ _ _ _, fun U hU hW => z_pre [] hP hD hK hB hS hA rfl rfl hU hW⟩ rfl rfl hl.1 rfl (lv_room (Nat.le_of_ble_eq_true rfl)) dX11_rest_5 ⟨Nat.le_of_ble_eq_true rfl, Nat.le_of_ble_eq_true rfl⟩) hP hD hS hA rfl (fun _ => rfl) (fun r u H locs hw hP hD hS => ?_)
  subst hw
  have hP : va_P (gD g) zCl (wModel g q0 q1 q2 q3 q4 q5 q6 q7 q8 q9 q10 q11 q12 mm masd msav misS mpst mchg merr mfai mthr minp minM mUp mcar mcam mahd magn mltr mbeg mcmd mcmM mpl msz mwr mlin mliM) H := hP
  have hD : va_D A (wModel g q0 q1 q2 q3 q4 q5 q6 q7 q8 q9 q10 q11 q12 mm masd msav misS mpst mchg merr mfai mthr minp minM mUp mcar mcam mahd magn mltr mbeg mcmd mcmM mpl msz mwr mlin mliM) := hD
  refine lv_iconst (v := 1) hx hb dX11_rest_8 (by decide) ?_
  refine lv_iadd hx hb dX11_rest_9 ?_
  obtain ⟨zg2, hF⟩ := z_grd hF
  refine va_lald hx hb hK hP 1 2 rfl rfl zg2 dX11_rest_10 ?_
  refine lv_iload_n hx hb dX11_rest_11 rfl (lv_at hl 2 rfl) ?_
  obtain ⟨zo3, hzo3, hF⟩ := z_bind hF
  refine z_calll (fun (_ : Unit) => []) [] (va_runS (As := [.int p2]) (rest := [.long (mm (Int32.toNatClampNeg (zo1 + 1)))]) ⟨hx, hb, hml, hown, hts⟩ (c_X11_step l g _ p2 fu _ hzo3) (va_cwS 1 hts (gdS mU_1364 mU_1365 mU_75 mU_1366) rfl rfl rfl (by decide +kernel) ⟨Nat.le_of_ble_eq_true rfl, Nat.le_of_ble_eq_true rfl⟩) ⟨z_blind _ _ _ _, fun U hU hW => z_pre [] hP hD hK hB hS hA rfl rfl hU hW⟩ rfl rfl hl.1 rfl (lv_room (Nat.le_of_ble_eq_true rfl)) dX11_rest_12 ⟨Nat.le_of_ble_eq_true rfl, Nat.le_of_ble_eq_true rfl⟩) hP hD hS hA rfl (fun _ => rfl) (fun r u H locs hw hP hD hS => ?_)
  subst hw
  have hP : va_P (gD g) zCl (wModel g q0 q1 q2 q3 q4 q5 q6 q7 q8 q9 q10 q11 q12 mm masd msav misS mpst mchg merr mfai mthr minp minM mUp mcar mcam mahd magn mltr mbeg mcmd mcmM mpl msz mwr mlin mliM) H := hP
  have hD : va_D A (wModel g q0 q1 q2 q3 q4 q5 q6 q7 q8 q9 q10 q11 q12 mm masd msav misS mpst mchg merr mfai mthr minp minM mUp mcar mcam mahd magn mltr mbeg mcmd mcmM mpl msz mwr mlin mliM) := hD
  obtain ⟨zg4, hF⟩ := z_grd hF
  refine lv_lrem hx hb dX11_rest_15 zg4 ?_
  have ho := (Option.some.inj hF).symm
  exact W.lret (v := ((mm (Int32.toNatClampNeg (zo1 + 1))) - (mm (Int32.toNatClampNeg (zo1 + 1))) / zo3 * zo3)) hx hb hr (fun t ht hW => ⟨⟨((mm (Int32.toNatClampNeg (zo1 + 1))) - (mm (Int32.toNatClampNeg (zo1 + 1))) / zo3 * zo3), (), rfl, ho, z_end ht hP⟩, hS.F ht⟩) hS.2.2 dX11_rest_16
abbrev w_X11_chooses : List Cond := .code yX11_chooses cX11_chooses 8 (some .int) :: wU
abbrev r_X11_chooses : Room := { frames := 2, cells := 0, slots := 0, locals := 52 }
abbrev q_X11_chooses (g : GG) (q0 q1 q2 q3 q4 q5 q6 q7 q8 q9 q10 q11 q12 : Nat) (mm : Nat → Int64) (masd : Nat → Int64) (msav : Nat → Int64) (misS : Int32) (mpst : Nat → Int64) (mchg : Int32) (merr : Int32) (mfai : Int32) (mthr : Int32) (minp : Nat → Int32) (minM : Int32) (mUp : Nat → Int32) (mcar : Nat → Int32) (mcam : Nat → Int32) (mahd : Int32) (magn : Int32) (mltr : Nat → Int32) (mbeg : Nat → Int32) (mcmd : Nat → Int32) (mcmM : Int32) (mpl : Int32) (msz : Int32) (mwr : Int32) (mlin : Nat → Int32) (mliM : Int32) (o : Int32 × (Nat → Int32)) (A : Nat → Prop) := va_Qi (fun (r : Int32) (u : (Nat → Int32)) => o.1 = r ∧ o.2 = u) (fun u t => va_P (gD g) zCl (wModel g q0 q1 q2 q3 q4 q5 q6 q7 q8 q9 q10 q11 q12 mm masd msav misS mpst mchg merr mfai mthr minp minM u mcar mcam mahd magn mltr mbeg mcmd mcmM mpl msz mwr mlin mliM) t.heap) A
set_option maxHeartbeats 4000000 in
set_option maxRecDepth 100000 in
theorem c_X11_chooses (l : Launch) (g : GG) (q0 q1 q2 q3 q4 q5 q6 q7 q8 q9 q10 q11 q12 : Nat) (mm : Nat → Int64) (masd : Nat → Int64) (msav : Nat → Int64) (misS : Int32) (mpst : Nat → Int64) (mchg : Int32) (merr : Int32) (mfai : Int32) (mthr : Int32) (minp : Nat → Int32) (minM : Int32) (mUp : Nat → Int32) (mcar : Nat → Int32) (mcam : Nat → Int32) (mahd : Int32) (magn : Int32) (mltr : Nat → Int32) (mbeg : Nat → Int32) (mcmd : Nat → Int32) (mcmM : Int32) (mpl : Int32) (msz : Int32) (mwr : Int32) (mlin : Nat → Int32) (mliM : Int32) (sz : Nat) (p1 : Int32) (fu : Nat) (o : Int32 × (Nat → Int32)) (hF : F_X11_chooses fu mm mUp p1 = some o) : Met l yX11_chooses w_X11_chooses r_X11_chooses (va_Pc [.ref q0, .int p1] (zP g (wModel g q0 q1 q2 q3 q4 q5 q6 q7 q8 q9 q10 q11 q12 mm masd msav misS mpst mchg merr mfai mthr minp minM mUp mcar mcam mahd magn mltr mbeg mcmd mcmM mpl msz mwr mlin mliM) sz)) (q_X11_chooses g q0 q1 q2 q3 q4 q5 q6 q7 q8 q9 q10 q11 q12 mm masd msav misS mpst mchg merr mfai mthr minp minM mUp mcar mcam mahd magn mltr mbeg mcmd mcmM mpl msz mwr mlin mliM o (va_A (wModel g q0 q1 q2 q3 q4 q5 q6 q7 q8 q9 q10 q11 q12 mm masd msav misS mpst mchg merr mfai mthr minp minM mUp mcar mcam mahd magn mltr mbeg mcmd mcmM mpl msz mwr mlin mliM) sz)) 0 0 (va_A (wModel g q0 q1 q2 q3 q4 q5 q6 q7 q8 q9 q10 q11 q12 mm masd msav misS mpst mchg merr mfai mthr minp minM mUp mcar mcam mahd magn mltr mbeg mcmd mcmM mpl msz mwr mlin mliM) sz) := by
  refine Met.ofW (cc := cX11_chooses) (maxL := 8) (ret := (some .int)) (by decide) rfl ?_
  intro p e s m args below meth c s₁ B hml hv
  obtain ⟨rfl, rfl, hP, hK, hD0, hB⟩ := hv
  have hx := B.exec
  have hb := B.bytes
  have hr := B.returns
  have hts : ∀ w ∈ wU, w.before _ s = true := fun w h => atoms_spec (ws := w_X11_chooses) B.pre w (List.mem_cons_of_mem _ h)
  have hown : s.vm.findClass RX11 = some m.cls := findClass_of_methodNamed B.named
  have hlocks := B.notSynchronized
  have hD := hD0.self (sz := s.heap.size)
  generalize hAe : va_A (wModel g q0 q1 q2 q3 q4 q5 q6 q7 q8 q9 q10 q11 q12 mm masd msav misS mpst mchg merr mfai mthr minp minM mUp mcar mcam mahd magn mltr mbeg mcmd mcmM mpl msz mwr mlin mliM) s.heap.size = A at hD hB ⊢
  have hA : ∀ q : Nat, s.heap.size ≤ q → A q := fun q h => by rw [← hAe]; exact Or.inr h
  have hS : va_S A s.heap s.heap [] := va_S.rf
  have hl := lv_entry ([.ref q0, .int p1]) (n := 8) (Nat.le_of_ble_eq_true rfl)
  rw [lg_entry_eq]
  generalize (lg_sl ([.ref q0, .int p1]) ++ List.replicate (8 - (lg_sl ([.ref q0, .int p1])).length) Slot.unset).toArray = ls at hl ⊢
  have hl : lv_has ls 8 [(0, .ref q0), (1, .int p1)] := hl
  unfold F_X11_chooses at hF
  have K74 : ∀ (n74 : Nat) (mUp : Nat → Int32) (x4 : Int32) (x5 : Int32), F_X11_chooses_74 fu n74 mm mUp p1 x4 x5 = some o → ∀ (H : Heap) (locs : List Loc) (ls : Array Slot), lv_has ls 8 [(0, .ref q0), (1, .int p1), (4, .int x4), (5, .int x5)] → va_P (gD g) zCl (wModel g q0 q1 q2 q3 q4 q5 q6 q7 q8 q9 q10 q11 q12 mm masd msav misS mpst mchg merr mfai mthr minp minM mUp mcar mcam mahd magn mltr mbeg mcmd mcmM mpl msz mwr mlin mliM) H → va_D A (wModel g q0 q1 q2 q3 q4 q5 q6 q7 q8 q9 q10 q11 q12 mm masd msav misS mpst mchg merr mfai mthr minp minM mUp mcar mcam mahd magn mltr mbeg mcmd mcmM mpl msz mwr mlin mliM) → va_S A s.heap H locs → W p l e (headSpec w_X11_chooses r_X11_chooses).room s m ([.ref q0, .int p1] : List Value).toArray below meth c H locs 0 0 (MQ below (q_X11_chooses g q0 q1 q2 q3 q4 q5 q6 q7 q8 q9 q10 q11 q12 mm masd msav misS mpst mchg merr mfai mthr minp minM mUp mcar mcam mahd magn mltr mbeg mcmd mcmM mpl msz mwr mlin mliM o A) ([.ref q0, .int p1] : List Value).toArray s 0 0 A) (F0 m 74 ls []) := by
    intro n74
    induction n74 with
    | zero =>
      intro mUp x4 x5 hF
      exact absurd hF (by simp [F_X11_chooses_74])
    | succ n74 ih74 =>
      have K87 : ∀ (n87 : Nat) (mUp : Nat → Int32) (x4 : Int32) (x5 : Int32) (x6 : Int32) (x7 : Int32), F_X11_chooses_87 (F_X11_chooses_74 fu n74) fu n87 mm mUp p1 x4 x5 x6 x7 = some o → ∀ (H : Heap) (locs : List Loc) (ls : Array Slot), lv_has ls 8 [(0, .ref q0), (1, .int p1), (4, .int x4), (5, .int x5), (6, .int x6), (7, .int x7)] → va_P (gD g) zCl (wModel g q0 q1 q2 q3 q4 q5 q6 q7 q8 q9 q10 q11 q12 mm masd msav misS mpst mchg merr mfai mthr minp minM mUp mcar mcam mahd magn mltr mbeg mcmd mcmM mpl msz mwr mlin mliM) H → va_D A (wModel g q0 q1 q2 q3 q4 q5 q6 q7 q8 q9 q10 q11 q12 mm masd msav misS mpst mchg merr mfai mthr minp minM mUp mcar mcam mahd magn mltr mbeg mcmd mcmM mpl msz mwr mlin mliM) → va_S A s.heap H locs → W p l e (headSpec w_X11_chooses r_X11_chooses).room s m ([.ref q0, .int p1] : List Value).toArray below meth c H locs 0 0 (MQ below (q_X11_chooses g q0 q1 q2 q3 q4 q5 q6 q7 q8 q9 q10 q11 q12 mm masd msav misS mpst mchg merr mfai mthr minp minM mUp mcar mcam mahd magn mltr mbeg mcmd mcmM mpl msz mwr mlin mliM o A) ([.ref q0, .int p1] : List Value).toArray s 0 0 A) (F0 m 87 ls []) := by
        intro n87
        induction n87 with
        | zero =>
          intro mUp x4 x5 x6 x7 hF
          exact absurd hF (by simp [F_X11_chooses_87])
        | succ n87 ih87 =>
          intro mUp x4 x5 x6 x7 hF H locs ls hl hP hD hS
          unfold F_X11_chooses_87 at hF
          refine lv_iload hx hb dX11_chooses_87 (lv_at hl 5 rfl) ?_
          refine lv_aload_n hx hb dX11_chooses_89 rfl (lv_at hl 0 rfl) ?_
          obtain ⟨zo1, hzo1, hF⟩ := z_bind hF
          refine z_calliE (fun (_ : Unit) => (wModel g q0 q1 q2 q3 q4 q5 q6 q7 q8 q9 q10 q11 q12 mm masd msav misS mpst mchg merr mfai mthr minp minM mUp mcar mcam mahd magn mltr mbeg mcmd mcmM mpl msz mwr mlin mliM)) (va_runV (As := []) (rest := [.int x7]) ⟨hx, hb, hml, hown, hts⟩ (c_X11_many l g q0 q1 q2 q3 q4 q5 q6 q7 q8 q9 q10 q11 q12 mm masd msav misS mpst mchg merr mfai mthr minp minM mUp mcar mcam mahd magn mltr mbeg mcmd mcmM mpl msz mwr mlin mliM _ _ hzo1) (cwV 0 hts (gdV mU_1356 mU_1358 mU_32 mU_75 mU_1359) rfl rfl rfl (by decide +kernel) ⟨Nat.le_of_ble_eq_true rfl, Nat.le_of_ble_eq_true rfl⟩) ⟨z_blind _ _ _ _, va_recv hK hP (ci := 7) (q0 := 0) rfl rfl, fun U hU hW => z_preE hP hD hK hB hS hA hU hW⟩ rfl rfl hl.1 rfl (lv_room (Nat.le_of_ble_eq_true rfl)) dX11_chooses_90 ⟨Nat.le_of_ble_eq_true rfl, Nat.le_of_ble_eq_true rfl⟩) hD hS hA (fun _ => rfl) (fun r u H locs hw hP hD hS => ?_)
          subst hw
          have hP : va_P (gD g) zCl (wModel g q0 q1 q2 q3 q4 q5 q6 q7 q8 q9 q10 q11 q12 mm masd msav misS mpst mchg merr mfai mthr minp minM mUp mcar mcam mahd magn mltr mbeg mcmd mcmM mpl msz mwr mlin mliM) H := hP
          have hD : va_D A (wModel g q0 q1 q2 q3 q4 q5 q6 q7 q8 q9 q10 q11 q12 mm masd msav misS mpst mchg merr mfai mthr minp minM mUp mcar mcam mahd magn mltr mbeg mcmd mcmM mpl msz mwr mlin mliM) := hD
          refine lv_icmp_ge (tgt := 145) hx hb dX11_chooses_93 (by decide) (fun zc2 => ?_) (fun zc2 => ?_)
          · have hF := z_pos hF zc2
            refine lv_aload_n hx hb dX11_chooses_145 rfl (lv_at hl 0 rfl) ?_
            refine va_get (D := gD g) (ci := 7) (v := .ref q6) (C := RX11) (T := TX11) (N := 25) hx hb hts inX11 hown hK hP 0 rfl rfl 11 (by decide) (hts _ mU_1255) (fun _ h9 => h9) rfl dX11_chooses_146 ?_
            refine lv_iload hx hb dX11_chooses_149 (lv_at hl 4 rfl) ?_
            refine lv_iconst (v := 1) hx hb dX11_chooses_151 (by decide) ?_
            obtain ⟨zg3, hF⟩ := z_grd hF
            refine va_zast hx hb hK hP hD hS 6 3 rfl rfl zg3 dX11_chooses_152 (fun H locs hP hD hS => ?_)
            have hP : va_P (gD g) zCl (wModel g q0 q1 q2 q3 q4 q5 q6 q7 q8 q9 q10 q11 q12 mm masd msav misS mpst mchg merr mfai mthr minp minM (upd mUp (Int32.toNatClampNeg x6) (vp_nar .boolean 1)) mcar mcam mahd magn mltr mbeg mcmd mcmM mpl msz mwr mlin mliM) H := hP
            have hD : va_D A (wModel g q0 q1 q2 q3 q4 q5 q6 q7 q8 q9 q10 q11 q12 mm masd msav misS mpst mchg merr mfai mthr minp minM (upd mUp (Int32.toNatClampNeg x6) (vp_nar .boolean 1)) mcar mcam mahd magn mltr mbeg mcmd mcmM mpl msz mwr mlin mliM) := hD
            obtain ⟨zv4, ezv4, hF⟩ := z_let hF
            refine lv_iinc (v := zv4) (lv' := [(5, .int zv4), (0, .ref q0), (1, .int p1), (4, .int x4), (6, .int x6), (7, .int x7)]) hx hb dX11_chooses_153 hl (k := 3) rfl (by rw [ezv4]; rfl) (by decide) rfl (fun ls hl => ?_)
            refine lv_goto (tgt := 74) hx hb dX11_chooses_156 (by decide) ?_
            exact ih74 (upd mUp (Int32.toNatClampNeg x6) (vp_nar .boolean 1)) x4 zv4 hF _ _ _ (lv_sub hl [1, 2, 3, 0] rfl) hP hD hS
          · have hF := z_neg hF zc2
            refine lv_aload_n hx hb dX11_chooses_96 rfl (lv_at hl 0 rfl) ?_
            refine va_get (D := gD g) (ci := 7) (v := .ref q6) (C := RX11) (T := TX11) (N := 25) hx hb hts inX11 hown hK hP 0 rfl rfl 11 (by decide) (hts _ mU_1255) (fun _ h9 => h9) rfl dX11_chooses_97 ?_
            refine lv_iload hx hb dX11_chooses_100 (lv_at hl 5 rfl) ?_
            obtain ⟨zg5, hF⟩ := z_grd hF
            refine va_zald hx hb hK hP 6 3 rfl rfl zg5 dX11_chooses_102 ?_
            refine lv_if_ne (tgt := 135) hx hb dX11_chooses_103 (by decide) (fun zc6 => ?_) (fun zc6 => ?_)
            · have hF := z_neg hF zc6
              refine lv_iload hx hb dX11_chooses_135 (lv_at hl 4 rfl) ?_
              refine lv_istore (lv' := [(6, .int x6), (0, .ref q0), (1, .int p1), (4, .int x4), (5, .int x5), (7, .int x7)]) hx hb dX11_chooses_137 hl (by decide) rfl (fun ls hl => ?_)
              obtain ⟨zv7, ezv7, hF⟩ := z_let hF
              refine lv_iinc (v := zv7) (lv' := [(7, .int zv7), (6, .int x6), (0, .ref q0), (1, .int p1), (4, .int x4), (5, .int x5)]) hx hb dX11_chooses_139 hl (k := 5) rfl (by rw [ezv7]; rfl) (by decide) rfl (fun ls hl => ?_)
              refine lv_goto (tgt := 87) hx hb dX11_chooses_142 (by decide) ?_
              exact ih87 mUp x4 x5 x6 zv7 hF _ _ _ (lv_sub hl [2, 3, 4, 5, 1, 0] rfl) hP hD hS
            · have hF := z_pos hF zc6
              refine lv_iload hx hb dX11_chooses_106 (lv_at hl 4 rfl) ?_
              refine lv_iconst (v := (-1)) hx hb dX11_chooses_108 (by decide) ?_
              refine lv_icmp_eq (tgt := 130) hx hb dX11_chooses_109 (by decide) (fun zc8 => ?_) (fun zc8 => ?_)
              · have hF := z_pos hF zc8
                refine lv_iload hx hb dX11_chooses_130 (lv_at hl 5 rfl) ?_
                refine lv_goto (tgt := 137) hx hb dX11_chooses_132 (by decide) ?_
                refine lv_istore (lv' := [(6, .int x7), (0, .ref q0), (1, .int p1), (4, .int x4), (5, .int x5), (7, .int x7)]) hx hb dX11_chooses_137 hl (by decide) rfl (fun ls hl => ?_)
                obtain ⟨zv9, ezv9, hF⟩ := z_let hF
                refine lv_iinc (v := zv9) (lv' := [(7, .int zv9), (6, .int x7), (0, .ref q0), (1, .int p1), (4, .int x4), (5, .int x5)]) hx hb dX11_chooses_139 hl (k := 5) rfl (by rw [ezv9]; rfl) (by decide) rfl (fun ls hl => ?_)
                refine lv_goto (tgt := 87) hx hb dX11_chooses_142 (by decide) ?_
                exact ih87 mUp x4 x5 x7 zv9 hF _ _ _ (lv_sub hl [2, 3, 4, 5, 1, 0] rfl) hP hD hS
              · have hF := z_neg hF zc8
                refine lv_aload_n hx hb dX11_chooses_112 rfl (lv_at hl 0 rfl) ?_
                refine lv_iload hx hb dX11_chooses_113 (lv_at hl 5 rfl) ?_
                refine lv_iload_n hx hb dX11_chooses_115 rfl (lv_at hl 1 rfl) ?_
                obtain ⟨zo10, hzo10, hF⟩ := z_bind hF
                refine z_calllE (fun (_ : Unit) => (wModel g q0 q1 q2 q3 q4 q5 q6 q7 q8 q9 q10 q11 q12 mm masd msav misS mpst mchg merr mfai mthr minp minM mUp mcar mcam mahd magn mltr mbeg mcmd mcmM mpl msz mwr mlin mliM)) (va_runV (As := [.int x7, .int p1]) (rest := []) ⟨hx, hb, hml, hown, hts⟩ (c_X11_rest l g q0 q1 q2 q3 q4 q5 q6 q7 q8 q9 q10 q11 q12 mm masd msav misS mpst mchg merr mfai mthr minp minM mUp mcar mcam mahd magn mltr mbeg mcmd mcmM mpl msz mwr mlin mliM _ x7 p1 fu _ hzo10) (cwV 2 hts (gdV mU_1456 mU_1458 mU_45 mU_75 mU_1459) rfl rfl rfl (by decide +kernel) ⟨Nat.le_of_ble_eq_true rfl, Nat.le_of_ble_eq_true rfl⟩) ⟨z_blind _ _ _ _, va_recv hK hP (ci := 7) (q0 := 0) rfl rfl, fun U hU hW => z_preE hP hD hK hB hS hA hU hW⟩ rfl rfl hl.1 rfl (lv_room (Nat.le_of_ble_eq_true rfl)) dX11_chooses_116 ⟨Nat.le_of_ble_eq_true rfl, Nat.le_of_ble_eq_true rfl⟩) hD hS hA (fun _ => rfl) (fun r u H locs hw hP hD hS => ?_)
                subst hw
                have hP : va_P (gD g) zCl (wModel g q0 q1 q2 q3 q4 q5 q6 q7 q8 q9 q10 q11 q12 mm masd msav misS mpst mchg merr mfai mthr minp minM mUp mcar mcam mahd magn mltr mbeg mcmd mcmM mpl msz mwr mlin mliM) H := hP
                have hD : va_D A (wModel g q0 q1 q2 q3 q4 q5 q6 q7 q8 q9 q10 q11 q12 mm masd msav misS mpst mchg merr mfai mthr minp minM mUp mcar mcam mahd magn mltr mbeg mcmd mcmM mpl msz mwr mlin mliM) := hD
                refine lv_aload_n hx hb dX11_chooses_119 rfl (lv_at hl 0 rfl) ?_
                refine lv_iload hx hb dX11_chooses_120 (lv_at hl 4 rfl) ?_
                refine lv_iload_n hx hb dX11_chooses_122 rfl (lv_at hl 1 rfl) ?_
                obtain ⟨zo11, hzo11, hF⟩ := z_bind hF
                refine z_calllE (fun (_ : Unit) => (wModel g q0 q1 q2 q3 q4 q5 q6 q7 q8 q9 q10 q11 q12 mm masd msav misS mpst mchg merr mfai mthr minp minM mUp mcar mcam mahd magn mltr mbeg mcmd mcmM mpl msz mwr mlin mliM)) (va_runV (As := [.int x6, .int p1]) (rest := [.long zo10]) ⟨hx, hb, hml, hown, hts⟩ (c_X11_rest l g q0 q1 q2 q3 q4 q5 q6 q7 q8 q9 q10 q11 q12 mm masd msav misS mpst mchg merr mfai mthr minp minM mUp mcar mcam mahd magn mltr mbeg mcmd mcmM mpl msz mwr mlin mliM _ x6 p1 fu _ hzo11) (cwV 2 hts (gdV mU_1456 mU_1458 mU_45 mU_75 mU_1459) rfl rfl rfl (by decide +kernel) ⟨Nat.le_of_ble_eq_true rfl, Nat.le_of_ble_eq_true rfl⟩) ⟨z_blind _ _ _ _, va_recv hK hP (ci := 7) (q0 := 0) rfl rfl, fun U hU hW => z_preE hP hD hK hB hS hA hU hW⟩ rfl rfl hl.1 rfl (lv_room (Nat.le_of_ble_eq_true rfl)) dX11_chooses_123 ⟨Nat.le_of_ble_eq_true rfl, Nat.le_of_ble_eq_true rfl⟩) hD hS hA (fun _ => rfl) (fun r u H locs hw hP hD hS => ?_)
                subst hw
                have hP : va_P (gD g) zCl (wModel g q0 q1 q2 q3 q4 q5 q6 q7 q8 q9 q10 q11 q12 mm masd msav misS mpst mchg merr mfai mthr minp minM mUp mcar mcam mahd magn mltr mbeg mcmd mcmM mpl msz mwr mlin mliM) H := hP
                have hD : va_D A (wModel g q0 q1 q2 q3 q4 q5 q6 q7 q8 q9 q10 q11 q12 mm masd msav misS mpst mchg merr mfai mthr minp minM mUp mcar mcam mahd magn mltr mbeg mcmd mcmM mpl msz mwr mlin mliM) := hD
                refine z_lcmp_le (tgt := 135) hx hb dX11_chooses_126 dX11_chooses_127 (by decide) (fun zc12 => ?_) (fun zc12 => ?_)
                · have hF := z_neg hF zc12
                  refine lv_iload hx hb dX11_chooses_135 (lv_at hl 4 rfl) ?_
                  refine lv_istore (lv' := [(6, .int x6), (0, .ref q0), (1, .int p1), (4, .int x4), (5, .int x5), (7, .int x7)]) hx hb dX11_chooses_137 hl (by decide) rfl (fun ls hl => ?_)
                  obtain ⟨zv13, ezv13, hF⟩ := z_let hF
                  refine lv_iinc (v := zv13) (lv' := [(7, .int zv13), (6, .int x6), (0, .ref q0), (1, .int p1), (4, .int x4), (5, .int x5)]) hx hb dX11_chooses_139 hl (k := 5) rfl (by rw [ezv13]; rfl) (by decide) rfl (fun ls hl => ?_)
                  refine lv_goto (tgt := 87) hx hb dX11_chooses_142 (by decide) ?_
                  exact ih87 mUp x4 x5 x6 zv13 hF _ _ _ (lv_sub hl [2, 3, 4, 5, 1, 0] rfl) hP hD hS
                · have hF := z_pos hF zc12
                  refine lv_iload hx hb dX11_chooses_130 (lv_at hl 5 rfl) ?_
                  refine lv_goto (tgt := 137) hx hb dX11_chooses_132 (by decide) ?_
                  refine lv_istore (lv' := [(6, .int x7), (0, .ref q0), (1, .int p1), (4, .int x4), (5, .int x5), (7, .int x7)]) hx hb dX11_chooses_137 hl (by decide) rfl (fun ls hl => ?_)
                  obtain ⟨zv14, ezv14, hF⟩ := z_let hF
                  refine lv_iinc (v := zv14) (lv' := [(7, .int zv14), (6, .int x7), (0, .ref q0), (1, .int p1), (4, .int x4), (5, .int x5)]) hx hb dX11_chooses_139 hl (k := 5) rfl (by rw [ezv14]; rfl) (by decide) rfl (fun ls hl => ?_)
                  refine lv_goto (tgt := 87) hx hb dX11_chooses_142 (by decide) ?_
                  exact ih87 mUp x4 x5 x7 zv14 hF _ _ _ (lv_sub hl [2, 3, 4, 5, 1, 0] rfl) hP hD hS
      intro mUp x4 x5 hF H locs ls hl hP hD hS
      unfold F_X11_chooses_74 at hF
      refine lv_iload hx hb dX11_chooses_74 (lv_at hl 3 rfl) ?_
      refine lv_iload hx hb dX11_chooses_76 (lv_at hl 2 rfl) ?_
      refine lv_icmp_ge (tgt := 159) hx hb dX11_chooses_78 (by decide) (fun zc15 => ?_) (fun zc15 => ?_)
      · have hF := z_pos hF zc15
        refine lv_iload hx hb dX11_chooses_159 (lv_at hl 2 rfl) ?_
        have ho := (Option.some.inj hF).symm
        exact W.iret (v := x4) hx hb hr (fun t ht hW => ⟨⟨x4, mUp, rfl, ⟨by rw [ho], by rw [ho]⟩, z_end ht hP⟩, hS.F ht⟩) hS.2.2 dX11_chooses_161
      · have hF := z_neg hF zc15
        refine lv_iconst (v := (-1)) hx hb dX11_chooses_81 (by decide) ?_
        refine lv_istore (lv' := [(6, .int (-1)), (0, .ref q0), (1, .int p1), (4, .int x4), (5, .int x5)]) hx hb dX11_chooses_82 hl (by decide) rfl (fun ls hl => ?_)
        refine lv_iconst (v := 0) hx hb dX11_chooses_84 (by decide) ?_
        refine lv_istore (lv' := [(7, .int 0), (6, .int (-1)), (0, .ref q0), (1, .int p1), (4, .int x4), (5, .int x5)]) hx hb dX11_chooses_85 hl (by decide) rfl (fun ls hl => ?_)
        exact K87 fu mUp x4 x5 (-1) 0 hF _ _ _ (lv_sub hl [2, 3, 4, 5, 1, 0] rfl) hP hD hS
  have K5 : ∀ (n5 : Nat) (mUp : Nat → Int32) (x2 : Int64) (x4 : Int32), F_X11_chooses_5 fu n5 mm mUp p1 x2 x4 = some o → ∀ (H : Heap) (locs : List Loc) (ls : Array Slot), lv_has ls 8 [(0, .ref q0), (1, .int p1), (2, .long x2), (4, .int x4)] → va_P (gD g) zCl (wModel g q0 q1 q2 q3 q4 q5 q6 q7 q8 q9 q10 q11 q12 mm masd msav misS mpst mchg merr mfai mthr minp minM mUp mcar mcam mahd magn mltr mbeg mcmd mcmM mpl msz mwr mlin mliM) H → va_D A (wModel g q0 q1 q2 q3 q4 q5 q6 q7 q8 q9 q10 q11 q12 mm masd msav misS mpst mchg merr mfai mthr minp minM mUp mcar mcam mahd magn mltr mbeg mcmd mcmM mpl msz mwr mlin mliM) → va_S A s.heap H locs → W p l e (headSpec w_X11_chooses r_X11_chooses).room s m ([.ref q0, .int p1] : List Value).toArray below meth c H locs 0 0 (MQ below (q_X11_chooses g q0 q1 q2 q3 q4 q5 q6 q7 q8 q9 q10 q11 q12 mm masd msav misS mpst mchg merr mfai mthr minp minM mUp mcar mcam mahd magn mltr mbeg mcmd mcmM mpl msz mwr mlin mliM o A) ([.ref q0, .int p1] : List Value).toArray s 0 0 A) (F0 m 5 ls []) := by
    intro n5
    induction n5 with
    | zero =>
      intro mUp x2 x4 hF
      exact absurd hF (by simp [F_X11_chooses_5])
    | succ n5 ih5 =>
      intro mUp x2 x4 hF H locs ls hl hP hD hS
      unfold F_X11_chooses_5 at hF
      refine lv_iload hx hb dX11_chooses_5 (lv_at hl 3 rfl) ?_
      refine lv_aload_n hx hb dX11_chooses_7 rfl (lv_at hl 0 rfl) ?_
      obtain ⟨zo16, hzo16, hF⟩ := z_bind hF
      refine z_calliE (fun (_ : Unit) => (wModel g q0 q1 q2 q3 q4 q5 q6 q7 q8 q9 q10 q11 q12 mm masd msav misS mpst mchg merr mfai mthr minp minM mUp mcar mcam mahd magn mltr mbeg mcmd mcmM mpl msz mwr mlin mliM)) (va_runV (As := []) (rest := [.int x4]) ⟨hx, hb, hml, hown, hts⟩ (c_X11_many l g q0 q1 q2 q3 q4 q5 q6 q7 q8 q9 q10 q11 q12 mm masd msav misS mpst mchg merr mfai mthr minp minM mUp mcar mcam mahd magn mltr mbeg mcmd mcmM mpl msz mwr mlin mliM _ _ hzo16) (cwV 0 hts (gdV mU_1356 mU_1358 mU_32 mU_75 mU_1359) rfl rfl rfl (by decide +kernel) ⟨Nat.le_of_ble_eq_true rfl, Nat.le_of_ble_eq_true rfl⟩) ⟨z_blind _ _ _ _, va_recv hK hP (ci := 7) (q0 := 0) rfl rfl, fun U hU hW => z_preE hP hD hK hB hS hA hU hW⟩ rfl rfl hl.1 rfl (lv_room (Nat.le_of_ble_eq_true rfl)) dX11_chooses_8 ⟨Nat.le_of_ble_eq_true rfl, Nat.le_of_ble_eq_true rfl⟩) hD hS hA (fun _ => rfl) (fun r u H locs hw hP hD hS => ?_)
      subst hw
      have hP : va_P (gD g) zCl (wModel g q0 q1 q2 q3 q4 q5 q6 q7 q8 q9 q10 q11 q12 mm masd msav misS mpst mchg merr mfai mthr minp minM mUp mcar mcam mahd magn mltr mbeg mcmd mcmM mpl msz mwr mlin mliM) H := hP
      have hD : va_D A (wModel g q0 q1 q2 q3 q4 q5 q6 q7 q8 q9 q10 q11 q12 mm masd msav misS mpst mchg merr mfai mthr minp minM mUp mcar mcam mahd magn mltr mbeg mcmd mcmM mpl msz mwr mlin mliM) := hD
      refine lv_icmp_ge (tgt := 51) hx hb dX11_chooses_11 (by decide) (fun zc17 => ?_) (fun zc17 => ?_)
      · have hF := z_pos hF zc17
        refine lv_aload_n hx hb dX11_chooses_51 rfl (lv_at hl 0 rfl) ?_
        obtain ⟨zo18, hzo18, hF⟩ := z_bind hF
        refine z_calllE (fun (_ : Unit) => (wModel g q0 q1 q2 q3 q4 q5 q6 q7 q8 q9 q10 q11 q12 mm masd msav misS mpst mchg merr mfai mthr minp minM mUp mcar mcam mahd magn mltr mbeg mcmd mcmM mpl msz mwr mlin mliM)) (va_runV (As := []) (rest := []) ⟨hx, hb, hml, hown, hts⟩ (c_X11_sum l g q0 q1 q2 q3 q4 q5 q6 q7 q8 q9 q10 q11 q12 mm masd msav misS mpst mchg merr mfai mthr minp minM mUp mcar mcam mahd magn mltr mbeg mcmd mcmM mpl msz mwr mlin mliM _ fu _ hzo18) (cwV 0 hts (gdV mU_1460 mU_1462 mU_46 mU_75 mU_1463) rfl rfl rfl (by decide +kernel) ⟨Nat.le_of_ble_eq_true rfl, Nat.le_of_ble_eq_true rfl⟩) ⟨z_blind _ _ _ _, va_recv hK hP (ci := 7) (q0 := 0) rfl rfl, fun U hU hW => z_preE hP hD hK hB hS hA hU hW⟩ rfl rfl hl.1 rfl (lv_room (Nat.le_of_ble_eq_true rfl)) dX11_chooses_52 ⟨Nat.le_of_ble_eq_true rfl, Nat.le_of_ble_eq_true rfl⟩) hD hS hA (fun _ => rfl) (fun r u H locs hw hP hD hS => ?_)
        subst hw
        have hP : va_P (gD g) zCl (wModel g q0 q1 q2 q3 q4 q5 q6 q7 q8 q9 q10 q11 q12 mm masd msav misS mpst mchg merr mfai mthr minp minM mUp mcar mcam mahd magn mltr mbeg mcmd mcmM mpl msz mwr mlin mliM) H := hP
        have hD : va_D A (wModel g q0 q1 q2 q3 q4 q5 q6 q7 q8 q9 q10 q11 q12 mm masd msav misS mpst mchg merr mfai mthr minp minM mUp mcar mcam mahd magn mltr mbeg mcmd mcmM mpl msz mwr mlin mliM) := hD
        refine lv_iload_n hx hb dX11_chooses_55 rfl (lv_at hl 1 rfl) ?_
        refine lv_bipush (v := 104) hx hb dX11_chooses_56 (by decide) ?_
        obtain ⟨zo19, hzo19, hF⟩ := z_bind hF
        refine z_calll (fun (_ : Unit) => []) [] (va_runS (As := [.long zo18, .int p1, .int 104]) (rest := []) ⟨hx, hb, hml, hown, hts⟩ (c_X11_round l g _ zo18 p1 104 fu _ hzo19) (va_cwS 3 hts (gdS mU_1416 mU_1417 mU_75 mU_1418) rfl rfl rfl (by decide +kernel) ⟨Nat.le_of_ble_eq_true rfl, Nat.le_of_ble_eq_true rfl⟩) ⟨z_blind _ _ _ _, fun U hU hW => z_pre [] hP hD hK hB hS hA rfl rfl hU hW⟩ rfl rfl hl.1 rfl (lv_room (Nat.le_of_ble_eq_true rfl)) dX11_chooses_58 ⟨Nat.le_of_ble_eq_true rfl, Nat.le_of_ble_eq_true rfl⟩) hP hD hS hA rfl (fun _ => rfl) (fun r u H locs hw hP hD hS => ?_)
        subst hw
        have hP : va_P (gD g) zCl (wModel g q0 q1 q2 q3 q4 q5 q6 q7 q8 q9 q10 q11 q12 mm masd msav misS mpst mchg merr mfai mthr minp minM mUp mcar mcam mahd magn mltr mbeg mcmd mcmM mpl msz mwr mlin mliM) H := hP
        have hD : va_D A (wModel g q0 q1 q2 q3 q4 q5 q6 q7 q8 q9 q10 q11 q12 mm masd msav misS mpst mchg merr mfai mthr minp minM mUp mcar mcam mahd magn mltr mbeg mcmd mcmM mpl msz mwr mlin mliM) := hD
        refine lv_lload_n hx hb dX11_chooses_61 rfl (lv_at hl 2 rfl) ?_
        refine lv_lsub hx hb dX11_chooses_62 ?_
        refine lv_iload_n hx hb dX11_chooses_63 rfl (lv_at hl 1 rfl) ?_
        obtain ⟨zo20, hzo20, hF⟩ := z_bind hF
        refine z_calll (fun (_ : Unit) => []) [] (va_runS (As := [.int p1]) (rest := [.long (zo19 - x2)]) ⟨hx, hb, hml, hown, hts⟩ (c_X11_step l g _ p1 fu _ hzo20) (va_cwS 1 hts (gdS mU_1364 mU_1365 mU_75 mU_1366) rfl rfl rfl (by decide +kernel) ⟨Nat.le_of_ble_eq_true rfl, Nat.le_of_ble_eq_true rfl⟩) ⟨z_blind _ _ _ _, fun U hU hW => z_pre [] hP hD hK hB hS hA rfl rfl hU hW⟩ rfl rfl hl.1 rfl (lv_room (Nat.le_of_ble_eq_true rfl)) dX11_chooses_64 ⟨Nat.le_of_ble_eq_true rfl, Nat.le_of_ble_eq_true rfl⟩) hP hD hS hA rfl (fun _ => rfl) (fun r u H locs hw hP hD hS => ?_)
        subst hw
        have hP : va_P (gD g) zCl (wModel g q0 q1 q2 q3 q4 q5 q6 q7 q8 q9 q10 q11 q12 mm masd msav misS mpst mchg merr mfai mthr minp minM mUp mcar mcam mahd magn mltr mbeg mcmd mcmM mpl msz mwr mlin mliM) H := hP
        have hD : va_D A (wModel g q0 q1 q2 q3 q4 q5 q6 q7 q8 q9 q10 q11 q12 mm masd msav misS mpst mchg merr mfai mthr minp minM mUp mcar mcam mahd magn mltr mbeg mcmd mcmM mpl msz mwr mlin mliM) := hD
        obtain ⟨zg21, hF⟩ := z_grd hF
        refine lv_ldiv hx hb dX11_chooses_67 zg21 ?_
        refine lv_l2i (v := (Int64.toInt32 ((zo19 - x2) / zo20))) hx hb dX11_chooses_68 rfl ?_
        obtain ⟨zv22, ezv22, hF⟩ := z_let hF
        refine z_topi ezv22 ?_
        refine lv_istore (lv' := [(4, .int zv22), (0, .ref q0), (1, .int p1), (2, .long x2)]) hx hb dX11_chooses_69 hl (by decide) rfl (fun ls hl => ?_)
        refine lv_iconst (v := 0) hx hb dX11_chooses_71 (by decide) ?_
        refine lv_istore (lv' := [(5, .int 0), (4, .int zv22), (0, .ref q0), (1, .int p1), (2, .long x2)]) hx hb dX11_chooses_72 hl (by decide) rfl (fun ls hl => ?_)
        exact K74 fu mUp zv22 0 hF _ _ _ (lv_sub hl [2, 3, 1, 0] rfl) hP hD hS
      · have hF := z_neg hF zc17
        refine lv_aload_n hx hb dX11_chooses_14 rfl (lv_at hl 0 rfl) ?_
        refine va_get (D := gD g) (ci := 7) (v := .ref q6) (C := RX11) (T := TX11) (N := 25) hx hb hts inX11 hown hK hP 0 rfl rfl 11 (by decide) (hts _ mU_1255) (fun _ h9 => h9) rfl dX11_chooses_15 ?_
        refine lv_iload hx hb dX11_chooses_18 (lv_at hl 3 rfl) ?_
        refine lv_iconst (v := 0) hx hb dX11_chooses_20 (by decide) ?_
        obtain ⟨zg23, hF⟩ := z_grd hF
        refine va_zast hx hb hK hP hD hS 6 3 rfl rfl zg23 dX11_chooses_21 (fun H locs hP hD hS => ?_)
        have hP : va_P (gD g) zCl (wModel g q0 q1 q2 q3 q4 q5 q6 q7 q8 q9 q10 q11 q12 mm masd msav misS mpst mchg merr mfai mthr minp minM (upd mUp (Int32.toNatClampNeg x4) (vp_nar .boolean 0)) mcar mcam mahd magn mltr mbeg mcmd mcmM mpl msz mwr mlin mliM) H := hP
        have hD : va_D A (wModel g q0 q1 q2 q3 q4 q5 q6 q7 q8 q9 q10 q11 q12 mm masd msav misS mpst mchg merr mfai mthr minp minM (upd mUp (Int32.toNatClampNeg x4) (vp_nar .boolean 0)) mcar mcam mahd magn mltr mbeg mcmd mcmM mpl msz mwr mlin mliM) := hD
        refine lv_lload_n hx hb dX11_chooses_22 rfl (lv_at hl 2 rfl) ?_
        refine lv_aload_n hx hb dX11_chooses_23 rfl (lv_at hl 0 rfl) ?_
        refine va_get (D := gD g) (ci := 7) (v := .ref q1) (C := RX11) (T := TX11) (N := 25) hx hb hts inX11 hown hK hP 0 rfl rfl 0 (by decide) (hts _ mU_1244) (fun _ h9 => h9) rfl dX11_chooses_24 ?_
        refine lv_iload hx hb dX11_chooses_27 (lv_at hl 3 rfl) ?_
        obtain ⟨zo24, hzo24, hF⟩ := z_bind hF
        refine z_calli (fun (_ : Unit) => []) [] (va_runS (As := [.int x4]) (rest := [.ref q1, .long x2]) ⟨hx, hb, hml, hown, hts⟩ (c_X11_at l g _ x4 _ hzo24) (va_cwS 1 hts (gdS mU_1372 mU_1373 mU_75 mU_1374) rfl rfl rfl (by decide +kernel) ⟨Nat.le_of_ble_eq_true rfl, Nat.le_of_ble_eq_true rfl⟩) ⟨z_blind _ _ _ _, fun U hU hW => z_pre [] hP hD hK hB hS hA rfl rfl hU hW⟩ rfl rfl hl.1 rfl (lv_room (Nat.le_of_ble_eq_true rfl)) dX11_chooses_29 ⟨Nat.le_of_ble_eq_true rfl, Nat.le_of_ble_eq_true rfl⟩) hP hD hS hA rfl (fun _ => rfl) (fun r u H locs hw hP hD hS => ?_)
        subst hw
        have hP : va_P (gD g) zCl (wModel g q0 q1 q2 q3 q4 q5 q6 q7 q8 q9 q10 q11 q12 mm masd msav misS mpst mchg merr mfai mthr minp minM (upd mUp (Int32.toNatClampNeg x4) (vp_nar .boolean 0)) mcar mcam mahd magn mltr mbeg mcmd mcmM mpl msz mwr mlin mliM) H := hP
        have hD : va_D A (wModel g q0 q1 q2 q3 q4 q5 q6 q7 q8 q9 q10 q11 q12 mm masd msav misS mpst mchg merr mfai mthr minp minM (upd mUp (Int32.toNatClampNeg x4) (vp_nar .boolean 0)) mcar mcam mahd magn mltr mbeg mcmd mcmM mpl msz mwr mlin mliM) := hD
        refine lv_iconst (v := 1) hx hb dX11_chooses_32 (by decide) ?_
        refine lv_iadd hx hb dX11_chooses_33 ?_
        obtain ⟨zg25, hF⟩ := z_grd hF
        refine va_lald hx hb hK hP 1 2 rfl rfl zg25 dX11_chooses_34 ?_
        refine lv_aload_n hx hb dX11_chooses_35 rfl (lv_at hl 0 rfl) ?_
        refine lv_iload hx hb dX11_chooses_36 (lv_at hl 3 rfl) ?_
        refine lv_iload_n hx hb dX11_chooses_38 rfl (lv_at hl 1 rfl) ?_
        obtain ⟨zo26, hzo26, hF⟩ := z_bind hF
        refine z_calllE (fun (_ : Unit) => (wModel g q0 q1 q2 q3 q4 q5 q6 q7 q8 q9 q10 q11 q12 mm masd msav misS mpst mchg merr mfai mthr minp minM (upd mUp (Int32.toNatClampNeg x4) (vp_nar .boolean 0)) mcar mcam mahd magn mltr mbeg mcmd mcmM mpl msz mwr mlin mliM)) (va_runV (As := [.int x4, .int p1]) (rest := [.long (mm (Int32.toNatClampNeg (zo24 + 1))), .long x2]) ⟨hx, hb, hml, hown, hts⟩ (c_X11_rest l g q0 q1 q2 q3 q4 q5 q6 q7 q8 q9 q10 q11 q12 mm masd msav misS mpst mchg merr mfai mthr minp minM (upd mUp (Int32.toNatClampNeg x4) (vp_nar .boolean 0)) mcar mcam mahd magn mltr mbeg mcmd mcmM mpl msz mwr mlin mliM _ x4 p1 fu _ hzo26) (cwV 2 hts (gdV mU_1456 mU_1458 mU_45 mU_75 mU_1459) rfl rfl rfl (by decide +kernel) ⟨Nat.le_of_ble_eq_true rfl, Nat.le_of_ble_eq_true rfl⟩) ⟨z_blind _ _ _ _, va_recv hK hP (ci := 7) (q0 := 0) rfl rfl, fun U hU hW => z_preE hP hD hK hB hS hA hU hW⟩ rfl rfl hl.1 rfl (lv_room (Nat.le_of_ble_eq_true rfl)) dX11_chooses_39 ⟨Nat.le_of_ble_eq_true rfl, Nat.le_of_ble_eq_true rfl⟩) hD hS hA (fun _ => rfl) (fun r u H locs hw hP hD hS => ?_)
        subst hw
        have hP : va_P (gD g) zCl (wModel g q0 q1 q2 q3 q4 q5 q6 q7 q8 q9 q10 q11 q12 mm masd msav misS mpst mchg merr mfai mthr minp minM (upd mUp (Int32.toNatClampNeg x4) (vp_nar .boolean 0)) mcar mcam mahd magn mltr mbeg mcmd mcmM mpl msz mwr mlin mliM) H := hP
        have hD : va_D A (wModel g q0 q1 q2 q3 q4 q5 q6 q7 q8 q9 q10 q11 q12 mm masd msav misS mpst mchg merr mfai mthr minp minM (upd mUp (Int32.toNatClampNeg x4) (vp_nar .boolean 0)) mcar mcam mahd magn mltr mbeg mcmd mcmM mpl msz mwr mlin mliM) := hD
        refine lv_lsub hx hb dX11_chooses_42 ?_
        refine lv_ladd hx hb dX11_chooses_43 ?_
        obtain ⟨zv27, ezv27, hF⟩ := z_let hF
        refine z_topl ezv27 ?_
        refine lv_lstore_n (lv' := [(2, .long zv27), (0, .ref q0), (1, .int p1), (4, .int x4)]) hx hb dX11_chooses_44 rfl hl (by decide) rfl (fun ls hl => ?_)
        obtain ⟨zv28, ezv28, hF⟩ := z_let hF
        refine lv_iinc (v := zv28) (lv' := [(4, .int zv28), (2, .long zv27), (0, .ref q0), (1, .int p1)]) hx hb dX11_chooses_45 hl (k := 3) rfl (by rw [ezv28]; rfl) (by decide) rfl (fun ls hl => ?_)
        refine lv_goto (tgt := 5) hx hb dX11_chooses_48 (by decide) ?_
        exact ih5 (upd mUp (Int32.toNatClampNeg x4) (vp_nar .boolean 0)) zv27 zv28 hF _ _ _ (lv_sub hl [2, 3, 1, 0] rfl) hP hD hS
  refine lv_lconst (v := 0) hx hb dX11_chooses_0 (by decide) ?_
  refine lv_lstore_n (lv' := [(2, .long 0), (0, .ref q0), (1, .int p1)]) hx hb dX11_chooses_1 rfl hl (by decide) rfl (fun ls hl => ?_)
  refine lv_iconst (v := 0) hx hb dX11_chooses_2 (by decide) ?_
  refine lv_istore (lv' := [(4, .int 0), (2, .long 0), (0, .ref q0), (1, .int p1)]) hx hb dX11_chooses_3 hl (by decide) rfl (fun ls hl => ?_)
  exact K5 fu mUp 0 0 hF _ _ _ (lv_sub hl [2, 3, 1, 0] rfl) hP hD hS
