-- the base at the law's entry: the classes, the arrays' classes, the words of the tables
theorem b_arr {s : State} {args : Array Value} {ty : FieldType} (h : (Cond.arrayClass ty).before args s = true) : ∃ c : ClassId, ArrOfT s c ty ∧ s.vm.findClass ("[" ++ ty.toString) = some c := by
  obtain ⟨c, k, comp, h1, h2, h3⟩ := Cond.arrayClass_spec h
  exact ⟨c, fun n z => ⟨fun k h => (by cases h), k, h2, comp, h3⟩, h1⟩
theorem b_ao {s : State} {C : String} (h : va_AO C s) : ∃ c : ClassId, ArrOfT s c (.object C) ∧ va_RA s c (.object C) := by
  obtain ⟨comp, c, k, h1, h2, h3, h4, h5⟩ := Cond.arrayOver_spec h
  exact ⟨c, fun n z => ⟨fun k h => (by cases h), k, h3, comp, h4⟩, k, comp, h3, h4, h1, h5⟩
set_option maxHeartbeats 1000000 in
theorem b_K {s : State} {args : Array Value} (hts : ∀ w ∈ wU, w.before args s = true) (hO1 : va_AO RX8 s) (hO2 : va_AO RX1 s) : ∃ (D : va_G) (T : ClassId × ClassId × ClassId × ClassId × ClassId × ClassId × ClassId), ∀ r, va_K (gD (D, T, r)) zCl (gT (D, T, r)) s := by
  obtain ⟨c0, i0, k0⟩ := u_known (C := RX1) (T := TX1) (N := 7) hts inX1 (hts _ mU_205)
  obtain ⟨c1, i1, k1⟩ := u_known (C := RX2) (T := TX2) (N := 3) hts inX2 (hts _ mU_160)
  obtain ⟨c2, i2, k2⟩ := u_known (C := RX4) (T := TX4) (N := 2) hts inX4 (hts _ mU_263)
  obtain ⟨c3, i3, k3⟩ := u_known (C := RX5) (T := TX5) (N := 3) hts inX5 (hts _ mU_180)
  obtain ⟨c4, i4, k4⟩ := u_known (C := RX6) (T := TX6) (N := 5) hts inX6 (hts _ mU_198)
  obtain ⟨c5, i5, k5⟩ := u_known (C := RX8) (T := TX8) (N := 11) hts inX8 (hts _ mU_107)
  obtain ⟨c6, i6, k6⟩ := u_known (C := RX10) (T := TX10) (N := 9) hts inX10 (hts _ mU_99)
  obtain ⟨c7, i7, k7⟩ := u_known (C := RX11) (T := TX11) (N := 25) hts inX11 (hts _ mU_1239)
  obtain ⟨aI, pI, qI⟩ := b_arr (hts _ mU_156)
  obtain ⟨aJ, pJ, qJ⟩ := b_arr (hts _ mU_157)
  obtain ⟨aC, pC, qC⟩ := b_arr (hts _ mU_158)
  obtain ⟨aZ, pZ, qZ⟩ := b_arr (hts _ mU_1320)
  obtain ⟨aD, pD, qD⟩ := b_arr (hts _ mU_1707)
  obtain ⟨aS, pS, qS⟩ := b_ao hO1
  obtain ⟨aK, pK, qK⟩ := b_ao hO2
  refine ⟨(fun c => [c0, c1, c2, c3, c4, c5, c6, c7].getD c 0, fun c => [i0, i1, i2, i3, i4, i5, i6, i7].getD c (fun _ => 0)), (aC, aI, aJ, aZ, aS, aK, aD), fun r => ⟨fun c q hq => ?_, fun k q hq => ?_⟩⟩
  · have hc : c < 8 := (List.getElem?_eq_some_iff.mp hq).1
    have h9 : c = 0 ∨ c = 1 ∨ c = 2 ∨ c = 3 ∨ c = 4 ∨ c = 5 ∨ c = 6 ∨ c = 7 := by omega
    rcases h9 with rfl | rfl | rfl | rfl | rfl | rfl | rfl | rfl <;> cases hq
    · exact k0
    · exact k1
    · exact k2
    · exact k3
    · exact k4
    · exact k5
    · exact k6
    · exact k7
  · have hc : k < 7 := (List.getElem?_eq_some_iff.mp hq).1
    have h9 : k = 0 ∨ k = 1 ∨ k = 2 ∨ k = 3 ∨ k = 4 ∨ k = 5 ∨ k = 6 := by omega
    rcases h9 with rfl | rfl | rfl | rfl | rfl | rfl | rfl <;> cases hq
    · exact ⟨pC, qC⟩
    · exact ⟨pI, qI⟩
    · exact ⟨pJ, qJ⟩
    · exact ⟨pZ, qZ⟩
    · exact ⟨pS, qS⟩
    · exact ⟨pK, qK⟩
    · exact ⟨pD, qD⟩
theorem b_AO1 {s : State} {args : Array Value} (hts : ∀ w ∈ lw_tbl, w.before args s = true) : va_AO RX8 s ∧ va_AO RX1 s :=
  ⟨va_AO.of (hts _ (List.mem_of_getElem? (i := 166) (by decide +kernel))), va_AO.of (hts _ (List.mem_of_getElem? (i := 204) (by decide +kernel)))⟩
theorem b_Nc {s : State} {args : Array Value} (hn : ∀ w ∈ flatC (Jvm.Cond.and given_1 narrow_1), w.before args s = true) : ∀ q ∈ zNc, va_Nc q.1 q.2 s := by
  have h : ∀ q ∈ zNc, Cond.not (.castable q.1 q.2) ∈ flatC (Jvm.Cond.and given_1 narrow_1) := by decide +kernel
  exact fun q hq => va_Nc.of (hn _ (h q hq))
theorem b_Tx {s : State} {args : Array Value} (hts : ∀ w ∈ lw_tbl, w.before args s = true) (hn : ∀ w ∈ flatC (Jvm.Cond.and given_1 narrow_1), w.before args s = true) : ∀ q ∈ zTx, ∃ a, vk_R RX10 q.1 q.2 a s := by
  have h1 : ∀ q ∈ zTx, Cond.stringRef RX10 q.1 q.2 ∈ lw_tbl := by decide +kernel
  have h2 : ∀ q ∈ zTx, Cond.exactly (.string RX10 q.1) "java/lang/String" ∈ flatC (Jvm.Cond.and given_1 narrow_1) := by decide +kernel
  intro q hq
  obtain ⟨a, c, cell, k, e1, -⟩ := Cond.exactly_spec (hn _ (h2 q hq))
  exact ⟨a, vk_R.of (hts _ (h1 q hq)) e1⟩
