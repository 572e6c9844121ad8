-- the call that runs the text, and what is done with any call
theorem L_36 {fu : Nat} (hf : 20000 ≤ fu) {L : Nat} {xs : Nat → Int32} {k : Nat} {z : LW} (hk : k < 512) (hI : Inv k z) : ∃ z1, D_law_36 fu L xs z (iI ((5 * k : Nat) : Int)) = some z1 ∧ Inv (k + 1) z1 := by
  have hb := BB_b hk
  have hs := BB_s k
  have hM := inv_mono hk hI
  obtain ⟨⟨a, h, g, ho⟩, hsv, hh, ht, he, hl, hlb⟩ := hI
  obtain ⟨n, hp, hm, hT⟩ := ht
  unfold D_law_36 G_law_2401
  obtain ⟨r, st2, hst2, sp2, un2, pp2, pc2, cm2, sE, sF, q, mm2, ma2, mp2, mc2, me2, mf2, mt2, mu2, mk2, v1, v2, v3, v4, a2, e1, e2, e3, k1, k2, k3, k4⟩ := h_run (fu := fu) (by omega) h g ho hb.2 hh hT hlb (l_ppos z) (l_pcnt z) (l_cmds z) (l_stE z) (l_stF z) (l_masd z) (l_merr z) (l_mfai z) (l_mthr z) (l_minM z) (l_mUp z) (l_mcmd z) (l_mcmM z) (l_mpl z) (l_msz z) (l_mwr z) hm
  rw [← hp] at e1
  have hT0 : TXI (l_ptx z) 0 (l_minp z) 0 := ⟨0, rfl, rfl, by omega, fun i hi => absurd hi (Nat.not_lt_zero i)⟩
  have hIS : IS (BB (k + 1)) st2 mm2 := ⟨a2, k1, k2, k3.mono (by omega) (by omega)⟩
  have hHR := k4.mono (show BB k + 100 ≤ BB (k + 1) by omega) (by omega)
  unfold F_L_run
  rcases e3 with ⟨rfl, rfl, h1, h2, h3⟩ | ⟨rfl, rfl, h1, h2, h3⟩ | ⟨rfl, rfl, _, h1, h2, h3, h4⟩
  · have e1 : F_X10_run fu (l_st z) (l_hst z) (l_spare z) (l_undo z) (l_ptx z) (l_plen z) (l_ppos z) (l_pcnt z) (l_cmds z) (l_stE z) (l_stF z) = some (.error (0, (st2, hst2, sp2, un2, 0, pp2, pc2, cm2, sE, sF))) := e1
    simp only [e1, e2, zb_some, zc_ok, zc_err, thr_, joS, x10, x20, x21, c0_, c1_, c2_, y10, y20, if_true, if_false]
    exact ⟨_, rfl, hIS, hM.2.1, hHR, hT0, ⟨h1, h2.trans (he.2.trans h3.symm)⟩, hM.2.2.2.2.2⟩
  · have e1 : F_X10_run fu (l_st z) (l_hst z) (l_spare z) (l_undo z) (l_ptx z) (l_plen z) (l_ppos z) (l_pcnt z) (l_cmds z) (l_stE z) (l_stF z) = some (.error (2, (st2, hst2, sp2, un2, 0, pp2, pc2, cm2, sE, sF))) := e1
    simp only [e1, e2, zb_some, zc_ok, zc_err, thr_, joS, x10, x20, x21, c0_, c1_, c2_, y10, y20, if_true, if_false]
    exact ⟨_, rfl, hIS, hM.2.1, hHR, hT0, ⟨h1.trans (he.1.trans h2.symm), h3⟩, hM.2.2.2.2.2⟩
  · have e1 : F_X10_run fu (l_st z) (l_hst z) (l_spare z) (l_undo z) (l_ptx z) (l_plen z) (l_ppos z) (l_pcnt z) (l_cmds z) (l_stE z) (l_stF z) = some (.ok (q, st2, hst2, sp2, un2, 0, pp2, pc2, cm2, sE, sF)) := e1
    simp only [e1, e2, zb_some, zc_ok, zc_err, thr_, joS, x10, x20, x21, c0_, c1_, c2_, y10, y20, if_true, if_false]
    exact ⟨_, rfl, hIS, hM.2.1, hHR, hT0, ⟨h1.trans (he.1.trans h2.symm), h3.trans (he.2.trans h4.symm)⟩, hM.2.2.2.2.2⟩
theorem e_ofNat (k : Nat) : Int32.ofNat (5 * k) = iI ((5 * k : Nat) : Int) := rfl
theorem F_disp_ok {fu : Nat} (hf : 20000 ≤ fu) {L : Nat} {xs : Nat → Int32} (hL : L ≤ 2560) {k : Nat} {z : LW} (hk : k < 512) (hI : Inv k z) (hkL : 5 * k + 5 ≤ L) (op : Int32) : ∃ z1, F_disp fu L xs z (Int32.ofNat (5 * k)) op = some z1 ∧ Inv (k + 1) z1 := by
  rw [e_ofNat]
  unfold F_disp
  by_cases h0 : op = 0
  · rw [if_pos h0]; exact L_0 hf hk hkL hL hI
  rw [if_neg h0]
  by_cases h1 : op = 1
  · rw [if_pos h1]; exact L_1 hf hk hkL hL hI
  rw [if_neg h1]
  by_cases h2 : op = 2
  · rw [if_pos h2]; exact L_2 hf hk hkL hL hI
  rw [if_neg h2]
  by_cases h3 : op = 3
  · rw [if_pos h3]; exact L_3 hf hk hkL hL hI
  rw [if_neg h3]
  by_cases h4 : op = 4
  · rw [if_pos h4]; exact L_4 hf hk hkL hL hI
  rw [if_neg h4]
  by_cases h5 : op = 5
  · rw [if_pos h5]; exact L_5 hf hk hkL hL hI
  rw [if_neg h5]
  by_cases h6 : op = 6
  · rw [if_pos h6]; exact L_6 hf hk hkL hL hI
  rw [if_neg h6]
  by_cases h7 : op = 7
  · rw [if_pos h7]; exact L_7 hf hk hkL hL hI
  rw [if_neg h7]
  by_cases h8 : op = 8
  · rw [if_pos h8]; exact L_8 hf hk hkL hL hI
  rw [if_neg h8]
  by_cases h9 : op = 9
  · rw [if_pos h9]; exact L_9 hf hk hkL hL hI
  rw [if_neg h9]
  by_cases h10 : op = 10
  · rw [if_pos h10]; exact L_10 hf hk hkL hL hI
  rw [if_neg h10]
  by_cases h11 : op = 11
  · rw [if_pos h11]; exact L_11 hf hk hkL hL hI
  rw [if_neg h11]
  by_cases h12 : op = 12
  · rw [if_pos h12]; exact L_12 hf hk hkL hL hI
  rw [if_neg h12]
  by_cases h13 : op = 13
  · rw [if_pos h13]; exact L_13 hf hk hkL hL hI
  rw [if_neg h13]
  by_cases h14 : op = 14
  · rw [if_pos h14]; exact L_14 hf hk hkL hL hI
  rw [if_neg h14]
  by_cases h15 : op = 15
  · rw [if_pos h15]; exact L_15 hf hk hkL hL hI
  rw [if_neg h15]
  by_cases h16 : op = 16
  · rw [if_pos h16]; exact L_16 hf hk hkL hL hI
  rw [if_neg h16]
  by_cases h17 : op = 17
  · rw [if_pos h17]; exact L_17 hf hk hkL hL hI
  rw [if_neg h17]
  by_cases h18 : op = 18
  · rw [if_pos h18]; exact L_18 hf hk hkL hL hI
  rw [if_neg h18]
  by_cases h19 : op = 19
  · rw [if_pos h19]; exact L_19 hf hk hkL hL hI
  rw [if_neg h19]
  by_cases h20 : op = 20
  · rw [if_pos h20]; exact L_20 hf hk hkL hL hI
  rw [if_neg h20]
  by_cases h21 : op = 21
  · rw [if_pos h21]; exact L_21 hf hk hkL hL hI
  rw [if_neg h21]
  by_cases h22 : op = 22
  · rw [if_pos h22]; exact L_22 hf hk hkL hL hI
  rw [if_neg h22]
  by_cases h23 : op = 23
  · rw [if_pos h23]; exact L_23 hf hk hkL hL hI
  rw [if_neg h23]
  by_cases h24 : op = 24
  · rw [if_pos h24]; exact L_24 hf hk hkL hL hI
  rw [if_neg h24]
  by_cases h25 : op = 25
  · rw [if_pos h25]; exact L_25 hf hk hkL hL hI
  rw [if_neg h25]
  by_cases h26 : op = 26
  · rw [if_pos h26]; exact L_26 hf hk hkL hL hI
  rw [if_neg h26]
  by_cases h27 : op = 27
  · rw [if_pos h27]; exact L_27 hf hk hkL hL hI
  rw [if_neg h27]
  by_cases h28 : op = 28
  · rw [if_pos h28]; exact L_28 hf hk hkL hL hI
  rw [if_neg h28]
  by_cases h29 : op = 29
  · rw [if_pos h29]; exact L_29 hf hk hkL hL hI
  rw [if_neg h29]
  by_cases h30 : op = 30
  · rw [if_pos h30]; exact L_30 hf hk hkL hL hI
  rw [if_neg h30]
  by_cases h31 : op = 31
  · rw [if_pos h31]; exact L_31 hf hk hkL hL hI
  rw [if_neg h31]
  by_cases h32 : op = 32
  · rw [if_pos h32]; exact L_32 hf hk hkL hL hI
  rw [if_neg h32]
  by_cases h33 : op = 33
  · rw [if_pos h33]; exact L_33 hf hk hkL hL hI
  rw [if_neg h33]
  by_cases h34 : op = 34
  · rw [if_pos h34]; exact L_34 hf hk hkL hL hI
  rw [if_neg h34]
  by_cases h35 : op = 35
  · rw [if_pos h35]; exact L_35 hf hk hkL hL hI
  rw [if_neg h35]
  by_cases h36 : op = 36
  · rw [if_pos h36]; exact L_36 hf hk hI
  rw [if_neg h36]
  by_cases h37 : op = 37
  · rw [if_pos h37]; exact L_37 hf hk hkL hL hI
  rw [if_neg h37]
  by_cases h38 : op = 38
  · rw [if_pos h38]; exact L_38 hf hk hkL hL hI
  rw [if_neg h38]
  by_cases h39 : op = 39
  · rw [if_pos h39]; exact L_39 hf hk hkL hL hI
  rw [if_neg h39]
  by_cases h40 : op = 40
  · rw [if_pos h40]; exact L_40 hf hk hkL hL hI
  rw [if_neg h40]
  by_cases h41 : op = 41
  · rw [if_pos h41]; exact L_41 hf hk hkL hL hI
  rw [if_neg h41]
  by_cases h42 : op = 42
  · rw [if_pos h42]; exact L_42 hf hk hkL hL hI
  rw [if_neg h42]
  by_cases h43 : op = 43
  · rw [if_pos h43]; exact L_43 hf hk hkL hL hI
  rw [if_neg h43]
  by_cases h44 : op = 44
  · rw [if_pos h44]; exact L_44 hf hk hkL hL hI
  rw [if_neg h44]
  exact ⟨z, rfl, inv_mono hk hI⟩
theorem F_total : ∀ (L : Nat) (xs : Nat → Int32), L ≤ 2560 → ∃ fu : Nat, F_loop fu L xs 513 zL0 0 = some () :=
  F_total_of 20000 Inv inv_0 (fun _ _ hL _ _ hk hI hkL => F_disp_ok (by omega) hL hk hI hkL _)
theorem whole_start {p : Program} {e : Env} {s : State} {m : MethodId} {below : List Frame} {meth : Method} {c : Code} (l : Launch) (hflags : l.flags = flags0) {b L : Nat} {xs : Nat → Int32} (hL : L ≤ 2560) (C0 : lw_At p s m meth c b L xs) : W p l e room_1 s m #[Value.ref b] below meth c s.heap [] 0 0 (lw_Z below #[Value.ref b] s) (entryFrame m ([Value.ref b] : List Value).toArray 9) :=
  whole_from F_total l (e_flags hflags) hL C0
