-- the calls, one by one
theorem ix_1 (k : Nat) : iI ((5 * k : Nat) : Int) + 1 = iI ((5 * k + 1 : Nat) : Int) := by rw [ii_L1, ii_add]; rfl
theorem ix_2 (k : Nat) : iI ((5 * k : Nat) : Int) + 2 = iI ((5 * k + 2 : Nat) : Int) := by rw [ii_L2, ii_add]; rfl
theorem ix_3 (k : Nat) : iI ((5 * k : Nat) : Int) + 3 = iI ((5 * k + 3 : Nat) : Int) := by rw [ii_L3, ii_add]; rfl
theorem ix_4 (k : Nat) : iI ((5 * k : Nat) : Int) + 4 = iI ((5 * k + 4 : Nat) : Int) := by rw [ii_L4, ii_add]; rfl
theorem ix_g {k L j : Nat} (h : 5 * k + 5 ≤ L) (hL : L ≤ 2560) (hj : j < 5) : (iI ((5 * k + j : Nat) : Int) < 0 ∨ L ≤ 5 * k + j) = False := eq_false (ii_gx (by omega) (by omega))
theorem L_0 {fu : Nat} (hf : 20000 ≤ fu) {L : Nat} {xs : Nat → Int32} {k : Nat} {z : LW} (hk : k < 512) (hkL : 5 * k + 5 ≤ L) (hL : L ≤ 2560) (hI : Inv k z) : ∃ z1, D_law_0 fu L xs z (iI ((5 * k : Nat) : Int)) = some z1 ∧ Inv (k + 1) z1 := by
  have hb := BB_b hk
  have hJ := hI
  obtain ⟨⟨a, h, g, ho⟩, hsv, hh, ht, he, hl, hlb⟩ := hI
  unfold D_law_0 G_law_240
  simp only [ix_1 k, ix_2 k, ix_3 k, ix_4 k, ii_nc (5 * k + 1) (show 5 * k + 1 < 2147483648 by omega), ii_nc (5 * k + 2) (show 5 * k + 2 < 2147483648 by omega), ii_nc (5 * k + 3) (show 5 * k + 3 < 2147483648 by omega), ii_nc (5 * k + 4) (show 5 * k + 4 < 2147483648 by omega), ix_g hkL hL (show 1 < 5 by omega), ix_g hkL hL (show 2 < 5 by omega), ix_g hkL hL (show 3 < 5 by omega), ix_g hkL hL (show 4 < 5 by omega), if_false]
  obtain ⟨x1, ex1, hx1⟩ := ii_e32 (xs (5 * k + 1))
  obtain ⟨x2, ex2, hx2⟩ := ii_e32 (xs (5 * k + 2))
  obtain ⟨x3, ex3, hx3⟩ := ii_e32 (xs (5 * k + 3))
  obtain ⟨x4, ex4, hx4⟩ := zc_ex (xs (5 * k + 4))
  rw [ex1, ex2, ex3, ex4]
  obtain ⟨hst2, ma2, eR, eS, hc⟩ := chg (fu := fu) (by omega) h g ho hb.2 hh (l_masd z) (l_mthr z) (by decide) (c_add (fu := fu) (by omega) h g ho (by omega) 0 hx1 hx2 hx3 hx4)
  unfold F_L_addNumber F_X10_addNumber F_X11_addNumber
  rcases hc with ⟨e, q, v, hm, w1, w2, w3, k1, k2, k3, k4⟩ | ⟨r, st2, mm2, a2, sp2, un2, mp2, mc2, w1, w2, w3, w4, k1, k2, k3, k4⟩
  · simp only [List.mem_cons, Prod.mk.injEq, List.not_mem_nil, or_false] at hm
    rcases hm with ⟨rfl, rfl⟩ | ⟨rfl, rfl⟩ | ⟨rfl, rfl⟩
    all_goals
      simp only [eR, eS, w1, w2, w3, zb_some, zc_ok, zc_err, thr_, joS, jdS, x10, x20, x21, x30, x31, x32, x40, x43, x50, x53, if_true, if_false, not_true_eq_false, not_false_eq_true]
      simp only [c0_, c1_, c2_, c3_, c4_, y10, y20, y30, y40, zb_some, zc_ok, zc_err, thr_, joS, jdS, x10, x20, x21, x30, x31, x32, x40, x43, x50, x53, if_true, if_false, not_true_eq_false, not_false_eq_true]
      exact ⟨_, rfl, inv_chg hk hJ (by omega) k1 k2 k3 k4⟩
  · simp only [eR, eS, w1, w2, w3, w4, zb_some, zc_ok, zc_err, thr_, joS, jdS, x10, x20, x21, x30, x31, x32, x40, x43, x50, x53, if_true, if_false, not_true_eq_false, not_false_eq_true]
    exact ⟨_, rfl, inv_chg hk hJ (by omega) k1 k2 k3 k4⟩
theorem L_1 {fu : Nat} (hf : 20000 ≤ fu) {L : Nat} {xs : Nat → Int32} {k : Nat} {z : LW} (hk : k < 512) (hkL : 5 * k + 5 ≤ L) (hL : L ≤ 2560) (hI : Inv k z) : ∃ z1, D_law_1 fu L xs z (iI ((5 * k : Nat) : Int)) = some z1 ∧ Inv (k + 1) z1 := by
  have hb := BB_b hk
  have hJ := hI
  obtain ⟨⟨a, h, g, ho⟩, hsv, hh, ht, he, hl, hlb⟩ := hI
  unfold D_law_1 G_law_334
  simp only [ix_1 k, ix_2 k, ix_3 k, ix_4 k, ii_nc (5 * k + 1) (show 5 * k + 1 < 2147483648 by omega), ii_nc (5 * k + 2) (show 5 * k + 2 < 2147483648 by omega), ii_nc (5 * k + 3) (show 5 * k + 3 < 2147483648 by omega), ii_nc (5 * k + 4) (show 5 * k + 4 < 2147483648 by omega), ix_g hkL hL (show 1 < 5 by omega), ix_g hkL hL (show 2 < 5 by omega), ix_g hkL hL (show 3 < 5 by omega), ix_g hkL hL (show 4 < 5 by omega), if_false]
  obtain ⟨x1, ex1, hx1⟩ := ii_e32 (xs (5 * k + 1))
  obtain ⟨x2, ex2, hx2⟩ := ii_e32 (xs (5 * k + 2))
  obtain ⟨x3, ex3, hx3⟩ := ii_e32 (xs (5 * k + 3))
  obtain ⟨x4, ex4, hx4⟩ := zc_ex (xs (5 * k + 4))
  rw [ex1, ex2, ex3, ex4]
  obtain ⟨hst2, ma2, eR, eS, hc⟩ := chg (fu := fu) (by omega) h g ho hb.2 hh (l_masd z) (l_mthr z) (by decide) (c_over (fu := fu) (by omega) h g ho (by omega) 0 hx1 hx2 hx3 hx4)
  unfold F_L_addQuotient F_X10_addQuotient F_X11_addQuotient
  rcases hc with ⟨e, q, v, hm, w1, w2, w3, k1, k2, k3, k4⟩ | ⟨r, st2, mm2, a2, sp2, un2, mp2, mc2, w1, w2, w3, w4, k1, k2, k3, k4⟩
  · simp only [List.mem_cons, Prod.mk.injEq, List.not_mem_nil, or_false] at hm
    rcases hm with ⟨rfl, rfl⟩ | ⟨rfl, rfl⟩
    all_goals
      simp only [eR, eS, w1, w2, w3, zb_some, zc_ok, zc_err, thr_, joS, jdS, x10, x20, x21, x30, x31, x32, x40, x43, x50, x53, if_true, if_false, not_true_eq_false, not_false_eq_true]
      simp only [c0_, c1_, c2_, c3_, c4_, y10, y20, y30, y40, zb_some, zc_ok, zc_err, thr_, joS, jdS, x10, x20, x21, x30, x31, x32, x40, x43, x50, x53, if_true, if_false, not_true_eq_false, not_false_eq_true]
      exact ⟨_, rfl, inv_chg hk hJ (by omega) k1 k2 k3 k4⟩
  · simp only [eR, eS, w1, w2, w3, w4, zb_some, zc_ok, zc_err, thr_, joS, jdS, x10, x20, x21, x30, x31, x32, x40, x43, x50, x53, if_true, if_false, not_true_eq_false, not_false_eq_true]
    exact ⟨_, rfl, inv_chg hk hJ (by omega) k1 k2 k3 k4⟩
theorem L_2 {fu : Nat} (hf : 20000 ≤ fu) {L : Nat} {xs : Nat → Int32} {k : Nat} {z : LW} (hk : k < 512) (hkL : 5 * k + 5 ≤ L) (hL : L ≤ 2560) (hI : Inv k z) : ∃ z1, D_law_2 fu L xs z (iI ((5 * k : Nat) : Int)) = some z1 ∧ Inv (k + 1) z1 := by
  have hb := BB_b hk
  have hJ := hI
  obtain ⟨⟨a, h, g, ho⟩, hsv, hh, ht, he, hl, hlb⟩ := hI
  unfold D_law_2 G_law_428
  simp only [ix_1 k, ii_nc (5 * k + 1) (show 5 * k + 1 < 2147483648 by omega), ix_g hkL hL (show 1 < 5 by omega), if_false]
  obtain ⟨x1, ex1, hx1⟩ := ii_e32 (xs (5 * k + 1))
  rw [ex1]
  obtain ⟨hst2, ma2, eR, eS, hc⟩ := chg (fu := fu) (by omega) h g ho hb.2 hh (l_masd z) (l_mthr z) (by decide) (c_free (fu := fu) (by omega) h g ho (by omega) 0 hx1)
  unfold F_L_remove F_X10_remove F_X11_remove
  rcases hc with ⟨e, q, v, hm, w1, w2, w3, k1, k2, k3, k4⟩ | ⟨r, st2, mm2, a2, sp2, un2, mp2, mc2, w1, w2, w3, w4, k1, k2, k3, k4⟩
  · simp only [List.mem_cons, Prod.mk.injEq, List.not_mem_nil, or_false] at hm
    obtain ⟨rfl, rfl⟩ := hm
    all_goals
      simp only [eR, eS, w1, w2, w3, zb_some, zc_ok, zc_err, thr_, joS, jdS, x10, x20, x21, x30, x31, x32, x40, x43, x50, x53, if_true, if_false, not_true_eq_false, not_false_eq_true]
      simp only [c0_, c1_, c2_, c3_, c4_, y10, y20, y30, y40, zb_some, zc_ok, zc_err, thr_, joS, jdS, x10, x20, x21, x30, x31, x32, x40, x43, x50, x53, if_true, if_false, not_true_eq_false, not_false_eq_true]
      exact ⟨_, rfl, inv_chg hk hJ (by omega) k1 k2 k3 k4⟩
  · simp only [eR, eS, w1, w2, w3, w4, zb_some, zc_ok, zc_err, thr_, joS, jdS, x10, x20, x21, x30, x31, x32, x40, x43, x50, x53, if_true, if_false, not_true_eq_false, not_false_eq_true]
    exact ⟨_, rfl, inv_chg hk hJ (by omega) k1 k2 k3 k4⟩
theorem L_3 {fu : Nat} (hf : 20000 ≤ fu) {L : Nat} {xs : Nat → Int32} {k : Nat} {z : LW} (hk : k < 512) (hkL : 5 * k + 5 ≤ L) (hL : L ≤ 2560) (hI : Inv k z) : ∃ z1, D_law_3 fu L xs z (iI ((5 * k : Nat) : Int)) = some z1 ∧ Inv (k + 1) z1 := by
  have hb := BB_b hk
  have hJ := hI
  obtain ⟨⟨a, h, g, ho⟩, hsv, hh, ht, he, hl, hlb⟩ := hI
  unfold D_law_3 G_law_483
  simp only [ix_1 k, ix_2 k, ix_3 k, ii_nc (5 * k + 1) (show 5 * k + 1 < 2147483648 by omega), ii_nc (5 * k + 2) (show 5 * k + 2 < 2147483648 by omega), ii_nc (5 * k + 3) (show 5 * k + 3 < 2147483648 by omega), ix_g hkL hL (show 1 < 5 by omega), ix_g hkL hL (show 2 < 5 by omega), ix_g hkL hL (show 3 < 5 by omega), if_false]
  obtain ⟨x1, ex1, hx1⟩ := ii_e32 (xs (5 * k + 1))
  obtain ⟨x2, ex2, hx2⟩ := ii_e32 (xs (5 * k + 2))
  obtain ⟨x3, ex3, hx3⟩ := ii_e32 (xs (5 * k + 3))
  rw [ex1, ex2, ex3]
  obtain ⟨hst2, ma2, eR, eS, hc⟩ := chg (fu := fu) (by omega) h g ho hb.2 hh (l_masd z) (l_mthr z) (by decide) (c_feed (fu := fu) (by omega) h g ho (by omega) 0 hx1 hx2 hx3)
  unfold F_L_feed F_X10_feed F_X11_feed
  rcases hc with ⟨e, q, v, hm, w1, w2, w3, k1, k2, k3, k4⟩ | ⟨r, st2, mm2, a2, sp2, un2, mp2, mc2, w1, w2, w3, w4, k1, k2, k3, k4⟩
  · simp only [List.mem_cons, Prod.mk.injEq, List.not_mem_nil, or_false] at hm
    rcases hm with ⟨rfl, rfl⟩ | ⟨rfl, rfl⟩
    all_goals
      simp only [eR, eS, w1, w2, w3, zb_some, zc_ok, zc_err, thr_, joS, jdS, x10, x20, x21, x30, x31, x32, x40, x43, x50, x53, if_true, if_false, not_true_eq_false, not_false_eq_true]
      simp only [c0_, c1_, c2_, c3_, c4_, y10, y20, y30, y40, zb_some, zc_ok, zc_err, thr_, joS, jdS, x10, x20, x21, x30, x31, x32, x40, x43, x50, x53, if_true, if_false, not_true_eq_false, not_false_eq_true]
      exact ⟨_, rfl, inv_chg hk hJ (by omega) k1 k2 k3 k4⟩
  · simp only [eR, eS, w1, w2, w3, w4, zb_some, zc_ok, zc_err, thr_, joS, jdS, x10, x20, x21, x30, x31, x32, x40, x43, x50, x53, if_true, if_false, not_true_eq_false, not_false_eq_true]
    exact ⟨_, rfl, inv_chg hk hJ (by omega) k1 k2 k3 k4⟩
theorem L_4 {fu : Nat} (hf : 20000 ≤ fu) {L : Nat} {xs : Nat → Int32} {k : Nat} {z : LW} (hk : k < 512) (hkL : 5 * k + 5 ≤ L) (hL : L ≤ 2560) (hI : Inv k z) : ∃ z1, D_law_4 fu L xs z (iI ((5 * k : Nat) : Int)) = some z1 ∧ Inv (k + 1) z1 := by
  have hb := BB_b hk
  have hJ := hI
  obtain ⟨⟨a, h, g, ho⟩, hsv, hh, ht, he, hl, hlb⟩ := hI
  unfold D_law_4 G_law_562
  simp only [ix_1 k, ix_2 k, ix_3 k, ix_4 k, ii_nc (5 * k + 1) (show 5 * k + 1 < 2147483648 by omega), ii_nc (5 * k + 2) (show 5 * k + 2 < 2147483648 by omega), ii_nc (5 * k + 3) (show 5 * k + 3 < 2147483648 by omega), ii_nc (5 * k + 4) (show 5 * k + 4 < 2147483648 by omega), ix_g hkL hL (show 1 < 5 by omega), ix_g hkL hL (show 2 < 5 by omega), ix_g hkL hL (show 3 < 5 by omega), ix_g hkL hL (show 4 < 5 by omega), if_false]
  obtain ⟨x1, ex1, hx1⟩ := ii_e32 (xs (5 * k + 1))
  obtain ⟨x2, ex2, hx2⟩ := ii_e32 (xs (5 * k + 2))
  obtain ⟨x3, ex3, hx3⟩ := ii_e32 (xs (5 * k + 3))
  obtain ⟨x4, ex4, hx4⟩ := ii_e32 (xs (5 * k + 4))
  rw [ex1, ex2, ex3, ex4]
  obtain ⟨hst2, ma2, eR, eS, hc⟩ := chg (fu := fu) (by omega) h g ho hb.2 hh (l_masd z) (l_mthr z) (by decide) (c_trade (fu := fu) (by omega) h g ho (by omega) 0 hx1 hx2 hx3 hx4)
  unfold F_L_trade F_X10_trade F_X11_trade
  rcases hc with ⟨e, q, v, hm, w1, w2, w3, k1, k2, k3, k4⟩ | ⟨r, st2, mm2, a2, sp2, un2, mp2, mc2, w1, w2, w3, w4, k1, k2, k3, k4⟩
  · simp only [List.mem_cons, Prod.mk.injEq, List.not_mem_nil, or_false] at hm
    rcases hm with ⟨rfl, rfl⟩ | ⟨rfl, rfl⟩ | ⟨rfl, rfl⟩ | ⟨rfl, rfl⟩
    all_goals
      simp only [eR, eS, w1, w2, w3, zb_some, zc_ok, zc_err, thr_, joS, jdS, x10, x20, x21, x30, x31, x32, x40, x43, x50, x53, if_true, if_false, not_true_eq_false, not_false_eq_true]
      simp only [c0_, c1_, c2_, c3_, c4_, y10, y20, y30, y40, zb_some, zc_ok, zc_err, thr_, joS, jdS, x10, x20, x21, x30, x31, x32, x40, x43, x50, x53, if_true, if_false, not_true_eq_false, not_false_eq_true]
      exact ⟨_, rfl, inv_chg hk hJ (by omega) k1 k2 k3 k4⟩
  · simp only [eR, eS, w1, w2, w3, w4, zb_some, zc_ok, zc_err, thr_, joS, jdS, x10, x20, x21, x30, x31, x32, x40, x43, x50, x53, if_true, if_false, not_true_eq_false, not_false_eq_true]
    exact ⟨_, rfl, inv_chg hk hJ (by omega) k1 k2 k3 k4⟩
theorem L_5 {fu : Nat} (hf : 20000 ≤ fu) {L : Nat} {xs : Nat → Int32} {k : Nat} {z : LW} (hk : k < 512) (hkL : 5 * k + 5 ≤ L) (hL : L ≤ 2560) (hI : Inv k z) : ∃ z1, D_law_5 fu L xs z (iI ((5 * k : Nat) : Int)) = some z1 ∧ Inv (k + 1) z1 := by
  have hb := BB_b hk
  have hJ := hI
  obtain ⟨⟨a, h, g, ho⟩, hsv, hh, ht, he, hl, hlb⟩ := hI
  unfold D_law_5 G_law_653
  simp only [ix_1 k, ix_2 k, ii_nc (5 * k + 1) (show 5 * k + 1 < 2147483648 by omega), ii_nc (5 * k + 2) (show 5 * k + 2 < 2147483648 by omega), ix_g hkL hL (show 1 < 5 by omega), ix_g hkL hL (show 2 < 5 by omega), if_false]
  obtain ⟨x1, ex1, hx1⟩ := ii_e32 (xs (5 * k + 1))
  obtain ⟨x2, ex2, hx2⟩ := ii_e32 (xs (5 * k + 2))
  rw [ex1, ex2]
  obtain ⟨hst2, ma2, eR, eS, hc⟩ := chg (fu := fu) (by omega) h g ho hb.2 hh (l_masd z) (l_mthr z) (by decide) (c_scale (fu := fu) (by omega) h g ho (by omega) 0 hx1 hx2)
  unfold F_L_setScale F_X10_setScale F_X11_setScale
  rcases hc with ⟨e, q, v, hm, w1, w2, w3, k1, k2, k3, k4⟩ | ⟨r, st2, mm2, a2, sp2, un2, mp2, mc2, w1, w2, w3, w4, k1, k2, k3, k4⟩
  · simp only [List.mem_cons, Prod.mk.injEq, List.not_mem_nil, or_false] at hm
    rcases hm with ⟨rfl, rfl⟩ | ⟨rfl, rfl⟩
    all_goals
      simp only [eR, eS, w1, w2, w3, zb_some, zc_ok, zc_err, thr_, joS, jdS, x10, x20, x21, x30, x31, x32, x40, x43, x50, x53, if_true, if_false, not_true_eq_false, not_false_eq_true]
      simp only [c0_, c1_, c2_, c3_, c4_, y10, y20, y30, y40, zb_some, zc_ok, zc_err, thr_, joS, jdS, x10, x20, x21, x30, x31, x32, x40, x43, x50, x53, if_true, if_false, not_true_eq_false, not_false_eq_true]
      exact ⟨_, rfl, inv_chg hk hJ (by omega) k1 k2 k3 k4⟩
  · simp only [eR, eS, w1, w2, w3, w4, zb_some, zc_ok, zc_err, thr_, joS, jdS, x10, x20, x21, x30, x31, x32, x40, x43, x50, x53, if_true, if_false, not_true_eq_false, not_false_eq_true]
    exact ⟨_, rfl, inv_chg hk hJ (by omega) k1 k2 k3 k4⟩
theorem L_6 {fu : Nat} (hf : 20000 ≤ fu) {L : Nat} {xs : Nat → Int32} {k : Nat} {z : LW} (hk : k < 512) (hkL : 5 * k + 5 ≤ L) (hL : L ≤ 2560) (hI : Inv k z) : ∃ z1, D_law_6 fu L xs z (iI ((5 * k : Nat) : Int)) = some z1 ∧ Inv (k + 1) z1 := by
  have hb := BB_b hk
  have hJ := hI
  obtain ⟨⟨a, h, g, ho⟩, hsv, hh, ht, he, hl, hlb⟩ := hI
  unfold D_law_6 G_law_721
  simp only [ix_1 k, ix_2 k, ii_nc (5 * k + 1) (show 5 * k + 1 < 2147483648 by omega), ii_nc (5 * k + 2) (show 5 * k + 2 < 2147483648 by omega), ix_g hkL hL (show 1 < 5 by omega), ix_g hkL hL (show 2 < 5 by omega), if_false]
  obtain ⟨x1, ex1, hx1⟩ := ii_e32 (xs (5 * k + 1))
  obtain ⟨x2, ex2, hx2⟩ := zc_ex (xs (5 * k + 2))
  rw [ex1, ex2]
  have hr := mode_r (fu := fu) (by omega) h g ho (by omega) 0 hx1 hx2
  obtain ⟨hst2, ma2, eR, eS, hc⟩ := chg (fu := fu) (by omega) h g ho hb.2 hh (l_masd z) (l_mthr z) (by decide) (c_mode (fu := fu) (by omega) h g ho (by omega) 0 hx1 hx2)
  unfold F_L_setMode F_X10_setMode F_X11_setMode
  rcases hc with ⟨e, q, v, hm, w1, w2, w3, k1, k2, k3, k4⟩ | ⟨r, st2, mm2, a2, sp2, un2, mp2, mc2, w1, w2, w3, w4, k1, k2, k3, k4⟩
  · simp only [List.mem_cons, Prod.mk.injEq, List.not_mem_nil, or_false] at hm
    rcases hm with ⟨rfl, rfl⟩ | ⟨rfl, rfl⟩
    all_goals
      simp only [eR, eS, w1, w2, w3, zrng, zb_some, zc_ok, zc_err, thr_, joS, jdS, x10, x20, x21, x30, x31, x32, x40, x43, x50, x53, if_true, if_false, not_true_eq_false, not_false_eq_true]
      simp only [c0_, c1_, c2_, c3_, c4_, y10, y20, y30, y40, zb_some, zc_ok, zc_err, thr_, joS, jdS, x10, x20, x21, x30, x31, x32, x40, x43, x50, x53, if_true, if_false, not_true_eq_false, not_false_eq_true]
      exact ⟨_, rfl, inv_chg hk hJ (by omega) k1 k2 k3 k4⟩
  · have hr2 := hr _ _ w1
    simp only [eR, eS, w1, w2, w3, w4, zch_ch hr2, eq_true hr2, zb_some, zc_ok, zc_err, thr_, joS, jdS, x10, x20, x21, x30, x31, x32, x40, x43, x50, x53, if_true, if_false, not_true_eq_false, not_false_eq_true]
    exact ⟨_, rfl, inv_chg hk hJ (by omega) k1 k2 k3 k4⟩
theorem L_7 {fu : Nat} (hf : 20000 ≤ fu) {L : Nat} {xs : Nat → Int32} {k : Nat} {z : LW} (hk : k < 512) (hkL : 5 * k + 5 ≤ L) (hL : L ≤ 2560) (hI : Inv k z) : ∃ z1, D_law_7 fu L xs z (iI ((5 * k : Nat) : Int)) = some z1 ∧ Inv (k + 1) z1 := by
  have hb := BB_b hk
  have hJ := hI
  obtain ⟨⟨a, h, g, ho⟩, hsv, hh, ht, he, hl, hlb⟩ := hI
  unfold D_law_7 G_law_791
  simp only [ix_1 k, ii_nc (5 * k + 1) (show 5 * k + 1 < 2147483648 by omega), ix_g hkL hL (show 1 < 5 by omega), if_false]
  obtain ⟨x1, ex1, hx1⟩ := ii_e32 (xs (5 * k + 1))
  rw [ex1]
  obtain ⟨hst2, ma2, eR, eS, hc⟩ := chgT (fu := fu) (by omega) h g ho hb.2 hh (l_masd z) (l_mthr z) (by decide) (c_tog (fu := fu) (by omega) h g ho (by omega) 0 (l_mUp z) hx1)
  unfold F_L_roundTogether F_X10_roundTogether F_X11_roundTogether
  rcases hc with ⟨e, q, v, w, hm, w1, w2, w3, k1, k2, k3, k4⟩ | ⟨r, st2, mm2, a2, sp2, un2, mp2, mc2, w, w1, w2, w3, w4, k1, k2, k3, k4⟩
  · simp only [List.mem_cons, Prod.mk.injEq, List.not_mem_nil, or_false] at hm
    obtain ⟨rfl, rfl⟩ := hm
    simp only [eR, eS, w1, w2, w3, zb_some, zc_ok, zc_err, thr_, joS, jdS, x10, x20, x21, x30, x31, x32, x40, x43, x50, x53, if_true, if_false, not_true_eq_false, not_false_eq_true]
    simp only [c0_, c1_, c2_, c3_, c4_, y10, y20, y30, y40, zb_some, zc_ok, zc_err, thr_, joS, jdS, x10, x20, x21, x30, x31, x32, x40, x43, x50, x53, if_true, if_false, not_true_eq_false, not_false_eq_true]
    exact ⟨_, rfl, inv_chg hk hJ (by omega) k1 k2 k3 k4⟩
  · simp only [eR, eS, w1, w2, w3, w4, zb_some, zc_ok, zc_err, thr_, joS, jdS, x10, x20, x21, x30, x31, x32, x40, x43, x50, x53, if_true, if_false, not_true_eq_false, not_false_eq_true]
    exact ⟨_, rfl, inv_chg hk hJ (by omega) k1 k2 k3 k4⟩
