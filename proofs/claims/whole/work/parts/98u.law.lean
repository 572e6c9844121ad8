-- the queries, one by one
theorem L_9 {fu : Nat} (hf : 20000 ≤ fu) {L : Nat} {xs : Nat → Int32} {k : Nat} {z : LW} (hk : k < 512) (hkL : 5 * k + 5 ≤ L) (hL : L ≤ 2560) (hI : Inv k z) : ∃ z1, D_law_9 fu L xs z (iI ((5 * k : Nat) : Int)) = some z1 ∧ Inv (k + 1) z1 := by
  have hb := BB_b hk
  have hJ := hI
  obtain ⟨⟨a, h, g, ho⟩, hsv, hh, ht, he, hl, hlb⟩ := hI
  unfold D_law_9 G_law_860
  simp only [ix_1 k, ii_nc (5 * k + 1) (show 5 * k + 1 < 2147483648 by omega), ix_g hkL hL (show 1 < 5 by omega), if_false]
  obtain ⟨x1, ex1, hx1⟩ := ii_e32 (xs (5 * k + 1))
  rw [ex1]
  rcases q_numAt (fu := fu) (by omega) h g ho (l_mthr z) hx1 with ⟨r, w1, w2⟩ | ⟨e, q, v, hm, w1, w2⟩
  · unfold F_L_numberAt
    simp only [w1, w2, zb_some, zc_ok, zc_err, thr_, joS, jdS, x10, x20, x21, x30, x31, x32, x40, x43, x50, x53, if_true, if_false, not_true_eq_false, not_false_eq_true]
    simp only [c0_, c1_, c2_, c3_, c4_, y10, y20, y30, y40, zb_some, zc_ok, zc_err, thr_, joS, jdS, x10, x20, x21, x30, x31, x32, x40, x43, x50, x53, if_true, if_false, not_true_eq_false, not_false_eq_true]
    exact ⟨_, rfl, inv_mono hk hJ⟩
  · simp only [List.mem_cons, Prod.mk.injEq, List.not_mem_nil, or_false] at hm
    obtain ⟨rfl, rfl⟩ := hm
    all_goals
      unfold F_L_numberAt
      simp only [w1, w2, zb_some, zc_ok, zc_err, thr_, joS, jdS, x10, x20, x21, x30, x31, x32, x40, x43, x50, x53, if_true, if_false, not_true_eq_false, not_false_eq_true]
      simp only [c0_, c1_, c2_, c3_, c4_, y10, y20, y30, y40, zb_some, zc_ok, zc_err, thr_, joS, jdS, x10, x20, x21, x30, x31, x32, x40, x43, x50, x53, if_true, if_false, not_true_eq_false, not_false_eq_true]
      exact ⟨_, rfl, inv_mono hk hJ⟩
theorem L_10 {fu : Nat} (hf : 20000 ≤ fu) {L : Nat} {xs : Nat → Int32} {k : Nat} {z : LW} (hk : k < 512) (hkL : 5 * k + 5 ≤ L) (hL : L ≤ 2560) (hI : Inv k z) : ∃ z1, D_law_10 fu L xs z (iI ((5 * k : Nat) : Int)) = some z1 ∧ Inv (k + 1) z1 := by
  have hb := BB_b hk
  have hJ := hI
  obtain ⟨⟨a, h, g, ho⟩, hsv, hh, ht, he, hl, hlb⟩ := hI
  unfold D_law_10 G_law_916
  simp only [ix_1 k, ii_nc (5 * k + 1) (show 5 * k + 1 < 2147483648 by omega), ix_g hkL hL (show 1 < 5 by omega), if_false]
  obtain ⟨x1, ex1, hx1⟩ := ii_e32 (xs (5 * k + 1))
  rw [ex1]
  rcases q_value (fu := fu) (by omega) h g ho (l_mthr z) hx1 with ⟨r, w1, w2⟩ | ⟨e, q, v, hm, w1, w2⟩
  · unfold F_L_value
    simp only [w1, w2, zb_some, zc_ok, zc_err, thr_, joS, jdS, x10, x20, x21, x30, x31, x32, x40, x43, x50, x53, if_true, if_false, not_true_eq_false, not_false_eq_true]
    simp only [c0_, c1_, c2_, c3_, c4_, y10, y20, y30, y40, zb_some, zc_ok, zc_err, thr_, joS, jdS, x10, x20, x21, x30, x31, x32, x40, x43, x50, x53, if_true, if_false, not_true_eq_false, not_false_eq_true]
    exact ⟨_, rfl, inv_mono hk hJ⟩
  · simp only [List.mem_cons, Prod.mk.injEq, List.not_mem_nil, or_false] at hm
    obtain ⟨rfl, rfl⟩ := hm
    all_goals
      unfold F_L_value
      simp only [w1, w2, zb_some, zc_ok, zc_err, thr_, joS, jdS, x10, x20, x21, x30, x31, x32, x40, x43, x50, x53, if_true, if_false, not_true_eq_false, not_false_eq_true]
      simp only [c0_, c1_, c2_, c3_, c4_, y10, y20, y30, y40, zb_some, zc_ok, zc_err, thr_, joS, jdS, x10, x20, x21, x30, x31, x32, x40, x43, x50, x53, if_true, if_false, not_true_eq_false, not_false_eq_true]
      exact ⟨_, rfl, inv_mono hk hJ⟩
theorem L_11 {fu : Nat} (hf : 20000 ≤ fu) {L : Nat} {xs : Nat → Int32} {k : Nat} {z : LW} (hk : k < 512) (hkL : 5 * k + 5 ≤ L) (hL : L ≤ 2560) (hI : Inv k z) : ∃ z1, D_law_11 fu L xs z (iI ((5 * k : Nat) : Int)) = some z1 ∧ Inv (k + 1) z1 := by
  have hb := BB_b hk
  have hJ := hI
  obtain ⟨⟨a, h, g, ho⟩, hsv, hh, ht, he, hl, hlb⟩ := hI
  unfold D_law_11 G_law_971
  simp only [ix_1 k, ii_nc (5 * k + 1) (show 5 * k + 1 < 2147483648 by omega), ix_g hkL hL (show 1 < 5 by omega), if_false]
  obtain ⟨x1, ex1, hx1⟩ := ii_e32 (xs (5 * k + 1))
  rw [ex1]
  rcases q_scale (fu := fu) (by omega) h g ho (l_mthr z) hx1 with ⟨r, w1, w2⟩ | ⟨e, q, v, hm, w1, w2⟩
  · unfold F_L_scale
    simp only [w1, w2, zb_some, zc_ok, zc_err, thr_, joS, jdS, x10, x20, x21, x30, x31, x32, x40, x43, x50, x53, if_true, if_false, not_true_eq_false, not_false_eq_true]
    simp only [c0_, c1_, c2_, c3_, c4_, y10, y20, y30, y40, zb_some, zc_ok, zc_err, thr_, joS, jdS, x10, x20, x21, x30, x31, x32, x40, x43, x50, x53, if_true, if_false, not_true_eq_false, not_false_eq_true]
    exact ⟨_, rfl, inv_mono hk hJ⟩
  · simp only [List.mem_cons, Prod.mk.injEq, List.not_mem_nil, or_false] at hm
    obtain ⟨rfl, rfl⟩ := hm
    all_goals
      unfold F_L_scale
      simp only [w1, w2, zb_some, zc_ok, zc_err, thr_, joS, jdS, x10, x20, x21, x30, x31, x32, x40, x43, x50, x53, if_true, if_false, not_true_eq_false, not_false_eq_true]
      simp only [c0_, c1_, c2_, c3_, c4_, y10, y20, y30, y40, zb_some, zc_ok, zc_err, thr_, joS, jdS, x10, x20, x21, x30, x31, x32, x40, x43, x50, x53, if_true, if_false, not_true_eq_false, not_false_eq_true]
      exact ⟨_, rfl, inv_mono hk hJ⟩
theorem L_12 {fu : Nat} (hf : 20000 ≤ fu) {L : Nat} {xs : Nat → Int32} {k : Nat} {z : LW} (hk : k < 512) (hkL : 5 * k + 5 ≤ L) (hL : L ≤ 2560) (hI : Inv k z) : ∃ z1, D_law_12 fu L xs z (iI ((5 * k : Nat) : Int)) = some z1 ∧ Inv (k + 1) z1 := by
  have hb := BB_b hk
  have hJ := hI
  obtain ⟨⟨a, h, g, ho⟩, hsv, hh, ht, he, hl, hlb⟩ := hI
  unfold D_law_12 G_law_1027
  simp only [ix_1 k, ii_nc (5 * k + 1) (show 5 * k + 1 < 2147483648 by omega), ix_g hkL hL (show 1 < 5 by omega), if_false]
  obtain ⟨x1, ex1, hx1⟩ := ii_e32 (xs (5 * k + 1))
  rw [ex1]
  rcases q_mode (fu := fu) (by omega) h g ho (l_mthr z) hx1 with ⟨r, w1, w2⟩ | ⟨e, q, v, hm, w1, w2⟩
  · unfold F_L_mode
    simp only [w1, w2, zb_some, zc_ok, zc_err, thr_, joS, jdS, x10, x20, x21, x30, x31, x32, x40, x43, x50, x53, if_true, if_false, not_true_eq_false, not_false_eq_true]
    simp only [c0_, c1_, c2_, c3_, c4_, y10, y20, y30, y40, zb_some, zc_ok, zc_err, thr_, joS, jdS, x10, x20, x21, x30, x31, x32, x40, x43, x50, x53, if_true, if_false, not_true_eq_false, not_false_eq_true]
    exact ⟨_, rfl, inv_mono hk hJ⟩
  · simp only [List.mem_cons, Prod.mk.injEq, List.not_mem_nil, or_false] at hm
    obtain ⟨rfl, rfl⟩ := hm
    all_goals
      unfold F_L_mode
      simp only [w1, w2, zb_some, zc_ok, zc_err, thr_, joS, jdS, x10, x20, x21, x30, x31, x32, x40, x43, x50, x53, if_true, if_false, not_true_eq_false, not_false_eq_true]
      simp only [c0_, c1_, c2_, c3_, c4_, y10, y20, y30, y40, zb_some, zc_ok, zc_err, thr_, joS, jdS, x10, x20, x21, x30, x31, x32, x40, x43, x50, x53, if_true, if_false, not_true_eq_false, not_false_eq_true]
      exact ⟨_, rfl, inv_mono hk hJ⟩
theorem L_13 {fu : Nat} (hf : 20000 ≤ fu) {L : Nat} {xs : Nat → Int32} {k : Nat} {z : LW} (hk : k < 512) (hkL : 5 * k + 5 ≤ L) (hL : L ≤ 2560) (hI : Inv k z) : ∃ z1, D_law_13 fu L xs z (iI ((5 * k : Nat) : Int)) = some z1 ∧ Inv (k + 1) z1 := by
  have hb := BB_b hk
  have hJ := hI
  obtain ⟨⟨a, h, g, ho⟩, hsv, hh, ht, he, hl, hlb⟩ := hI
  unfold D_law_13 G_law_1083
  simp only [ix_1 k, ix_2 k, ii_nc (5 * k + 1) (show 5 * k + 1 < 2147483648 by omega), ii_nc (5 * k + 2) (show 5 * k + 2 < 2147483648 by omega), ix_g hkL hL (show 1 < 5 by omega), ix_g hkL hL (show 2 < 5 by omega), if_false]
  obtain ⟨x1, ex1, hx1⟩ := ii_e32 (xs (5 * k + 1))
  obtain ⟨x2, ex2, hx2⟩ := ii_e32 (xs (5 * k + 2))
  rw [ex1, ex2]
  rcases q_digit (fu := fu) (by omega) h g ho (l_mthr z) hx1 hx2 with ⟨r, w1, w2⟩ | ⟨e, q, v, hm, w1, w2⟩
  · unfold F_L_digit
    simp only [w1, w2, zb_some, zc_ok, zc_err, thr_, joS, jdS, x10, x20, x21, x30, x31, x32, x40, x43, x50, x53, if_true, if_false, not_true_eq_false, not_false_eq_true]
    simp only [c0_, c1_, c2_, c3_, c4_, y10, y20, y30, y40, zb_some, zc_ok, zc_err, thr_, joS, jdS, x10, x20, x21, x30, x31, x32, x40, x43, x50, x53, if_true, if_false, not_true_eq_false, not_false_eq_true]
    exact ⟨_, rfl, inv_mono hk hJ⟩
  · simp only [List.mem_cons, Prod.mk.injEq, List.not_mem_nil, or_false] at hm
    rcases hm with ⟨rfl, rfl⟩ | ⟨rfl, rfl⟩
    all_goals
      unfold F_L_digit
      simp only [w1, w2, zb_some, zc_ok, zc_err, thr_, joS, jdS, x10, x20, x21, x30, x31, x32, x40, x43, x50, x53, if_true, if_false, not_true_eq_false, not_false_eq_true]
      simp only [c0_, c1_, c2_, c3_, c4_, y10, y20, y30, y40, zb_some, zc_ok, zc_err, thr_, joS, jdS, x10, x20, x21, x30, x31, x32, x40, x43, x50, x53, if_true, if_false, not_true_eq_false, not_false_eq_true]
      exact ⟨_, rfl, inv_mono hk hJ⟩
theorem L_14 {fu : Nat} (hf : 20000 ≤ fu) {L : Nat} {xs : Nat → Int32} {k : Nat} {z : LW} (hk : k < 512) (hkL : 5 * k + 5 ≤ L) (hL : L ≤ 2560) (hI : Inv k z) : ∃ z1, D_law_14 fu L xs z (iI ((5 * k : Nat) : Int)) = some z1 ∧ Inv (k + 1) z1 := by
  have hb := BB_b hk
  have hJ := hI
  obtain ⟨⟨a, h, g, ho⟩, hsv, hh, ht, he, hl, hlb⟩ := hI
  unfold D_law_14 G_law_1151
  simp only [ix_1 k, ii_nc (5 * k + 1) (show 5 * k + 1 < 2147483648 by omega), ix_g hkL hL (show 1 < 5 by omega), if_false]
  obtain ⟨x1, ex1, hx1⟩ := ii_e32 (xs (5 * k + 1))
  rw [ex1]
  rcases q_dsum (fu := fu) (by omega) h g ho (l_mthr z) hx1 with ⟨r, w1, w2⟩ | ⟨e, q, v, hm, w1, w2⟩
  · unfold F_L_digitSum
    simp only [w1, w2, zb_some, zc_ok, zc_err, thr_, joS, jdS, x10, x20, x21, x30, x31, x32, x40, x43, x50, x53, if_true, if_false, not_true_eq_false, not_false_eq_true]
    simp only [c0_, c1_, c2_, c3_, c4_, y10, y20, y30, y40, zb_some, zc_ok, zc_err, thr_, joS, jdS, x10, x20, x21, x30, x31, x32, x40, x43, x50, x53, if_true, if_false, not_true_eq_false, not_false_eq_true]
    exact ⟨_, rfl, inv_mono hk hJ⟩
  · simp only [List.mem_cons, Prod.mk.injEq, List.not_mem_nil, or_false] at hm
    obtain ⟨rfl, rfl⟩ := hm
    all_goals
      unfold F_L_digitSum
      simp only [w1, w2, zb_some, zc_ok, zc_err, thr_, joS, jdS, x10, x20, x21, x30, x31, x32, x40, x43, x50, x53, if_true, if_false, not_true_eq_false, not_false_eq_true]
      simp only [c0_, c1_, c2_, c3_, c4_, y10, y20, y30, y40, zb_some, zc_ok, zc_err, thr_, joS, jdS, x10, x20, x21, x30, x31, x32, x40, x43, x50, x53, if_true, if_false, not_true_eq_false, not_false_eq_true]
      exact ⟨_, rfl, inv_mono hk hJ⟩
theorem L_15 {fu : Nat} (hf : 20000 ≤ fu) {L : Nat} {xs : Nat → Int32} {k : Nat} {z : LW} (hk : k < 512) (hkL : 5 * k + 5 ≤ L) (hL : L ≤ 2560) (hI : Inv k z) : ∃ z1, D_law_15 fu L xs z (iI ((5 * k : Nat) : Int)) = some z1 ∧ Inv (k + 1) z1 := by
  have hb := BB_b hk
  have hJ := hI
  obtain ⟨⟨a, h, g, ho⟩, hsv, hh, ht, he, hl, hlb⟩ := hI
  unfold D_law_15 G_law_1207
  simp only [ix_1 k, ii_nc (5 * k + 1) (show 5 * k + 1 < 2147483648 by omega), ix_g hkL hL (show 1 < 5 by omega), if_false]
  obtain ⟨x1, ex1, hx1⟩ := ii_e32 (xs (5 * k + 1))
  rw [ex1]
  rcases q_rank (fu := fu) (by omega) h g ho (l_mthr z) hx1 with ⟨r, w1, w2⟩ | ⟨e, q, v, hm, w1, w2⟩
  · unfold F_L_numberAtRank
    simp only [w1, w2, zb_some, zc_ok, zc_err, thr_, joS, jdS, x10, x20, x21, x30, x31, x32, x40, x43, x50, x53, if_true, if_false, not_true_eq_false, not_false_eq_true]
    simp only [c0_, c1_, c2_, c3_, c4_, y10, y20, y30, y40, zb_some, zc_ok, zc_err, thr_, joS, jdS, x10, x20, x21, x30, x31, x32, x40, x43, x50, x53, if_true, if_false, not_true_eq_false, not_false_eq_true]
    exact ⟨_, rfl, inv_mono hk hJ⟩
  · simp only [List.mem_cons, Prod.mk.injEq, List.not_mem_nil, or_false] at hm
    obtain ⟨rfl, rfl⟩ := hm
    all_goals
      unfold F_L_numberAtRank
      simp only [w1, w2, zb_some, zc_ok, zc_err, thr_, joS, jdS, x10, x20, x21, x30, x31, x32, x40, x43, x50, x53, if_true, if_false, not_true_eq_false, not_false_eq_true]
      simp only [c0_, c1_, c2_, c3_, c4_, y10, y20, y30, y40, zb_some, zc_ok, zc_err, thr_, joS, jdS, x10, x20, x21, x30, x31, x32, x40, x43, x50, x53, if_true, if_false, not_true_eq_false, not_false_eq_true]
      exact ⟨_, rfl, inv_mono hk hJ⟩
theorem L_16 {fu : Nat} (hf : 20000 ≤ fu) {L : Nat} {xs : Nat → Int32} {k : Nat} {z : LW} (hk : k < 512) (hkL : 5 * k + 5 ≤ L) (hL : L ≤ 2560) (hI : Inv k z) : ∃ z1, D_law_16 fu L xs z (iI ((5 * k : Nat) : Int)) = some z1 ∧ Inv (k + 1) z1 := by
  have hb := BB_b hk
  have hJ := hI
  obtain ⟨⟨a, h, g, ho⟩, hsv, hh, ht, he, hl, hlb⟩ := hI
  unfold D_law_16 G_law_1263
  simp only [ix_1 k, ix_2 k, ix_3 k, ii_nc (5 * k + 1) (show 5 * k + 1 < 2147483648 by omega), ii_nc (5 * k + 2) (show 5 * k + 2 < 2147483648 by omega), ii_nc (5 * k + 3) (show 5 * k + 3 < 2147483648 by omega), ix_g hkL hL (show 1 < 5 by omega), ix_g hkL hL (show 2 < 5 by omega), ix_g hkL hL (show 3 < 5 by omega), if_false]
  obtain ⟨x1, ex1, hx1⟩ := ii_e32 (xs (5 * k + 1))
  obtain ⟨x2, ex2, hx2⟩ := ii_e32 (xs (5 * k + 2))
  obtain ⟨x3, ex3, hx3⟩ := zc_ex (xs (5 * k + 3))
  rw [ex1, ex2, ex3]
  rcases q_rounded (fu := fu) (by omega) h g ho (l_mthr z) hx1 hx2 hx3 with ⟨r, w1, w2⟩ | ⟨e, q, v, hm, w1, w2⟩
  · unfold F_L_rounded
    simp only [w1, w2, zb_some, zc_ok, zc_err, thr_, joS, jdS, x10, x20, x21, x30, x31, x32, x40, x43, x50, x53, if_true, if_false, not_true_eq_false, not_false_eq_true]
    simp only [c0_, c1_, c2_, c3_, c4_, y10, y20, y30, y40, zb_some, zc_ok, zc_err, thr_, joS, jdS, x10, x20, x21, x30, x31, x32, x40, x43, x50, x53, if_true, if_false, not_true_eq_false, not_false_eq_true]
    exact ⟨_, rfl, inv_mono hk hJ⟩
  · simp only [List.mem_cons, Prod.mk.injEq, List.not_mem_nil, or_false] at hm
    rcases hm with ⟨rfl, rfl⟩ | ⟨rfl, rfl⟩
    all_goals
      unfold F_L_rounded
      simp only [w1, w2, zb_some, zc_ok, zc_err, thr_, joS, jdS, x10, x20, x21, x30, x31, x32, x40, x43, x50, x53, if_true, if_false, not_true_eq_false, not_false_eq_true]
      simp only [c0_, c1_, c2_, c3_, c4_, y10, y20, y30, y40, zb_some, zc_ok, zc_err, thr_, joS, jdS, x10, x20, x21, x30, x31, x32, x40, x43, x50, x53, if_true, if_false, not_true_eq_false, not_false_eq_true]
      exact ⟨_, rfl, inv_mono hk hJ⟩
theorem L_17 {fu : Nat} (hf : 20000 ≤ fu) {L : Nat} {xs : Nat → Int32} {k : Nat} {z : LW} (hk : k < 512) (hkL : 5 * k + 5 ≤ L) (hL : L ≤ 2560) (hI : Inv k z) : ∃ z1, D_law_17 fu L xs z (iI ((5 * k : Nat) : Int)) = some z1 ∧ Inv (k + 1) z1 := by
  have hb := BB_b hk
  have hJ := hI
  obtain ⟨⟨a, h, g, ho⟩, hsv, hh, ht, he, hl, hlb⟩ := hI
  unfold D_law_17 G_law_1344
  simp only [ix_1 k, ix_2 k, ix_3 k, ii_nc (5 * k + 1) (show 5 * k + 1 < 2147483648 by omega), ii_nc (5 * k + 2) (show 5 * k + 2 < 2147483648 by omega), ii_nc (5 * k + 3) (show 5 * k + 3 < 2147483648 by omega), ix_g hkL hL (show 1 < 5 by omega), ix_g hkL hL (show 2 < 5 by omega), ix_g hkL hL (show 3 < 5 by omega), if_false]
  obtain ⟨x1, ex1, hx1⟩ := ii_e32 (xs (5 * k + 1))
  obtain ⟨x2, ex2, hx2⟩ := ii_e32 (xs (5 * k + 2))
  obtain ⟨x3, ex3, hx3⟩ := ii_e32 (xs (5 * k + 3))
  rw [ex1, ex2, ex3]
  rcases q_part (fu := fu) (by omega) h g ho (l_mthr z) hx1 hx2 hx3 with ⟨r, w1, w2⟩ | ⟨e, q, v, hm, w1, w2⟩
  · unfold F_L_part
    simp only [w1, w2, zb_some, zc_ok, zc_err, thr_, joS, jdS, x10, x20, x21, x30, x31, x32, x40, x43, x50, x53, if_true, if_false, not_true_eq_false, not_false_eq_true]
    simp only [c0_, c1_, c2_, c3_, c4_, y10, y20, y30, y40, zb_some, zc_ok, zc_err, thr_, joS, jdS, x10, x20, x21, x30, x31, x32, x40, x43, x50, x53, if_true, if_false, not_true_eq_false, not_false_eq_true]
    exact ⟨_, rfl, inv_mono hk hJ⟩
  · simp only [List.mem_cons, Prod.mk.injEq, List.not_mem_nil, or_false] at hm
    rcases hm with ⟨rfl, rfl⟩ | ⟨rfl, rfl⟩ | ⟨rfl, rfl⟩
    all_goals
      unfold F_L_part
      simp only [w1, w2, zb_some, zc_ok, zc_err, thr_, joS, jdS, x10, x20, x21, x30, x31, x32, x40, x43, x50, x53, if_true, if_false, not_true_eq_false, not_false_eq_true]
      simp only [c0_, c1_, c2_, c3_, c4_, y10, y20, y30, y40, zb_some, zc_ok, zc_err, thr_, joS, jdS, x10, x20, x21, x30, x31, x32, x40, x43, x50, x53, if_true, if_false, not_true_eq_false, not_false_eq_true]
      exact ⟨_, rfl, inv_mono hk hJ⟩
theorem L_18 {fu : Nat} (hf : 20000 ≤ fu) {L : Nat} {xs : Nat → Int32} {k : Nat} {z : LW} (hk : k < 512) (hkL : 5 * k + 5 ≤ L) (hL : L ≤ 2560) (hI : Inv k z) : ∃ z1, D_law_18 fu L xs z (iI ((5 * k : Nat) : Int)) = some z1 ∧ Inv (k + 1) z1 := by
  have hb := BB_b hk
  have hJ := hI
  obtain ⟨⟨a, h, g, ho⟩, hsv, hh, ht, he, hl, hlb⟩ := hI
  unfold D_law_18 G_law_1423
  simp only [ix_1 k, ix_2 k, ix_3 k, ii_nc (5 * k + 1) (show 5 * k + 1 < 2147483648 by omega), ii_nc (5 * k + 2) (show 5 * k + 2 < 2147483648 by omega), ii_nc (5 * k + 3) (show 5 * k + 3 < 2147483648 by omega), ix_g hkL hL (show 1 < 5 by omega), ix_g hkL hL (show 2 < 5 by omega), ix_g hkL hL (show 3 < 5 by omega), if_false]
  obtain ⟨x1, ex1, hx1⟩ := ii_e32 (xs (5 * k + 1))
  obtain ⟨x2, ex2, hx2⟩ := ii_e32 (xs (5 * k + 2))
  obtain ⟨x3, ex3, hx3⟩ := ii_e32 (xs (5 * k + 3))
  rw [ex1, ex2, ex3]
  rcases q_car (fu := fu) (by omega) h g ho (l_mthr z) (l_mcar z) hx1 hx2 hx3 with ⟨r, w, w1, w2⟩ | ⟨e, q, v, w, hm, w1, w2⟩
  · unfold F_L_carries
    simp only [w1, w2, zb_some, zc_ok, zc_err, thr_, joS, jdS, x10, x20, x21, x30, x31, x32, x40, x43, x50, x53, if_true, if_false, not_true_eq_false, not_false_eq_true]
    simp only [c0_, c1_, c2_, c3_, c4_, y10, y20, y30, y40, zb_some, zc_ok, zc_err, thr_, joS, jdS, x10, x20, x21, x30, x31, x32, x40, x43, x50, x53, if_true, if_false, not_true_eq_false, not_false_eq_true]
    exact ⟨_, rfl, inv_mono hk hJ⟩
  · simp only [List.mem_cons, Prod.mk.injEq, List.not_mem_nil, or_false] at hm
    rcases hm with ⟨rfl, rfl⟩ | ⟨rfl, rfl⟩
    all_goals
      unfold F_L_carries
      simp only [w1, w2, zb_some, zc_ok, zc_err, thr_, joS, jdS, x10, x20, x21, x30, x31, x32, x40, x43, x50, x53, if_true, if_false, not_true_eq_false, not_false_eq_true]
      simp only [c0_, c1_, c2_, c3_, c4_, y10, y20, y30, y40, zb_some, zc_ok, zc_err, thr_, joS, jdS, x10, x20, x21, x30, x31, x32, x40, x43, x50, x53, if_true, if_false, not_true_eq_false, not_false_eq_true]
      exact ⟨_, rfl, inv_mono hk hJ⟩
theorem L_19 {fu : Nat} (hf : 20000 ≤ fu) {L : Nat} {xs : Nat → Int32} {k : Nat} {z : LW} (hk : k < 512) (hkL : 5 * k + 5 ≤ L) (hL : L ≤ 2560) (hI : Inv k z) : ∃ z1, D_law_19 fu L xs z (iI ((5 * k : Nat) : Int)) = some z1 ∧ Inv (k + 1) z1 := by
  have hb := BB_b hk
  have hJ := hI
  obtain ⟨⟨a, h, g, ho⟩, hsv, hh, ht, he, hl, hlb⟩ := hI
  unfold D_law_19 G_law_1503
  simp only [ix_1 k, ix_2 k, ix_3 k, ii_nc (5 * k + 1) (show 5 * k + 1 < 2147483648 by omega), ii_nc (5 * k + 2) (show 5 * k + 2 < 2147483648 by omega), ii_nc (5 * k + 3) (show 5 * k + 3 < 2147483648 by omega), ix_g hkL hL (show 1 < 5 by omega), ix_g hkL hL (show 2 < 5 by omega), ix_g hkL hL (show 3 < 5 by omega), if_false]
  obtain ⟨x1, ex1, hx1⟩ := ii_e32 (xs (5 * k + 1))
  obtain ⟨x2, ex2, hx2⟩ := ii_e32 (xs (5 * k + 2))
  obtain ⟨x3, ex3, hx3⟩ := ii_e32 (xs (5 * k + 3))
  rw [ex1, ex2, ex3]
  rcases q_cars (fu := fu) (by omega) h g ho (l_mthr z) (l_mcar z) hx1 hx2 hx3 with ⟨r, w, w1, w2⟩ | ⟨e, q, v, w, hm, w1, w2⟩
  · unfold F_L_carriesBySums
    simp only [w1, w2, zb_some, zc_ok, zc_err, thr_, joS, jdS, x10, x20, x21, x30, x31, x32, x40, x43, x50, x53, if_true, if_false, not_true_eq_false, not_false_eq_true]
    simp only [c0_, c1_, c2_, c3_, c4_, y10, y20, y30, y40, zb_some, zc_ok, zc_err, thr_, joS, jdS, x10, x20, x21, x30, x31, x32, x40, x43, x50, x53, if_true, if_false, not_true_eq_false, not_false_eq_true]
    exact ⟨_, rfl, inv_mono hk hJ⟩
  · simp only [List.mem_cons, Prod.mk.injEq, List.not_mem_nil, or_false] at hm
    rcases hm with ⟨rfl, rfl⟩ | ⟨rfl, rfl⟩
    all_goals
      unfold F_L_carriesBySums
      simp only [w1, w2, zb_some, zc_ok, zc_err, thr_, joS, jdS, x10, x20, x21, x30, x31, x32, x40, x43, x50, x53, if_true, if_false, not_true_eq_false, not_false_eq_true]
      simp only [c0_, c1_, c2_, c3_, c4_, y10, y20, y30, y40, zb_some, zc_ok, zc_err, thr_, joS, jdS, x10, x20, x21, x30, x31, x32, x40, x43, x50, x53, if_true, if_false, not_true_eq_false, not_false_eq_true]
      exact ⟨_, rfl, inv_mono hk hJ⟩
theorem L_20 {fu : Nat} (hf : 20000 ≤ fu) {L : Nat} {xs : Nat → Int32} {k : Nat} {z : LW} (hk : k < 512) (hkL : 5 * k + 5 ≤ L) (hL : L ≤ 2560) (hI : Inv k z) : ∃ z1, D_law_20 fu L xs z (iI ((5 * k : Nat) : Int)) = some z1 ∧ Inv (k + 1) z1 := by
  have hb := BB_b hk
  have hJ := hI
  obtain ⟨⟨a, h, g, ho⟩, hsv, hh, ht, he, hl, hlb⟩ := hI
  unfold D_law_20 G_law_1583
  simp only [ix_1 k, ix_2 k, ix_3 k, ii_nc (5 * k + 1) (show 5 * k + 1 < 2147483648 by omega), ii_nc (5 * k + 2) (show 5 * k + 2 < 2147483648 by omega), ii_nc (5 * k + 3) (show 5 * k + 3 < 2147483648 by omega), ix_g hkL hL (show 1 < 5 by omega), ix_g hkL hL (show 2 < 5 by omega), ix_g hkL hL (show 3 < 5 by omega), if_false]
  obtain ⟨x1, ex1, hx1⟩ := ii_e32 (xs (5 * k + 1))
  obtain ⟨x2, ex2, hx2⟩ := ii_e32 (xs (5 * k + 2))
  obtain ⟨x3, ex3, hx3⟩ := ii_e32 (xs (5 * k + 3))
  rw [ex1, ex2, ex3]
  rcases q_long (fu := fu) (by omega) h g ho (l_mthr z) (l_mcar z) hx1 hx2 hx3 with ⟨r, w, w1, w2⟩ | ⟨e, q, v, w, hm, w1, w2⟩
  · unfold F_L_longestCarry
    simp only [w1, w2, zb_some, zc_ok, zc_err, thr_, joS, jdS, x10, x20, x21, x30, x31, x32, x40, x43, x50, x53, if_true, if_false, not_true_eq_false, not_false_eq_true]
    simp only [c0_, c1_, c2_, c3_, c4_, y10, y20, y30, y40, zb_some, zc_ok, zc_err, thr_, joS, jdS, x10, x20, x21, x30, x31, x32, x40, x43, x50, x53, if_true, if_false, not_true_eq_false, not_false_eq_true]
    exact ⟨_, rfl, inv_mono hk hJ⟩
  · simp only [List.mem_cons, Prod.mk.injEq, List.not_mem_nil, or_false] at hm
    rcases hm with ⟨rfl, rfl⟩ | ⟨rfl, rfl⟩
    all_goals
      unfold F_L_longestCarry
      simp only [w1, w2, zb_some, zc_ok, zc_err, thr_, joS, jdS, x10, x20, x21, x30, x31, x32, x40, x43, x50, x53, if_true, if_false, not_true_eq_false, not_false_eq_true]
      simp only [c0_, c1_, c2_, c3_, c4_, y10, y20, y30, y40, zb_some, zc_ok, zc_err, thr_, joS, jdS, x10, x20, x21, x30, x31, x32, x40, x43, x50, x53, if_true, if_false, not_true_eq_false, not_false_eq_true]
      exact ⟨_, rfl, inv_mono hk hJ⟩
theorem L_21 {fu : Nat} (hf : 20000 ≤ fu) {L : Nat} {xs : Nat → Int32} {k : Nat} {z : LW} (hk : k < 512) (hkL : 5 * k + 5 ≤ L) (hL : L ≤ 2560) (hI : Inv k z) : ∃ z1, D_law_21 fu L xs z (iI ((5 * k : Nat) : Int)) = some z1 ∧ Inv (k + 1) z1 := by
  have hb := BB_b hk
  have hJ := hI
  obtain ⟨⟨a, h, g, ho⟩, hsv, hh, ht, he, hl, hlb⟩ := hI
  unfold D_law_21 G_law_1663
  simp only [ix_1 k, ii_nc (5 * k + 1) (show 5 * k + 1 < 2147483648 by omega), ix_g hkL hL (show 1 < 5 by omega), if_false]
  obtain ⟨x1, ex1, hx1⟩ := ii_e32 (xs (5 * k + 1))
  rw [ex1]
  rcases q_terr (fu := fu) (by omega) h g ho (l_mthr z) (l_mUp z) hx1 with ⟨r, w, w1, w2⟩ | ⟨e, q, v, w, hm, w1, w2⟩
  · unfold F_L_togetherError
    simp only [w1, w2, zb_some, zc_ok, zc_err, thr_, joS, jdS, x10, x20, x21, x30, x31, x32, x40, x43, x50, x53, if_true, if_false, not_true_eq_false, not_false_eq_true]
    simp only [c0_, c1_, c2_, c3_, c4_, y10, y20, y30, y40, zb_some, zc_ok, zc_err, thr_, joS, jdS, x10, x20, x21, x30, x31, x32, x40, x43, x50, x53, if_true, if_false, not_true_eq_false, not_false_eq_true]
    exact ⟨_, rfl, inv_mono hk hJ⟩
  · simp only [List.mem_cons, Prod.mk.injEq, List.not_mem_nil, or_false] at hm
    obtain ⟨rfl, rfl⟩ := hm
    all_goals
      unfold F_L_togetherError
      simp only [w1, w2, zb_some, zc_ok, zc_err, thr_, joS, jdS, x10, x20, x21, x30, x31, x32, x40, x43, x50, x53, if_true, if_false, not_true_eq_false, not_false_eq_true]
      simp only [c0_, c1_, c2_, c3_, c4_, y10, y20, y30, y40, zb_some, zc_ok, zc_err, thr_, joS, jdS, x10, x20, x21, x30, x31, x32, x40, x43, x50, x53, if_true, if_false, not_true_eq_false, not_false_eq_true]
      exact ⟨_, rfl, inv_mono hk hJ⟩
theorem L_22 {fu : Nat} (hf : 20000 ≤ fu) {L : Nat} {xs : Nat → Int32} {k : Nat} {z : LW} (hk : k < 512) (hkL : 5 * k + 5 ≤ L) (hL : L ≤ 2560) (hI : Inv k z) : ∃ z1, D_law_22 fu L xs z (iI ((5 * k : Nat) : Int)) = some z1 ∧ Inv (k + 1) z1 := by
  have hb := BB_b hk
  have hJ := hI
  obtain ⟨⟨a, h, g, ho⟩, hsv, hh, ht, he, hl, hlb⟩ := hI
  unfold D_law_22 G_law_1718
  simp only [ix_1 k, ii_nc (5 * k + 1) (show 5 * k + 1 < 2147483648 by omega), ix_g hkL hL (show 1 < 5 by omega), if_false]
  obtain ⟨x1, ex1, hx1⟩ := ii_e32 (xs (5 * k + 1))
  rw [ex1]
  rcases q_tset (fu := fu) (by omega) h g ho (l_mthr z) (by omega) (l_mUp z) hx1 with ⟨r, w, w1, w2⟩ | ⟨e, q, v, w, hm, w1, w2⟩
  · unfold F_L_togetherErrorBySets
    simp only [w1, w2, zb_some, zc_ok, zc_err, thr_, joS, jdS, x10, x20, x21, x30, x31, x32, x40, x43, x50, x53, if_true, if_false, not_true_eq_false, not_false_eq_true]
    simp only [c0_, c1_, c2_, c3_, c4_, y10, y20, y30, y40, zb_some, zc_ok, zc_err, thr_, joS, jdS, x10, x20, x21, x30, x31, x32, x40, x43, x50, x53, if_true, if_false, not_true_eq_false, not_false_eq_true]
    exact ⟨_, rfl, inv_mono hk hJ⟩
  · simp only [List.mem_cons, Prod.mk.injEq, List.not_mem_nil, or_false] at hm
    obtain ⟨rfl, rfl⟩ := hm
    all_goals
      unfold F_L_togetherErrorBySets
      simp only [w1, w2, zb_some, zc_ok, zc_err, thr_, joS, jdS, x10, x20, x21, x30, x31, x32, x40, x43, x50, x53, if_true, if_false, not_true_eq_false, not_false_eq_true]
      simp only [c0_, c1_, c2_, c3_, c4_, y10, y20, y30, y40, zb_some, zc_ok, zc_err, thr_, joS, jdS, x10, x20, x21, x30, x31, x32, x40, x43, x50, x53, if_true, if_false, not_true_eq_false, not_false_eq_true]
      exact ⟨_, rfl, inv_mono hk hJ⟩
theorem L_24 {fu : Nat} (hf : 20000 ≤ fu) {L : Nat} {xs : Nat → Int32} {k : Nat} {z : LW} (hk : k < 512) (hkL : 5 * k + 5 ≤ L) (hL : L ≤ 2560) (hI : Inv k z) : ∃ z1, D_law_24 fu L xs z (iI ((5 * k : Nat) : Int)) = some z1 ∧ Inv (k + 1) z1 := by
  have hb := BB_b hk
  have hJ := hI
  obtain ⟨⟨a, h, g, ho⟩, hsv, hh, ht, he, hl, hlb⟩ := hI
  unfold D_law_24 G_law_1848
  simp only [ix_1 k, ix_2 k, ix_3 k, ii_nc (5 * k + 1) (show 5 * k + 1 < 2147483648 by omega), ii_nc (5 * k + 2) (show 5 * k + 2 < 2147483648 by omega), ii_nc (5 * k + 3) (show 5 * k + 3 < 2147483648 by omega), ix_g hkL hL (show 1 < 5 by omega), ix_g hkL hL (show 2 < 5 by omega), ix_g hkL hL (show 3 < 5 by omega), if_false]
  obtain ⟨x1, ex1, hx1⟩ := ii_e32 (xs (5 * k + 1))
  obtain ⟨x2, ex2, hx2⟩ := ii_e32 (xs (5 * k + 2))
  obtain ⟨x3, ex3, hx3⟩ := ii_e32 (xs (5 * k + 3))
  rw [ex1, ex2, ex3]
  rcases q_qdig (fu := fu) (by omega) (l_mthr z) hx1 hx2 hx3 with ⟨r, w1, w2⟩ | ⟨e, q, v, hm, w1, w2⟩
  · unfold F_L_quotientDigit
    simp only [w1, w2, zb_some, zc_ok, zc_err, thr_, joS, jdS, x10, x20, x21, x30, x31, x32, x40, x43, x50, x53, if_true, if_false, not_true_eq_false, not_false_eq_true]
    simp only [c0_, c1_, c2_, c3_, c4_, y10, y20, y30, y40, zb_some, zc_ok, zc_err, thr_, joS, jdS, x10, x20, x21, x30, x31, x32, x40, x43, x50, x53, if_true, if_false, not_true_eq_false, not_false_eq_true]
    exact ⟨_, rfl, inv_mono hk hJ⟩
  · simp only [List.mem_cons, Prod.mk.injEq, List.not_mem_nil, or_false] at hm
    rcases hm with ⟨rfl, rfl⟩ | ⟨rfl, rfl⟩
    all_goals
      unfold F_L_quotientDigit
      simp only [w1, w2, zb_some, zc_ok, zc_err, thr_, joS, jdS, x10, x20, x21, x30, x31, x32, x40, x43, x50, x53, if_true, if_false, not_true_eq_false, not_false_eq_true]
      simp only [c0_, c1_, c2_, c3_, c4_, y10, y20, y30, y40, zb_some, zc_ok, zc_err, thr_, joS, jdS, x10, x20, x21, x30, x31, x32, x40, x43, x50, x53, if_true, if_false, not_true_eq_false, not_false_eq_true]
      exact ⟨_, rfl, inv_mono hk hJ⟩
theorem L_25 {fu : Nat} (hf : 20000 ≤ fu) {L : Nat} {xs : Nat → Int32} {k : Nat} {z : LW} (hk : k < 512) (hkL : 5 * k + 5 ≤ L) (hL : L ≤ 2560) (hI : Inv k z) : ∃ z1, D_law_25 fu L xs z (iI ((5 * k : Nat) : Int)) = some z1 ∧ Inv (k + 1) z1 := by
  have hb := BB_b hk
  have hJ := hI
  obtain ⟨⟨a, h, g, ho⟩, hsv, hh, ht, he, hl, hlb⟩ := hI
  unfold D_law_25 G_law_1928
  simp only [ix_1 k, ix_2 k, ii_nc (5 * k + 1) (show 5 * k + 1 < 2147483648 by omega), ii_nc (5 * k + 2) (show 5 * k + 2 < 2147483648 by omega), ix_g hkL hL (show 1 < 5 by omega), ix_g hkL hL (show 2 < 5 by omega), if_false]
  obtain ⟨x1, ex1, hx1⟩ := ii_e32 (xs (5 * k + 1))
  obtain ⟨x2, ex2, hx2⟩ := ii_e32 (xs (5 * k + 2))
  rw [ex1, ex2]
  rcases q_pre (fu := fu) (by omega) (l_mthr z) (l_seen z) (l_dbef z) (l_drec z) (l_mcam z) (l_mahd z) (l_magn z) hx1 hx2 with ⟨r, s, w, w1, w2⟩ | ⟨s, q, w, w1, w2⟩
  · unfold F_L_preperiod
    simp only [w1, w2, zb_some, zc_ok, zc_err, thr_, joS, jdS, x10, x20, x21, x30, x31, x32, x40, x43, x50, x53, if_true, if_false, not_true_eq_false, not_false_eq_true]
    simp only [c0_, c1_, c2_, c3_, c4_, y10, y20, y30, y40, zb_some, zc_ok, zc_err, thr_, joS, jdS, x10, x20, x21, x30, x31, x32, x40, x43, x50, x53, if_true, if_false, not_true_eq_false, not_false_eq_true]
    exact ⟨_, rfl, inv_mono hk hJ⟩
  · unfold F_L_preperiod
    simp only [w1, w2, zb_some, zc_ok, zc_err, thr_, joS, jdS, x10, x20, x21, x30, x31, x32, x40, x43, x50, x53, if_true, if_false, not_true_eq_false, not_false_eq_true]
    simp only [c0_, c1_, c2_, c3_, c4_, y10, y20, y30, y40, zb_some, zc_ok, zc_err, thr_, joS, jdS, x10, x20, x21, x30, x31, x32, x40, x43, x50, x53, if_true, if_false, not_true_eq_false, not_false_eq_true]
    exact ⟨_, rfl, inv_mono hk hJ⟩
theorem L_26 {fu : Nat} (hf : 20000 ≤ fu) {L : Nat} {xs : Nat → Int32} {k : Nat} {z : LW} (hk : k < 512) (hkL : 5 * k + 5 ≤ L) (hL : L ≤ 2560) (hI : Inv k z) : ∃ z1, D_law_26 fu L xs z (iI ((5 * k : Nat) : Int)) = some z1 ∧ Inv (k + 1) z1 := by
  have hb := BB_b hk
  have hJ := hI
  obtain ⟨⟨a, h, g, ho⟩, hsv, hh, ht, he, hl, hlb⟩ := hI
  unfold D_law_26 G_law_1996
  simp only [ix_1 k, ix_2 k, ii_nc (5 * k + 1) (show 5 * k + 1 < 2147483648 by omega), ii_nc (5 * k + 2) (show 5 * k + 2 < 2147483648 by omega), ix_g hkL hL (show 1 < 5 by omega), ix_g hkL hL (show 2 < 5 by omega), if_false]
  obtain ⟨x1, ex1, hx1⟩ := ii_e32 (xs (5 * k + 1))
  obtain ⟨x2, ex2, hx2⟩ := ii_e32 (xs (5 * k + 2))
  rw [ex1, ex2]
  rcases q_per (fu := fu) (by omega) (l_mthr z) (l_seen z) (l_dbef z) (l_drec z) (l_mcam z) (l_mahd z) (l_magn z) hx1 hx2 with ⟨r, s, w, w1, w2⟩ | ⟨s, q, w, w1, w2⟩
  · unfold F_L_period
    simp only [w1, w2, zb_some, zc_ok, zc_err, thr_, joS, jdS, x10, x20, x21, x30, x31, x32, x40, x43, x50, x53, if_true, if_false, not_true_eq_false, not_false_eq_true]
    simp only [c0_, c1_, c2_, c3_, c4_, y10, y20, y30, y40, zb_some, zc_ok, zc_err, thr_, joS, jdS, x10, x20, x21, x30, x31, x32, x40, x43, x50, x53, if_true, if_false, not_true_eq_false, not_false_eq_true]
    exact ⟨_, rfl, inv_mono hk hJ⟩
  · unfold F_L_period
    simp only [w1, w2, zb_some, zc_ok, zc_err, thr_, joS, jdS, x10, x20, x21, x30, x31, x32, x40, x43, x50, x53, if_true, if_false, not_true_eq_false, not_false_eq_true]
    simp only [c0_, c1_, c2_, c3_, c4_, y10, y20, y30, y40, zb_some, zc_ok, zc_err, thr_, joS, jdS, x10, x20, x21, x30, x31, x32, x40, x43, x50, x53, if_true, if_false, not_true_eq_false, not_false_eq_true]
    exact ⟨_, rfl, inv_mono hk hJ⟩
theorem L_27 {fu : Nat} (hf : 20000 ≤ fu) {L : Nat} {xs : Nat → Int32} {k : Nat} {z : LW} (hk : k < 512) (hkL : 5 * k + 5 ≤ L) (hL : L ≤ 2560) (hI : Inv k z) : ∃ z1, D_law_27 fu L xs z (iI ((5 * k : Nat) : Int)) = some z1 ∧ Inv (k + 1) z1 := by
  have hb := BB_b hk
  have hJ := hI
  obtain ⟨⟨a, h, g, ho⟩, hsv, hh, ht, he, hl, hlb⟩ := hI
  unfold D_law_27 G_law_2064
  simp only [ix_1 k, ix_2 k, ii_nc (5 * k + 1) (show 5 * k + 1 < 2147483648 by omega), ii_nc (5 * k + 2) (show 5 * k + 2 < 2147483648 by omega), ix_g hkL hL (show 1 < 5 by omega), ix_g hkL hL (show 2 < 5 by omega), if_false]
  obtain ⟨x1, ex1, hx1⟩ := ii_e32 (xs (5 * k + 1))
  obtain ⟨x2, ex2, hx2⟩ := ii_e32 (xs (5 * k + 2))
  rw [ex1, ex2]
  rcases q_pow (fu := fu) (by omega) (l_mthr z) (l_mcam z) (l_mahd z) (l_magn z) hx1 hx2 with ⟨r, w, w1, w2⟩ | ⟨q, w, w1, w2⟩
  · unfold F_L_periodByPowers
    simp only [w1, w2, zb_some, zc_ok, zc_err, thr_, joS, jdS, x10, x20, x21, x30, x31, x32, x40, x43, x50, x53, if_true, if_false, not_true_eq_false, not_false_eq_true]
    simp only [c0_, c1_, c2_, c3_, c4_, y10, y20, y30, y40, zb_some, zc_ok, zc_err, thr_, joS, jdS, x10, x20, x21, x30, x31, x32, x40, x43, x50, x53, if_true, if_false, not_true_eq_false, not_false_eq_true]
    exact ⟨_, rfl, inv_mono hk hJ⟩
  · unfold F_L_periodByPowers
    simp only [w1, w2, zb_some, zc_ok, zc_err, thr_, joS, jdS, x10, x20, x21, x30, x31, x32, x40, x43, x50, x53, if_true, if_false, not_true_eq_false, not_false_eq_true]
    simp only [c0_, c1_, c2_, c3_, c4_, y10, y20, y30, y40, zb_some, zc_ok, zc_err, thr_, joS, jdS, x10, x20, x21, x30, x31, x32, x40, x43, x50, x53, if_true, if_false, not_true_eq_false, not_false_eq_true]
    exact ⟨_, rfl, inv_mono hk hJ⟩
theorem L_23 {fu : Nat} (hf : 20000 ≤ fu) {L : Nat} {xs : Nat → Int32} {k : Nat} {z : LW} (hk : k < 512) (hkL : 5 * k + 5 ≤ L) (hL : L ≤ 2560) (hI : Inv k z) : ∃ z1, D_law_23 fu L xs z (iI ((5 * k : Nat) : Int)) = some z1 ∧ Inv (k + 1) z1 := by
  have hb := BB_b hk
  have hJ := hI
  obtain ⟨⟨a, h, g, ho⟩, hsv, hh, ht, he, hl, hlb⟩ := hI
  unfold D_law_23 G_law_1773
  simp only [ix_1 k, ix_2 k, ii_nc (5 * k + 1) (show 5 * k + 1 < 2147483648 by omega), ii_nc (5 * k + 2) (show 5 * k + 2 < 2147483648 by omega), ix_g hkL hL (show 1 < 5 by omega), ix_g hkL hL (show 2 < 5 by omega), if_false]
  obtain ⟨x1, ex1, hx1⟩ := ii_e32 (xs (5 * k + 1))
  obtain ⟨x2, ex2, hx2⟩ := ii_e32 (xs (5 * k + 2))
  rw [ex1, ex2]
  rcases q_goes (fu := fu) (by omega) h g ho (l_mthr z) (l_mUp z) hx1 hx2 with ⟨r, w, w1, w2⟩ | ⟨e, q, v, w, hm, w1, w2⟩
  · unfold F_L_goesUp
    by_cases hr : r = 0
    · subst hr
      simp only [w1, w2, zb_some, zc_ok, zc_err, thr_, joS, jdS, x10, x20, x21, x30, x31, x32, x40, x43, x50, x53, if_true, if_false, not_true_eq_false, not_false_eq_true]
      simp only [c0_, c1_, c2_, c3_, c4_, y10, y20, y30, y40, zb_some, zc_ok, zc_err, thr_, joS, jdS, x10, x20, x21, x30, x31, x32, x40, x43, x50, x53, if_true, if_false, not_true_eq_false, not_false_eq_true]
      exact ⟨_, rfl, inv_mono hk hJ⟩
    · simp only [w1, w2, eq_false hr, zb_some, zc_ok, zc_err, thr_, joS, jdS, x10, x20, x21, x30, x31, x32, x40, x43, x50, x53, if_true, if_false, not_true_eq_false, not_false_eq_true]
      simp only [c0_, c1_, c2_, c3_, c4_, y10, y20, y30, y40, eq_false hr, zb_some, zc_ok, zc_err, thr_, joS, jdS, x10, x20, x21, x30, x31, x32, x40, x43, x50, x53, if_true, if_false, not_true_eq_false, not_false_eq_true]
      exact ⟨_, rfl, inv_mono hk hJ⟩
  · simp only [List.mem_cons, Prod.mk.injEq, List.not_mem_nil, or_false] at hm
    rcases hm with ⟨rfl, rfl⟩ | ⟨rfl, rfl⟩
    all_goals
      unfold F_L_goesUp
      simp only [w1, w2, zb_some, zc_ok, zc_err, thr_, joS, jdS, x10, x20, x21, x30, x31, x32, x40, x43, x50, x53, if_true, if_false, not_true_eq_false, not_false_eq_true]
      simp only [c0_, c1_, c2_, c3_, c4_, y10, y20, y30, y40, zb_some, zc_ok, zc_err, thr_, joS, jdS, x10, x20, x21, x30, x31, x32, x40, x43, x50, x53, if_true, if_false, not_true_eq_false, not_false_eq_true]
      exact ⟨_, rfl, inv_mono hk hJ⟩
theorem L_8 {fu : Nat} (hf : 20000 ≤ fu) {L : Nat} {xs : Nat → Int32} {k : Nat} {z : LW} (hk : k < 512) (hkL : 5 * k + 5 ≤ L) (hL : L ≤ 2560) (hI : Inv k z) : ∃ z1, D_law_8 fu L xs z (iI ((5 * k : Nat) : Int)) = some z1 ∧ Inv (k + 1) z1 := by
  have hb := BB_b hk
  have hJ := hI
  obtain ⟨⟨a, h, g, ho⟩, hsv, hh, ht, he, hl, hlb⟩ := hI
  unfold D_law_8 G_law_847
  unfold F_X10_count F_X11_count
  rw [h.1, f11_many g]
  simp only [zb_some, zc_ok, zc_err, thr_, joS, jdS, x10, x20, x21, x30, x31, x32, x40, x43, x50, x53, if_true, if_false, not_true_eq_false, not_false_eq_true]
  exact ⟨_, rfl, inv_mono hk hJ⟩
theorem L_28 {fu : Nat} (hf : 20000 ≤ fu) {L : Nat} {xs : Nat → Int32} {k : Nat} {z : LW} (hk : k < 512) (hkL : 5 * k + 5 ≤ L) (hL : L ≤ 2560) (hI : Inv k z) : ∃ z1, D_law_28 fu L xs z (iI ((5 * k : Nat) : Int)) = some z1 ∧ Inv (k + 1) z1 := by
  have hb := BB_b hk
  have hJ := hI
  obtain ⟨⟨a, h, g, ho⟩, hsv, hh, ht, he, hl, hlb⟩ := hI
  unfold D_law_28 G_law_2132
  unfold F_X10_total F_X11_total
  rw [f8_sum (by omega) h ho.1, f11_sum (by omega) g ho.1]
  simp only [zb_some, zc_ok, zc_err, thr_, joS, jdS, x10, x20, x21, x30, x31, x32, x40, x43, x50, x53, if_true, if_false, not_true_eq_false, not_false_eq_true]
  exact ⟨_, rfl, inv_mono hk hJ⟩
theorem L_29 {fu : Nat} (hf : 20000 ≤ fu) {L : Nat} {xs : Nat → Int32} {k : Nat} {z : LW} (hk : k < 512) (hkL : 5 * k + 5 ≤ L) (hL : L ≤ 2560) (hI : Inv k z) : ∃ z1, D_law_29 fu L xs z (iI ((5 * k : Nat) : Int)) = some z1 ∧ Inv (k + 1) z1 := by
  have hb := BB_b hk
  have hJ := hI
  obtain ⟨⟨a, h, g, ho⟩, hsv, hh, ht, he, hl, hlb⟩ := hI
  unfold D_law_29 G_law_2146
  unfold F_X10_totalByAccounts F_X11_totalByAccounts F_X11_total
  rw [f8_acc h ho, f11_sum (by omega) g ho.1]
  simp only [zb_some, zc_ok, zc_err, thr_, joS, jdS, x10, x20, x21, x30, x31, x32, x40, x43, x50, x53, if_true, if_false, not_true_eq_false, not_false_eq_true]
  exact ⟨_, rfl, inv_mono hk hJ⟩
theorem L_30 {fu : Nat} (hf : 20000 ≤ fu) {L : Nat} {xs : Nat → Int32} {k : Nat} {z : LW} (hk : k < 512) (hkL : 5 * k + 5 ≤ L) (hL : L ≤ 2560) (hI : Inv k z) : ∃ z1, D_law_30 fu L xs z (iI ((5 * k : Nat) : Int)) = some z1 ∧ Inv (k + 1) z1 := by
  have hb := BB_b hk
  have hJ := hI
  obtain ⟨⟨a, h, g, ho⟩, hsv, hh, ht, he, hl, hlb⟩ := hI
  unfold D_law_30 G_law_2160
  unfold F_X10_escapes F_X11_escapes
  rw [h.2.2.1, show Int32.toNatClampNeg 2 = 2 from rfl, g.2.2.1, ll_toI]
  simp only [zb_some, zc_ok, zc_err, thr_, joS, jdS, x10, x20, x21, x30, x31, x32, x40, x43, x50, x53, if_true, if_false, not_true_eq_false, not_false_eq_true]
  exact ⟨_, rfl, inv_mono hk hJ⟩
theorem L_31 {fu : Nat} (hf : 20000 ≤ fu) {L : Nat} {xs : Nat → Int32} {k : Nat} {z : LW} (hk : k < 512) (hkL : 5 * k + 5 ≤ L) (hL : L ≤ 2560) (hI : Inv k z) : ∃ z1, D_law_31 fu L xs z (iI ((5 * k : Nat) : Int)) = some z1 ∧ Inv (k + 1) z1 := by
  have hb := BB_b hk
  have hJ := hI
  obtain ⟨⟨a, h, g, ho⟩, hsv, hh, ht, he, hl, hlb⟩ := hI
  unfold D_law_31 G_law_2173
  unfold F_X10_crumbs F_X11_crumbs
  rw [h.2.2.2.1, show Int32.toNatClampNeg 3 = 3 from rfl, g.2.2.2.1]
  simp only [zb_some, zc_ok, zc_err, thr_, joS, jdS, x10, x20, x21, x30, x31, x32, x40, x43, x50, x53, if_true, if_false, not_true_eq_false, not_false_eq_true]
  exact ⟨_, rfl, inv_mono hk hJ⟩
theorem L_32 {fu : Nat} (hf : 20000 ≤ fu) {L : Nat} {xs : Nat → Int32} {k : Nat} {z : LW} (hk : k < 512) (hkL : 5 * k + 5 ≤ L) (hL : L ≤ 2560) (hI : Inv k z) : ∃ z1, D_law_32 fu L xs z (iI ((5 * k : Nat) : Int)) = some z1 ∧ Inv (k + 1) z1 := by
  have hb := BB_b hk
  have hJ := hI
  obtain ⟨⟨a, h, g, ho⟩, hsv, hh, ht, he, hl, hlb⟩ := hI
  unfold D_law_32 G_law_2187
  unfold F_L_meanValue
  rcases q_mean (fu := fu) (by omega) h g ho (l_mthr z) with ⟨r, w1, w2, hr⟩ | ⟨w1, q, w2⟩
  · simp only [w1, w2, dc_self hr, zb_some, zc_ok, zc_err, thr_, joS, jdS, x10, x20, x21, x30, x31, x32, x40, x43, x50, x53, if_true, if_false, not_true_eq_false, not_false_eq_true]
    exact ⟨_, rfl, inv_mono hk hJ⟩
  · simp only [w1, w2, c0_, c1_, c2_, c3_, c4_, y10, y20, y30, y40, zb_some, zc_ok, zc_err, thr_, joS, jdS, x10, x20, x21, x30, x31, x32, x40, x43, x50, x53, if_true, if_false, not_true_eq_false, not_false_eq_true]
    exact ⟨_, rfl, inv_mono hk hJ⟩
theorem L_33 {fu : Nat} (hf : 20000 ≤ fu) {L : Nat} {xs : Nat → Int32} {k : Nat} {z : LW} (hk : k < 512) (hkL : 5 * k + 5 ≤ L) (hL : L ≤ 2560) (hI : Inv k z) : ∃ z1, D_law_33 fu L xs z (iI ((5 * k : Nat) : Int)) = some z1 ∧ Inv (k + 1) z1 := by
  have hb := BB_b hk
  have hJ := hI
  obtain ⟨⟨a, h, g, ho⟩, hsv, hh, ht, he, hl, hlb⟩ := hI
  unfold D_law_33 G_law_2252
  simp only [ix_1 k, ii_nc (5 * k + 1) (show 5 * k + 1 < 2147483648 by omega), ix_g hkL hL (show 1 < 5 by omega), if_false]
  obtain ⟨x1, ex1, hx1⟩ := ii_e32 (xs (5 * k + 1))
  rw [ex1]
  unfold F_L_share
  rcases q_share (fu := fu) (by omega) h g ho (l_mthr z) hx1 with ⟨r, w1, w2, hr⟩ | ⟨e, v, q, hm, w1, w2⟩
  · simp only [w1, w2, eq_true (zn64_of (nn_f2d hr)), dc_self (nn_f2d hr), zb_some, zc_ok, zc_err, thr_, joS, jdS, x10, x20, x21, x30, x31, x32, x40, x43, x50, x53, if_true, if_false, not_true_eq_false, not_false_eq_true]
    exact ⟨_, rfl, inv_mono hk hJ⟩
  · simp only [List.mem_cons, Prod.mk.injEq, List.not_mem_nil, or_false] at hm
    rcases hm with ⟨rfl, rfl⟩ | ⟨rfl, rfl⟩
    all_goals
      simp only [w1, w2, zb_some, zc_ok, zc_err, thr_, joS, jdS, x10, x20, x21, x30, x31, x32, x40, x43, x50, x53, if_true, if_false, not_true_eq_false, not_false_eq_true]
      simp only [c0_, c1_, c2_, c3_, c4_, y10, y20, y30, y40, zb_some, zc_ok, zc_err, thr_, joS, jdS, x10, x20, x21, x30, x31, x32, x40, x43, x50, x53, if_true, if_false, not_true_eq_false, not_false_eq_true]
      exact ⟨_, rfl, inv_mono hk hJ⟩
theorem L_34 {fu : Nat} (hf : 20000 ≤ fu) {L : Nat} {xs : Nat → Int32} {k : Nat} {z : LW} (hk : k < 512) (hkL : 5 * k + 5 ≤ L) (hL : L ≤ 2560) (hI : Inv k z) : ∃ z1, D_law_34 fu L xs z (iI ((5 * k : Nat) : Int)) = some z1 ∧ Inv (k + 1) z1 := by
  have hb := BB_b hk
  have hJ := hI
  obtain ⟨⟨a, h, g, ho⟩, hsv, hh, ht, he, hl, hlb⟩ := hI
  unfold D_law_34 G_law_2330
  unfold F_X11_isConsistent
  rw [q_cons (fu := fu) (by omega) h ho]
  simp only [zb_some, zc_ok, zc_err, thr_, joS, jdS, x10, x20, x21, x30, x31, x32, x40, x43, x50, x53, if_true, if_false, not_true_eq_false, not_false_eq_true]
  exact ⟨_, rfl, inv_mono hk hJ⟩
theorem L_35 {fu : Nat} (hf : 20000 ≤ fu) {L : Nat} {xs : Nat → Int32} {k : Nat} {z : LW} (hk : k < 512) (hkL : 5 * k + 5 ≤ L) (hL : L ≤ 2560) (hI : Inv k z) : ∃ z1, D_law_35 fu L xs z (iI ((5 * k : Nat) : Int)) = some z1 ∧ Inv (k + 1) z1 := by
  have hb := BB_b hk
  have hJ := hI
  obtain ⟨⟨a, h, g, ho⟩, hsv, hh, ht, he, hl, hlb⟩ := hI
  unfold D_law_35 G_law_2343
  simp only [ix_1 k, ii_nc (5 * k + 1) (show 5 * k + 1 < 2147483648 by omega), ix_g hkL hL (show 1 < 5 by omega), if_false]
  obtain ⟨x1, ex1, hx1⟩ := zc_ex (xs (5 * k + 1))
  rw [ex1]
  unfold F_L_append
  have hM := inv_mono hk hJ
  rcases q_app ht (l_mthr z) hx1 with ⟨r, p2, m2, w1, w2, w3⟩ | ⟨q, w1, w2⟩
  · simp only [w1, w2, zb_some, zc_ok, zc_err, thr_, joS, jdS, x10, x20, x21, x30, x31, x32, x40, x43, x50, x53, if_true, if_false, not_true_eq_false, not_false_eq_true]
    exact ⟨_, rfl, hM.1, hM.2.1, hM.2.2.1, w3, hM.2.2.2.2⟩
  · simp only [w1, w2, c0_, c1_, c2_, c3_, c4_, y10, y20, y30, y40, zb_some, zc_ok, zc_err, thr_, joS, jdS, x10, x20, x21, x30, x31, x32, x40, x43, x50, x53, if_true, if_false, not_true_eq_false, not_false_eq_true]
    exact ⟨_, rfl, hM⟩
theorem L_37 {fu : Nat} (hf : 20000 ≤ fu) {L : Nat} {xs : Nat → Int32} {k : Nat} {z : LW} (hk : k < 512) (hkL : 5 * k + 5 ≤ L) (hL : L ≤ 2560) (hI : Inv k z) : ∃ z1, D_law_37 fu L xs z (iI ((5 * k : Nat) : Int)) = some z1 ∧ Inv (k + 1) z1 := by
  have hb := BB_b hk
  have hJ := hI
  obtain ⟨⟨a, h, g, ho⟩, hsv, hh, ht, he, hl, hlb⟩ := hI
  unfold D_law_37 G_law_2445
  have hE : F_L_errorPosition (l_stE z) (l_jo z) = F_L_errorPosition (l_merr z) (l_jo z) := by rw [he.1]
  rw [hE]
  unfold F_L_errorPosition F_X10_errorPosition F_X11_errorPosition
  by_cases hq : l_merr z = -1
  · simp only [eq_true hq, f11_throw, c0_, c1_, c2_, c3_, c4_, y10, y20, y30, y40, zb_some, zc_ok, zc_err, thr_, joS, jdS, x10, x20, x21, x30, x31, x32, x40, x43, x50, x53, if_true, if_false, not_true_eq_false, not_false_eq_true]
    exact ⟨_, rfl, inv_mono hk hJ⟩
  · simp only [eq_false hq, f11_throw, c0_, c1_, c2_, c3_, c4_, y10, y20, y30, y40, zb_some, zc_ok, zc_err, thr_, joS, jdS, x10, x20, x21, x30, x31, x32, x40, x43, x50, x53, if_true, if_false, not_true_eq_false, not_false_eq_true]
    exact ⟨_, rfl, inv_mono hk hJ⟩
theorem L_38 {fu : Nat} (hf : 20000 ≤ fu) {L : Nat} {xs : Nat → Int32} {k : Nat} {z : LW} (hk : k < 512) (hkL : 5 * k + 5 ≤ L) (hL : L ≤ 2560) (hI : Inv k z) : ∃ z1, D_law_38 fu L xs z (iI ((5 * k : Nat) : Int)) = some z1 ∧ Inv (k + 1) z1 := by
  have hb := BB_b hk
  have hJ := hI
  obtain ⟨⟨a, h, g, ho⟩, hsv, hh, ht, he, hl, hlb⟩ := hI
  unfold D_law_38 G_law_2489
  have hE : F_L_failedCommand (l_stF z) (l_jo z) = F_L_failedCommand (l_mfai z) (l_jo z) := by rw [he.2]
  rw [hE]
  unfold F_L_failedCommand F_X10_failedCommand F_X11_failedCommand
  by_cases hq : l_mfai z = -1
  · simp only [eq_true hq, f11_throw, c0_, c1_, c2_, c3_, c4_, y10, y20, y30, y40, zb_some, zc_ok, zc_err, thr_, joS, jdS, x10, x20, x21, x30, x31, x32, x40, x43, x50, x53, if_true, if_false, not_true_eq_false, not_false_eq_true]
    exact ⟨_, rfl, inv_mono hk hJ⟩
  · simp only [eq_false hq, f11_throw, c0_, c1_, c2_, c3_, c4_, y10, y20, y30, y40, zb_some, zc_ok, zc_err, thr_, joS, jdS, x10, x20, x21, x30, x31, x32, x40, x43, x50, x53, if_true, if_false, not_true_eq_false, not_false_eq_true]
    exact ⟨_, rfl, inv_mono hk hJ⟩
theorem L_39 {fu : Nat} (hf : 20000 ≤ fu) {L : Nat} {xs : Nat → Int32} {k : Nat} {z : LW} (hk : k < 512) (hkL : 5 * k + 5 ≤ L) (hL : L ≤ 2560) (hI : Inv k z) : ∃ z1, D_law_39 fu L xs z (iI ((5 * k : Nat) : Int)) = some z1 ∧ Inv (k + 1) z1 := by
  have hb := BB_b hk
  have hJ := hI
  obtain ⟨⟨a, h, g, ho⟩, hsv, hh, ht, he, hl, hlb⟩ := hI
  unfold D_law_39 G_law_2533
  simp only [ix_1 k, ii_nc (5 * k + 1) (show 5 * k + 1 < 2147483648 by omega), ix_g hkL hL (show 1 < 5 by omega), if_false]
  obtain ⟨x1, ex1, hx1⟩ := ii_e32 (xs (5 * k + 1))
  rw [ex1]
  unfold F_L_writeNumber
  have hM := inv_mono hk hJ
  rcases w_num (fu := fu) (by omega) h g ho (l_mthr z) (by omega) (l_lch z) (l_mlin z) (l_llen z) (l_mliM z) hx1 with ⟨r, s, w, w1, w2, w3⟩ | ⟨q, w1, w2⟩
  · simp only [w1, w2, c0_, c1_, c2_, c3_, c4_, y10, y20, y30, y40, zb_some, zc_ok, zc_err, thr_, joS, jdS, x10, x20, x21, x30, x31, x32, x40, x43, x50, x53, if_true, if_false, not_true_eq_false, not_false_eq_true]
    exact ⟨_, rfl, hM.1, hM.2.1, hM.2.2.1, hM.2.2.2.1, hM.2.2.2.2.1, w3, hM.2.2.2.2.2.2⟩
  · simp only [w1, w2, c0_, c1_, c2_, c3_, c4_, y10, y20, y30, y40, zb_some, zc_ok, zc_err, thr_, joS, jdS, x10, x20, x21, x30, x31, x32, x40, x43, x50, x53, if_true, if_false, not_true_eq_false, not_false_eq_true]
    exact ⟨_, rfl, hM⟩
theorem L_40 {fu : Nat} (hf : 20000 ≤ fu) {L : Nat} {xs : Nat → Int32} {k : Nat} {z : LW} (hk : k < 512) (hkL : 5 * k + 5 ≤ L) (hL : L ≤ 2560) (hI : Inv k z) : ∃ z1, D_law_40 fu L xs z (iI ((5 * k : Nat) : Int)) = some z1 ∧ Inv (k + 1) z1 := by
  have hb := BB_b hk
  have hJ := hI
  obtain ⟨⟨a, h, g, ho⟩, hsv, hh, ht, he, hl, hlb⟩ := hI
  unfold D_law_40 G_law_2589
  simp only [ix_1 k, ix_2 k, ii_nc (5 * k + 1) (show 5 * k + 1 < 2147483648 by omega), ii_nc (5 * k + 2) (show 5 * k + 2 < 2147483648 by omega), ix_g hkL hL (show 1 < 5 by omega), ix_g hkL hL (show 2 < 5 by omega), if_false]
  obtain ⟨x1, ex1, hx1⟩ := ii_e32 (xs (5 * k + 1))
  obtain ⟨x2, ex2, hx2⟩ := ii_e32 (xs (5 * k + 2))
  rw [ex1, ex2]
  unfold F_L_writeQuotient
  have hM := inv_mono hk hJ
  rcases w_quo (fu := fu) (by omega) (l_mthr z) (l_seen z) (l_dbef z) (l_drec z) (l_mcam z) (l_mahd z) (l_magn z) (l_lch z) (l_mlin z) (l_llen z) (l_mliM z) hx1 hx2 with ⟨r, s, w, w1, w2, w3⟩ | ⟨q, w1, w2⟩
  · simp only [w1, w2, c0_, c1_, c2_, c3_, c4_, y10, y20, y30, y40, zb_some, zc_ok, zc_err, thr_, joS, jdS, x10, x20, x21, x30, x31, x32, x40, x43, x50, x53, if_true, if_false, not_true_eq_false, not_false_eq_true]
    exact ⟨_, rfl, hM.1, hM.2.1, hM.2.2.1, hM.2.2.2.1, hM.2.2.2.2.1, w3, hM.2.2.2.2.2.2⟩
  · simp only [w1, w2, c0_, c1_, c2_, c3_, c4_, y10, y20, y30, y40, zb_some, zc_ok, zc_err, thr_, joS, jdS, x10, x20, x21, x30, x31, x32, x40, x43, x50, x53, if_true, if_false, not_true_eq_false, not_false_eq_true]
    exact ⟨_, rfl, hM⟩
theorem L_41 {fu : Nat} (hf : 20000 ≤ fu) {L : Nat} {xs : Nat → Int32} {k : Nat} {z : LW} (hk : k < 512) (hkL : 5 * k + 5 ≤ L) (hL : L ≤ 2560) (hI : Inv k z) : ∃ z1, D_law_41 fu L xs z (iI ((5 * k : Nat) : Int)) = some z1 ∧ Inv (k + 1) z1 := by
  have hb := BB_b hk
  have hJ := hI
  obtain ⟨⟨a, h, g, ho⟩, hsv, hh, ht, he, hl, hlb⟩ := hI
  unfold D_law_41 G_law_2657
  simp only [ix_1 k, ii_nc (5 * k + 1) (show 5 * k + 1 < 2147483648 by omega), ix_g hkL hL (show 1 < 5 by omega), if_false]
  obtain ⟨x1, ex1, hx1⟩ := ii_e32 (xs (5 * k + 1))
  rw [ex1]
  obtain ⟨ln, hln, hlr⟩ := hl
  rcases q_out hln hlr (l_mthr z) hx1 with ⟨r, w1, w2⟩ | ⟨e, q, v, hm, w1, w2⟩
  · unfold F_L_outputAt
    simp only [w1, w2, c0_, c1_, c2_, c3_, c4_, y10, y20, y30, y40, zb_some, zc_ok, zc_err, thr_, joS, jdS, x10, x20, x21, x30, x31, x32, x40, x43, x50, x53, if_true, if_false, not_true_eq_false, not_false_eq_true]
    exact ⟨_, rfl, inv_mono hk hJ⟩
  · simp only [List.mem_cons, Prod.mk.injEq, List.not_mem_nil, or_false] at hm
    obtain ⟨rfl, rfl⟩ := hm
    unfold F_L_outputAt
    simp only [w1, w2, c0_, c1_, c2_, c3_, c4_, y10, y20, y30, y40, zb_some, zc_ok, zc_err, thr_, joS, jdS, x10, x20, x21, x30, x31, x32, x40, x43, x50, x53, if_true, if_false, not_true_eq_false, not_false_eq_true]
    exact ⟨_, rfl, inv_mono hk hJ⟩
theorem L_42 {fu : Nat} (hf : 20000 ≤ fu) {L : Nat} {xs : Nat → Int32} {k : Nat} {z : LW} (hk : k < 512) (hkL : 5 * k + 5 ≤ L) (hL : L ≤ 2560) (hI : Inv k z) : ∃ z1, D_law_42 fu L xs z (iI ((5 * k : Nat) : Int)) = some z1 ∧ Inv (k + 1) z1 := by
  have hb := BB_b hk
  have hJ := hI
  obtain ⟨⟨a, h, g, ho⟩, hsv, hh, ht, he, hl, hlb⟩ := hI
  unfold D_law_42 G_law_2713
  unfold F_L_undo
  rcases h_undo (fu := fu) (by omega) (l_st z) (l_mm z) (l_mthr z) hh with ⟨w1, w2⟩ | ⟨r, st2, sp2, mm2, a2, w1, w2, k1, k2, k3, k4⟩
  · simp only [w1, w2, c0_, c1_, c2_, c3_, c4_, y10, y20, y30, y40, zb_some, zc_ok, zc_err, thr_, joS, jdS, x10, x20, x21, x30, x31, x32, x40, x43, x50, x53, if_true, if_false, not_true_eq_false, not_false_eq_true]
    exact ⟨_, rfl, inv_mono hk hJ⟩
  · simp only [w1, w2, c0_, c1_, c2_, c3_, c4_, y10, y20, y30, y40, zb_some, zc_ok, zc_err, thr_, joS, jdS, x10, x20, x21, x30, x31, x32, x40, x43, x50, x53, if_true, if_false, not_true_eq_false, not_false_eq_true]
    exact ⟨_, rfl, inv_chg hk hJ (by omega) k1 k2 k3 k4⟩
theorem L_43 {fu : Nat} (hf : 20000 ≤ fu) {L : Nat} {xs : Nat → Int32} {k : Nat} {z : LW} (hk : k < 512) (hkL : 5 * k + 5 ≤ L) (hL : L ≤ 2560) (hI : Inv k z) : ∃ z1, D_law_43 fu L xs z (iI ((5 * k : Nat) : Int)) = some z1 ∧ Inv (k + 1) z1 := by
  have hb := BB_b hk
  have hJ := hI
  obtain ⟨⟨a, h, g, ho⟩, hsv, hh, ht, he, hl, hlb⟩ := hI
  unfold D_law_43 G_law_2757
  unfold F_X10_save F_X11_save
  have hM := inv_mono hk hJ
  have hs := BB_s k
  obtain ⟨s2, w1, c1⟩ := f8_copy (l_sv z) h ho.1
  obtain ⟨m2, w2, c2⟩ := f11_save7 (fu := fu) (mm := l_mm z) (l_misS z) 0 fu 0 (l_msav z) (by omega) (by omega) (fun k hk => absurd hk (Nat.not_lt_zero k))
  rw [w1, show F_X11_save_7 fu fu (l_mm z) (l_msav z) (l_misS z) 0 0 = some (m2, 1, 0) from w2]
  simp only [zb_some, zc_ok, zc_err, thr_, joS, jdS, x10, x20, x21, x30, x31, x32, x40, x43, x50, x53, if_true, if_false, not_true_eq_false, not_false_eq_true]
  exact ⟨_, rfl, hM.1, Or.inr ⟨rfl, rfl, a, c1, MR_ext ho.1 g c2, ho.mono (by omega) (by omega)⟩, hM.2.2⟩
theorem L_44 {fu : Nat} (hf : 20000 ≤ fu) {L : Nat} {xs : Nat → Int32} {k : Nat} {z : LW} (hk : k < 512) (hkL : 5 * k + 5 ≤ L) (hL : L ≤ 2560) (hI : Inv k z) : ∃ z1, D_law_44 fu L xs z (iI ((5 * k : Nat) : Int)) = some z1 ∧ Inv (k + 1) z1 := by
  have hb := BB_b hk
  have hJ := hI
  obtain ⟨⟨a, h, g, ho⟩, hsv, hh, ht, he, hl, hlb⟩ := hI
  unfold D_law_44 G_law_2768
  unfold F_L_restore F_X10_restore F_X11_restore
  have hM := inv_mono hk hJ
  have hs := BB_s k
  rcases hsv with ⟨s1, s2⟩ | ⟨s1, s2, b, b1, b2, b3⟩
  · simp only [s1, s2, f11_throw, c0_, c1_, c2_, c3_, c4_, y10, y20, y30, y40, zb_some, zc_ok, zc_err, thr_, joS, jdS, x10, x20, x21, x30, x31, x32, x40, x43, x50, x53, if_true, if_false, not_true_eq_false, not_false_eq_true]
    rw [s1, s2] at hM
    exact ⟨_, rfl, hM⟩
  · have hHR0 : HR (BB (k + 1)) (l_hst z) (l_spare z) 0 0 (l_mpst z) := by
      obtain ⟨d, sp, hs, q1, q2, q3, _⟩ := hh
      exact ⟨0, sp, hs, by omega, q2, q3, rfl, rfl, fun j hj => absurd hj (Nat.not_lt_zero j)⟩
    obtain ⟨st2, w1, c1⟩ := f8_copy (l_st z) b1 b3.1
    obtain ⟨m2, w2, c2⟩ := f11_rest21 (fu := fu) (msav := l_msav z) 1 (l_mchg z) 0 fu 0 (l_mm z) (by omega) (by omega) (fun k hk => absurd hk (Nat.not_lt_zero k))
    have w2 : F_X11_restore_21 fu fu (l_mm z) (l_msav z) 1 (l_mchg z) 0 0 = some (m2, 0, 0) := w2
    simp only [s1, s2, w1, w2, c0_, c1_, c2_, c3_, c4_, y10, y20, y30, y40, zb_some, zc_ok, zc_err, thr_, joS, jdS, x10, x20, x21, x30, x31, x32, x40, x43, x50, x53, if_true, if_false, not_true_eq_false, not_false_eq_true]
    exact ⟨_, rfl, ⟨b, c1, MR_ext b3.1 b2 c2, b3.mono (by omega) (by omega)⟩, Or.inr ⟨rfl, rfl, b, b1, b2, b3.mono (by omega) (by omega)⟩, hHR0, hM.2.2.2⟩
