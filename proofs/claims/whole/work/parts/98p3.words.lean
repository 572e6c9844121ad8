-- what stands behind each word, read on both sides
theorem ra_g0 {i : Nat} (hi : i < 10) : (iI ((5 * i + 1 : Nat) : Int) < 0 ∨ 305 ≤ (iI ((5 * i + 1 : Nat) : Int)).toNatClampNeg) = False := ik_g (by omega) (by omega)
theorem ra_n0 {i : Nat} (hi : i < 10) : (iI ((5 * i + 1 : Nat) : Int)).toNatClampNeg = 5 * i + 1 := ii_nc _ (by omega)
theorem ra_x0 {i : Nat} (hi : i < 10) : (iI ((5 * i + 1 : Nat) : Int) < 0 ∨ 305 ≤ 5 * i + 1) = False := ik_gx (by omega) (by omega)
theorem ra_e1 (i : Nat) : iI ((5 * i + 1 : Nat) : Int) + 1 = iI ((5 * i + 2 : Nat) : Int) := by rw [ii_L1, ii_add]; congr 1
theorem ra_g1 {i : Nat} (hi : i < 10) : (iI ((5 * i + 1 : Nat) : Int) + 1 < 0 ∨ 305 ≤ (iI ((5 * i + 1 : Nat) : Int) + 1).toNatClampNeg) = False := by rw [ra_e1]; exact ik_g (by omega) (by omega)
theorem ra_n1 {i : Nat} (hi : i < 10) : (iI ((5 * i + 1 : Nat) : Int) + 1).toNatClampNeg = 5 * i + 2 := by rw [ra_e1]; exact ii_nc _ (by omega)
theorem ra_x1 {i : Nat} (hi : i < 10) : (iI ((5 * i + 1 : Nat) : Int) + 1 < 0 ∨ 305 ≤ 5 * i + 2) = False := by rw [ra_e1]; exact ik_gx (by omega) (by omega)
theorem ra_e2 (i : Nat) : iI ((5 * i + 1 : Nat) : Int) + 2 = iI ((5 * i + 3 : Nat) : Int) := by rw [ii_L2, ii_add]; congr 1
theorem ra_g2 {i : Nat} (hi : i < 10) : (iI ((5 * i + 1 : Nat) : Int) + 2 < 0 ∨ 305 ≤ (iI ((5 * i + 1 : Nat) : Int) + 2).toNatClampNeg) = False := by rw [ra_e2]; exact ik_g (by omega) (by omega)
theorem ra_n2 {i : Nat} (hi : i < 10) : (iI ((5 * i + 1 : Nat) : Int) + 2).toNatClampNeg = 5 * i + 3 := by rw [ra_e2]; exact ii_nc _ (by omega)
theorem ra_x2 {i : Nat} (hi : i < 10) : (iI ((5 * i + 1 : Nat) : Int) + 2 < 0 ∨ 305 ≤ 5 * i + 3) = False := by rw [ra_e2]; exact ik_gx (by omega) (by omega)
theorem ra_e3 (i : Nat) : iI ((5 * i + 1 : Nat) : Int) + 3 = iI ((5 * i + 4 : Nat) : Int) := by rw [ii_L3, ii_add]; congr 1
theorem ra_g3 {i : Nat} (hi : i < 10) : (iI ((5 * i + 1 : Nat) : Int) + 3 < 0 ∨ 305 ≤ (iI ((5 * i + 1 : Nat) : Int) + 3).toNatClampNeg) = False := by rw [ra_e3]; exact ik_g (by omega) (by omega)
theorem ra_n3 {i : Nat} (hi : i < 10) : (iI ((5 * i + 1 : Nat) : Int) + 3).toNatClampNeg = 5 * i + 4 := by rw [ra_e3]; exact ii_nc _ (by omega)
theorem ra_x3 {i : Nat} (hi : i < 10) : (iI ((5 * i + 1 : Nat) : Int) + 3 < 0 ∨ 305 ≤ 5 * i + 4) = False := by rw [ra_e3]; exact ik_gx (by omega) (by omega)
theorem RA_0 {fu i : Nat} (hi : i < 10) (M mcmd : Nat → Int32) (x sz y : Int32) : F_X11_readArguments fu M mcmd x sz y (iI ((0 : Nat) : Int)) (iI ((5 * i + 1 : Nat) : Int)) = zbind (F_X11_number fu M x sz y) fun z0 => zbind (F_X11_fractionHere fu M z0.2.1 sz z0.2.2) fun z1 => zbind (F_X11_digitBehind M z1.2.1 sz z1.2.2) fun z2 => zbind (F_X11_modeBehind M z2.2.1 sz z2.2.2) fun z3 => some ((upd (upd (upd (upd mcmd (5 * i + 1) z0.1) (5 * i + 2) z1.1) (5 * i + 3) z2.1) (5 * i + 4) z3.1), z3.2.1, z3.2.2) := by
  unfold F_X11_readArguments F_X11_readArguments_22
  simp only [show (iI ((0 : Nat) : Int) = 7) = False from by decide, show (iI ((0 : Nat) : Int) = 0) = True from by decide, show (iI ((0 : Nat) : Int) = 1) = False from by decide, show (iI ((0 : Nat) : Int) = 2) = False from by decide, show (iI ((0 : Nat) : Int) = 3) = False from by decide, show (iI ((0 : Nat) : Int) = 4) = False from by decide, show (iI ((0 : Nat) : Int) = 5) = False from by decide, show (iI ((0 : Nat) : Int) = 6) = False from by decide, ra_g0 hi, ra_n0 hi, ra_x0 hi, ra_g1 hi, ra_n1 hi, ra_x1 hi, ra_g2 hi, ra_n2 hi, ra_x2 hi, ra_g3 hi, ra_n3 hi, ra_x3 hi, if_true, if_false]
theorem RA_1 {fu i : Nat} (hi : i < 10) (M mcmd : Nat → Int32) (x sz y : Int32) : F_X11_readArguments fu M mcmd x sz y (iI ((1 : Nat) : Int)) (iI ((5 * i + 1 : Nat) : Int)) = zbind (F_X11_number fu M x sz y) fun z0 => zbind (F_X11_numberBehind fu M z0.2.1 sz z0.2.2 47) fun z1 => zbind (F_X11_digitBehind M z1.2.1 sz z1.2.2) fun z2 => zbind (F_X11_modeBehind M z2.2.1 sz z2.2.2) fun z3 => some ((upd (upd (upd (upd mcmd (5 * i + 1) z0.1) (5 * i + 2) z1.1) (5 * i + 3) z2.1) (5 * i + 4) z3.1), z3.2.1, z3.2.2) := by
  unfold F_X11_readArguments F_X11_readArguments_22
  simp only [show (iI ((1 : Nat) : Int) = 7) = False from by decide, show (iI ((1 : Nat) : Int) = 0) = False from by decide, show (iI ((1 : Nat) : Int) = 1) = True from by decide, show (iI ((1 : Nat) : Int) = 2) = False from by decide, show (iI ((1 : Nat) : Int) = 3) = False from by decide, show (iI ((1 : Nat) : Int) = 4) = False from by decide, show (iI ((1 : Nat) : Int) = 5) = False from by decide, show (iI ((1 : Nat) : Int) = 6) = False from by decide, ra_g0 hi, ra_n0 hi, ra_x0 hi, ra_g1 hi, ra_n1 hi, ra_x1 hi, ra_g2 hi, ra_n2 hi, ra_x2 hi, ra_g3 hi, ra_n3 hi, ra_x3 hi, if_true, if_false]
theorem RA_2 {fu i : Nat} (hi : i < 10) (M mcmd : Nat → Int32) (x sz y : Int32) : F_X11_readArguments fu M mcmd x sz y (iI ((2 : Nat) : Int)) (iI ((5 * i + 1 : Nat) : Int)) = zbind (F_X11_number fu M x sz y) fun z0 => some ((upd mcmd (5 * i + 1) z0.1), z0.2.1, z0.2.2) := by
  unfold F_X11_readArguments F_X11_readArguments_22
  simp only [show (iI ((2 : Nat) : Int) = 7) = False from by decide, show (iI ((2 : Nat) : Int) = 0) = False from by decide, show (iI ((2 : Nat) : Int) = 1) = False from by decide, show (iI ((2 : Nat) : Int) = 2) = True from by decide, show (iI ((2 : Nat) : Int) = 3) = False from by decide, show (iI ((2 : Nat) : Int) = 4) = False from by decide, show (iI ((2 : Nat) : Int) = 5) = False from by decide, show (iI ((2 : Nat) : Int) = 6) = False from by decide, ra_g0 hi, ra_n0 hi, ra_x0 hi, ra_g1 hi, ra_n1 hi, ra_x1 hi, ra_g2 hi, ra_n2 hi, ra_x2 hi, ra_g3 hi, ra_n3 hi, ra_x3 hi, if_true, if_false]
theorem RA_3 {fu i : Nat} (hi : i < 10) (M mcmd : Nat → Int32) (x sz y : Int32) : F_X11_readArguments fu M mcmd x sz y (iI ((3 : Nat) : Int)) (iI ((5 * i + 1 : Nat) : Int)) = zbind (F_X11_number fu M x sz y) fun z0 => zbind (F_X11_numberBehind fu M z0.2.1 sz z0.2.2 32) fun z1 => zbind (F_X11_fractionHere fu M z1.2.1 sz z1.2.2) fun z2 => some ((upd (upd (upd mcmd (5 * i + 1) z0.1) (5 * i + 2) z1.1) (5 * i + 3) z2.1), z2.2.1, z2.2.2) := by
  unfold F_X11_readArguments F_X11_readArguments_22
  simp only [show (iI ((3 : Nat) : Int) = 7) = False from by decide, show (iI ((3 : Nat) : Int) = 0) = False from by decide, show (iI ((3 : Nat) : Int) = 1) = False from by decide, show (iI ((3 : Nat) : Int) = 2) = False from by decide, show (iI ((3 : Nat) : Int) = 3) = True from by decide, show (iI ((3 : Nat) : Int) = 4) = False from by decide, show (iI ((3 : Nat) : Int) = 5) = False from by decide, show (iI ((3 : Nat) : Int) = 6) = False from by decide, ra_g0 hi, ra_n0 hi, ra_x0 hi, ra_g1 hi, ra_n1 hi, ra_x1 hi, ra_g2 hi, ra_n2 hi, ra_x2 hi, ra_g3 hi, ra_n3 hi, ra_x3 hi, if_true, if_false]
theorem RA_4 {fu i : Nat} (hi : i < 10) (M mcmd : Nat → Int32) (x sz y : Int32) : F_X11_readArguments fu M mcmd x sz y (iI ((4 : Nat) : Int)) (iI ((5 * i + 1 : Nat) : Int)) = zbind (F_X11_number fu M x sz y) fun z0 => zbind (F_X11_numberBehind fu M z0.2.1 sz z0.2.2 45) fun z1 => zbind (F_X11_numberBehind fu M z1.2.1 sz z1.2.2 32) fun z2 => zbind (F_X11_fractionHere fu M z2.2.1 sz z2.2.2) fun z3 => some ((upd (upd (upd (upd mcmd (5 * i + 1) z0.1) (5 * i + 2) z1.1) (5 * i + 3) z2.1) (5 * i + 4) z3.1), z3.2.1, z3.2.2) := by
  unfold F_X11_readArguments F_X11_readArguments_22
  simp only [show (iI ((4 : Nat) : Int) = 7) = False from by decide, show (iI ((4 : Nat) : Int) = 0) = False from by decide, show (iI ((4 : Nat) : Int) = 1) = False from by decide, show (iI ((4 : Nat) : Int) = 2) = False from by decide, show (iI ((4 : Nat) : Int) = 3) = False from by decide, show (iI ((4 : Nat) : Int) = 4) = True from by decide, show (iI ((4 : Nat) : Int) = 5) = False from by decide, show (iI ((4 : Nat) : Int) = 6) = False from by decide, ra_g0 hi, ra_n0 hi, ra_x0 hi, ra_g1 hi, ra_n1 hi, ra_x1 hi, ra_g2 hi, ra_n2 hi, ra_x2 hi, ra_g3 hi, ra_n3 hi, ra_x3 hi, if_true, if_false]
theorem RA_5 {fu i : Nat} (hi : i < 10) (M mcmd : Nat → Int32) (x sz y : Int32) : F_X11_readArguments fu M mcmd x sz y (iI ((5 : Nat) : Int)) (iI ((5 * i + 1 : Nat) : Int)) = zbind (F_X11_number fu M x sz y) fun z0 => zbind (F_X11_digitBehind M z0.2.1 sz z0.2.2) fun z1 => some ((upd (upd mcmd (5 * i + 1) z0.1) (5 * i + 2) z1.1), z1.2.1, z1.2.2) := by
  unfold F_X11_readArguments F_X11_readArguments_22
  simp only [show (iI ((5 : Nat) : Int) = 7) = False from by decide, show (iI ((5 : Nat) : Int) = 0) = False from by decide, show (iI ((5 : Nat) : Int) = 1) = False from by decide, show (iI ((5 : Nat) : Int) = 2) = False from by decide, show (iI ((5 : Nat) : Int) = 3) = False from by decide, show (iI ((5 : Nat) : Int) = 4) = False from by decide, show (iI ((5 : Nat) : Int) = 5) = True from by decide, show (iI ((5 : Nat) : Int) = 6) = False from by decide, ra_g0 hi, ra_n0 hi, ra_x0 hi, ra_g1 hi, ra_n1 hi, ra_x1 hi, ra_g2 hi, ra_n2 hi, ra_x2 hi, ra_g3 hi, ra_n3 hi, ra_x3 hi, if_true, if_false]
theorem RA_6 {fu i : Nat} (hi : i < 10) (M mcmd : Nat → Int32) (x sz y : Int32) : F_X11_readArguments fu M mcmd x sz y (iI ((6 : Nat) : Int)) (iI ((5 * i + 1 : Nat) : Int)) = zbind (F_X11_number fu M x sz y) fun z0 => zbind (F_X11_modeBehind M z0.2.1 sz z0.2.2) fun z1 => some ((upd (upd mcmd (5 * i + 1) z0.1) (5 * i + 2) z1.1), z1.2.1, z1.2.2) := by
  unfold F_X11_readArguments F_X11_readArguments_22
  simp only [show (iI ((6 : Nat) : Int) = 7) = False from by decide, show (iI ((6 : Nat) : Int) = 0) = False from by decide, show (iI ((6 : Nat) : Int) = 1) = False from by decide, show (iI ((6 : Nat) : Int) = 2) = False from by decide, show (iI ((6 : Nat) : Int) = 3) = False from by decide, show (iI ((6 : Nat) : Int) = 4) = False from by decide, show (iI ((6 : Nat) : Int) = 5) = False from by decide, show (iI ((6 : Nat) : Int) = 6) = True from by decide, ra_g0 hi, ra_n0 hi, ra_x0 hi, ra_g1 hi, ra_n1 hi, ra_x1 hi, ra_g2 hi, ra_n2 hi, ra_x2 hi, ra_g3 hi, ra_n3 hi, ra_x3 hi, if_true, if_false]
theorem RA_7 {fu i : Nat} (hi : i < 10) (M mcmd : Nat → Int32) (x sz y : Int32) : F_X11_readArguments fu M mcmd x sz y (iI ((7 : Nat) : Int)) (iI ((5 * i + 1 : Nat) : Int)) = zbind (F_X11_digitHere M x sz y) fun z0 => some ((upd mcmd (5 * i + 1) z0.1), z0.2.1, z0.2.2) := by
  unfold F_X11_readArguments F_X11_readArguments_22
  simp only [show (iI ((7 : Nat) : Int) = 7) = True from by decide, show (iI ((7 : Nat) : Int) = 0) = False from by decide, show (iI ((7 : Nat) : Int) = 1) = False from by decide, show (iI ((7 : Nat) : Int) = 2) = False from by decide, show (iI ((7 : Nat) : Int) = 3) = False from by decide, show (iI ((7 : Nat) : Int) = 4) = False from by decide, show (iI ((7 : Nat) : Int) = 5) = False from by decide, show (iI ((7 : Nat) : Int) = 6) = False from by decide, ra_g0 hi, ra_n0 hi, ra_x0 hi, ra_g1 hi, ra_n1 hi, ra_x1 hi, ra_g2 hi, ra_n2 hi, ra_x2 hi, ra_g3 hi, ra_n3 hi, ra_x3 hi, if_true, if_false]
def AR : Nat → CC → (Nat → Int32) → Nat → Prop
  | 0, cc, f, o => ∃ a b c d : Int, (0 ≤ a ∧ a < 1000000) ∧ (0 ≤ b ∧ b < 10000) ∧ (0 ≤ c ∧ c ≤ 9) ∧ (md d) ∧ k_whole cc = iI a ∧ k_frac cc = iI b ∧ k_scale cc = iI c ∧ k_mode cc = iI d ∧ f (o + 1) = iI a ∧ f (o + 2) = iI b ∧ f (o + 3) = iI c ∧ f (o + 4) = iI d
  | 1, cc, f, o => ∃ a b c d : Int, (0 ≤ a ∧ a < 1000000) ∧ (0 ≤ b ∧ b < 1000000) ∧ (0 ≤ c ∧ c ≤ 9) ∧ (md d) ∧ k_first cc = iI a ∧ k_second cc = iI b ∧ k_scale cc = iI c ∧ k_mode cc = iI d ∧ f (o + 1) = iI a ∧ f (o + 2) = iI b ∧ f (o + 3) = iI c ∧ f (o + 4) = iI d
  | 2, cc, f, o => ∃ a : Int, (0 ≤ a ∧ a < 1000000) ∧ k_first cc = iI a ∧ f (o + 1) = iI a
  | 3, cc, f, o => ∃ a b c : Int, (0 ≤ a ∧ a < 1000000) ∧ (0 ≤ b ∧ b < 1000000) ∧ (0 ≤ c ∧ c < 10000) ∧ k_first cc = iI a ∧ k_whole cc = iI b ∧ k_frac cc = iI c ∧ f (o + 1) = iI a ∧ f (o + 2) = iI b ∧ f (o + 3) = iI c
  | 4, cc, f, o => ∃ a b c d : Int, (0 ≤ a ∧ a < 1000000) ∧ (0 ≤ b ∧ b < 1000000) ∧ (0 ≤ c ∧ c < 1000000) ∧ (0 ≤ d ∧ d < 10000) ∧ k_first cc = iI a ∧ k_second cc = iI b ∧ k_whole cc = iI c ∧ k_frac cc = iI d ∧ f (o + 1) = iI a ∧ f (o + 2) = iI b ∧ f (o + 3) = iI c ∧ f (o + 4) = iI d
  | 5, cc, f, o => ∃ a b : Int, (0 ≤ a ∧ a < 1000000) ∧ (0 ≤ b ∧ b ≤ 9) ∧ k_first cc = iI a ∧ k_scale cc = iI b ∧ f (o + 1) = iI a ∧ f (o + 2) = iI b
  | 6, cc, f, o => ∃ a b : Int, (0 ≤ a ∧ a < 1000000) ∧ (md b) ∧ k_first cc = iI a ∧ k_mode cc = iI b ∧ f (o + 1) = iI a ∧ f (o + 2) = iI b
  | _, cc, f, o => ∃ a : Int, (0 ≤ a ∧ a ≤ 9) ∧ k_scale cc = iI a ∧ f (o + 1) = iI a
theorem A_0 {fu i : Nat} (hf : 30 ≤ fu) (hi : i < 10) {T M : Nat → Int32} {len : Nat} (h : TX T M len) {k : Nat} (hk : k ≤ len) (cc : CC) (mcmd : Nat → Int32) :
    (∃ (k' : Nat) (cc' : CC) (f' : Nat → Int32), k + 2 ≤ k' ∧ k' ≤ len ∧ CA_0 fu T (iI (len : Int)) (iI (k : Int)) cc = some (1, iI (k' : Int), cc') ∧ F_X11_readArguments fu M mcmd (iI (k : Int)) (iI (len : Int)) 0 (iI ((0 : Nat) : Int)) (iI ((5 * i + 1 : Nat) : Int)) = some (f', iI (k' : Int), 0) ∧ (∀ j, j < 5 * i + 1 → f' j = mcmd j) ∧ k_kind cc' = k_kind cc ∧ AR 0 cc' f' (5 * i)) ∨
    ∃ (k' : Nat) (cc' : CC) (f' : Nat → Int32), k ≤ k' ∧ k' ≤ len ∧ CA_0 fu T (iI (len : Int)) (iI (k : Int)) cc = some (0, iI (k' : Int), cc') ∧ F_X11_readArguments fu M mcmd (iI (k : Int)) (iI (len : Int)) 0 (iI ((0 : Nat) : Int)) (iI ((5 * i + 1 : Nat) : Int)) = some (f', iI (k' : Int), 1) := by
  have h60 := h.1
  rcases p_dec hf h (show k ≤ len by omega) (k_kind cc, k_first cc, k_second cc, k_whole cc, k_frac cc, k_scale cc, k_mode cc) with ⟨v1, f2, k3, x4, y5, h6, h7, h8, h9, h10, h11, c12, m13, m14⟩ | ⟨k15, cc16, w17, x18, y19, f20, h21, h22, c12, m13, m14⟩
  ·
    rcases p_SM hf h (show k3 ≤ len by omega) (k_kind cc, k_first cc, k_second cc, iI v1, iI f2, k_scale cc, k_mode cc) with ⟨v23, v24, h25, h26, h27, h28, c29, m30, m31⟩ | ⟨k32, cc33, w34, x35, y36, w37, h38, h39, c29, m30, m31⟩
    ·
      unfold CT at c29
      refine Or.inl ⟨(k3 + 4), (k_kind cc, k_first cc, k_second cc, iI v1, iI f2, iI v23, iI v24), (upd (upd (upd (upd mcmd (5 * i + 1) (iI v1)) (5 * i + 2) (iI f2)) (5 * i + 3) (iI v23)) (5 * i + 4) (iI v24)), by omega, by omega, by simp only [CA_0, c12, c29, zb_some, d10, d00, eq_self, or_true, true_or, or_false, not_true_eq_false, if_true, if_false], by simp only [RA_0 hi, m13, m14, m30, m31, zb_some], fun j hj => ?_, rfl, ?_⟩
      · simp (disch := omega) only [up_I, if_neg]
      · refine ⟨v1, f2, v23, v24, ⟨h8, h9⟩, ⟨h10, h11⟩, ⟨h25, h26⟩, h27, rfl, rfl, rfl, rfl, ?_, ?_, ?_, ?_⟩
        all_goals simp (disch := omega) only [up_I, if_true, if_false, if_pos, if_neg]
    ·
      unfold CT at c29
      exact Or.inr ⟨k32, cc33, (upd (upd (upd (upd mcmd (5 * i + 1) (iI v1)) (5 * i + 2) (iI f2)) (5 * i + 3) w34) (5 * i + 4) w37), by omega, by omega, by simp only [CA_0, c12, c29, zb_some, d10, d00, eq_self, or_true, true_or, or_false, not_true_eq_false, if_true, if_false], by simp only [RA_0 hi, m13, m14, m30, m31, zb_some]⟩
  ·
    obtain ⟨z40, e41⟩ := w_digB M (k15) (iI (len : Int))
    obtain ⟨z42, e43⟩ := w_modeB h (show k15 ≤ len by omega)
    exact Or.inr ⟨k15, cc16, (upd (upd (upd (upd mcmd (5 * i + 1) w17) (5 * i + 2) f20) (5 * i + 3) z40) (5 * i + 4) z42), by omega, by omega, by simp only [CA_0, c12, zb_some, d10, d00, eq_self, or_true, true_or, or_false, not_true_eq_false, if_true, if_false], by simp only [RA_0 hi, m13, m14, e41, e43, zb_some]⟩
theorem A_1 {fu i : Nat} (hf : 30 ≤ fu) (hi : i < 10) {T M : Nat → Int32} {len : Nat} (h : TX T M len) {k : Nat} (hk : k ≤ len) (cc : CC) (mcmd : Nat → Int32) :
    (∃ (k' : Nat) (cc' : CC) (f' : Nat → Int32), k + 1 ≤ k' ∧ k' ≤ len ∧ CA_1 fu T (iI (len : Int)) (iI (k : Int)) cc = some (1, iI (k' : Int), cc') ∧ F_X11_readArguments fu M mcmd (iI (k : Int)) (iI (len : Int)) 0 (iI ((1 : Nat) : Int)) (iI ((5 * i + 1 : Nat) : Int)) = some (f', iI (k' : Int), 0) ∧ (∀ j, j < 5 * i + 1 → f' j = mcmd j) ∧ k_kind cc' = k_kind cc ∧ AR 1 cc' f' (5 * i)) ∨
    ∃ (k' : Nat) (cc' : CC) (f' : Nat → Int32), k ≤ k' ∧ k' ≤ len ∧ CA_1 fu T (iI (len : Int)) (iI (k : Int)) cc = some (0, iI (k' : Int), cc') ∧ F_X11_readArguments fu M mcmd (iI (k : Int)) (iI (len : Int)) 0 (iI ((1 : Nat) : Int)) (iI ((5 * i + 1 : Nat) : Int)) = some (f', iI (k' : Int), 1) := by
  have h60 := h.1
  rcases p_first hf h (show k ≤ len by omega) (k_kind cc, k_first cc, k_second cc, k_whole cc, k_frac cc, k_scale cc, k_mode cc) with ⟨v1, k2, h5, h6, h7, h8, c3, m4⟩ | ⟨⟨cc9, c3⟩, q10, m4⟩
  ·
    rcases p_char h (show k2 ≤ len by omega) (c := 47) (v := 47) rfl (by omega) (by omega) with ⟨h11, c12, m13⟩ | ⟨c12, m13⟩
    ·
      rcases p_second hf h (show (k2 + 1) ≤ len by omega) (k_kind cc, iI v1, k_second cc, k_whole cc, k_frac cc, k_scale cc, k_mode cc) with ⟨v14, k15, h18, h19, h20, h21, c16, m17⟩ | ⟨⟨cc22, c16⟩, q23, m17⟩
      ·
        have n24 : F_X11_numberBehind fu M (iI (k2 : Int)) (iI (len : Int)) 0 47 = some (iI v14, iI (k15 : Int), 0) := by simp only [F_X11_numberBehind, m13, zb_some, m17]
        rcases p_SM hf h (show k15 ≤ len by omega) (k_kind cc, iI v1, iI v14, k_whole cc, k_frac cc, k_scale cc, k_mode cc) with ⟨v25, v26, h27, h28, h29, h30, c31, m32, m33⟩ | ⟨k34, cc35, w36, x37, y38, w39, h40, h41, c31, m32, m33⟩
        ·
          unfold CT at c31
          refine Or.inl ⟨(k15 + 4), (k_kind cc, iI v1, iI v14, k_whole cc, k_frac cc, iI v25, iI v26), (upd (upd (upd (upd mcmd (5 * i + 1) (iI v1)) (5 * i + 2) (iI v14)) (5 * i + 3) (iI v25)) (5 * i + 4) (iI v26)), by omega, by omega, by simp only [CA_1, c3, c12, c16, c31, zb_some, d10, d00, eq_self, or_true, true_or, or_false, not_true_eq_false, if_true, if_false], by simp only [RA_1 hi, m4, n24, m32, m33, zb_some], fun j hj => ?_, rfl, ?_⟩
          · simp (disch := omega) only [up_I, if_neg]
          · refine ⟨v1, v14, v25, v26, ⟨h7, h8⟩, ⟨h20, h21⟩, ⟨h27, h28⟩, h29, rfl, rfl, rfl, rfl, ?_, ?_, ?_, ?_⟩
            all_goals simp (disch := omega) only [up_I, if_true, if_false, if_pos, if_neg]
        ·
          unfold CT at c31
          exact Or.inr ⟨k34, cc35, (upd (upd (upd (upd mcmd (5 * i + 1) (iI v1)) (5 * i + 2) (iI v14)) (5 * i + 3) w36) (5 * i + 4) w39), by omega, by omega, by simp only [CA_1, c3, c12, c16, c31, zb_some, d10, d00, eq_self, or_true, true_or, or_false, not_true_eq_false, if_true, if_false], by simp only [RA_1 hi, m4, n24, m32, m33, zb_some]⟩
      ·
        have n24 : F_X11_numberBehind fu M (iI (k2 : Int)) (iI (len : Int)) 0 47 = some (q23, iI (((k2 + 1) : Nat) : Int), 1) := by simp only [F_X11_numberBehind, m13, zb_some, m17]
        obtain ⟨z42, e43⟩ := w_digB M ((k2 + 1)) (iI (len : Int))
        obtain ⟨z44, e45⟩ := w_modeB h (show (k2 + 1) ≤ len by omega)
        exact Or.inr ⟨(k2 + 1), cc22, (upd (upd (upd (upd mcmd (5 * i + 1) (iI v1)) (5 * i + 2) q23) (5 * i + 3) z42) (5 * i + 4) z44), by omega, by omega, by simp only [CA_1, c3, c12, c16, zb_some, d10, d00, eq_self, or_true, true_or, or_false, not_true_eq_false, if_true, if_false], by simp only [RA_1 hi, m4, n24, e43, e45, zb_some]⟩
    ·
      obtain ⟨z46, e47⟩ := w_num7 hf M (k2) (iI (len : Int))
      have n48 : F_X11_numberBehind fu M (iI ((k2 : Nat) : Int)) (iI (len : Int)) 0 47 = some (z46, iI ((k2 : Nat) : Int), 1) := by simp only [F_X11_numberBehind, m13, zb_some, e47]
      obtain ⟨z49, e50⟩ := w_digB M (k2) (iI (len : Int))
      obtain ⟨z51, e52⟩ := w_modeB h (show k2 ≤ len by omega)
      exact Or.inr ⟨k2, (k_kind cc, iI v1, k_second cc, k_whole cc, k_frac cc, k_scale cc, k_mode cc), (upd (upd (upd (upd mcmd (5 * i + 1) (iI v1)) (5 * i + 2) z46) (5 * i + 3) z49) (5 * i + 4) z51), by omega, by omega, by simp only [CA_1, c3, c12, zb_some, d10, d00, eq_self, or_true, true_or, or_false, not_true_eq_false, if_true, if_false], by simp only [RA_1 hi, m4, n48, e50, e52, zb_some]⟩
  ·
    obtain ⟨z53, e54⟩ := w_numB hf M (k) (iI (len : Int)) 47
    obtain ⟨z55, e56⟩ := w_digB M (k) (iI (len : Int))
    obtain ⟨z57, e58⟩ := w_modeB h (show k ≤ len by omega)
    exact Or.inr ⟨k, cc9, (upd (upd (upd (upd mcmd (5 * i + 1) q10) (5 * i + 2) z53) (5 * i + 3) z55) (5 * i + 4) z57), by omega, by omega, by simp only [CA_1, c3, zb_some, d10, d00, eq_self, or_true, true_or, or_false, not_true_eq_false, if_true, if_false], by simp only [RA_1 hi, m4, e54, e56, e58, zb_some]⟩
theorem A_2 {fu i : Nat} (hf : 30 ≤ fu) (hi : i < 10) {T M : Nat → Int32} {len : Nat} (h : TX T M len) {k : Nat} (hk : k ≤ len) (cc : CC) (mcmd : Nat → Int32) :
    (∃ (k' : Nat) (cc' : CC) (f' : Nat → Int32), k + 1 ≤ k' ∧ k' ≤ len ∧ CA_2 fu T (iI (len : Int)) (iI (k : Int)) cc = some (1, iI (k' : Int), cc') ∧ F_X11_readArguments fu M mcmd (iI (k : Int)) (iI (len : Int)) 0 (iI ((2 : Nat) : Int)) (iI ((5 * i + 1 : Nat) : Int)) = some (f', iI (k' : Int), 0) ∧ (∀ j, j < 5 * i + 1 → f' j = mcmd j) ∧ k_kind cc' = k_kind cc ∧ AR 2 cc' f' (5 * i)) ∨
    ∃ (k' : Nat) (cc' : CC) (f' : Nat → Int32), k ≤ k' ∧ k' ≤ len ∧ CA_2 fu T (iI (len : Int)) (iI (k : Int)) cc = some (0, iI (k' : Int), cc') ∧ F_X11_readArguments fu M mcmd (iI (k : Int)) (iI (len : Int)) 0 (iI ((2 : Nat) : Int)) (iI ((5 * i + 1 : Nat) : Int)) = some (f', iI (k' : Int), 1) := by
  have h60 := h.1
  rcases p_first hf h (show k ≤ len by omega) (k_kind cc, k_first cc, k_second cc, k_whole cc, k_frac cc, k_scale cc, k_mode cc) with ⟨v1, k2, h5, h6, h7, h8, c3, m4⟩ | ⟨⟨cc9, c3⟩, q10, m4⟩
  ·
    refine Or.inl ⟨k2, (k_kind cc, iI v1, k_second cc, k_whole cc, k_frac cc, k_scale cc, k_mode cc), (upd mcmd (5 * i + 1) (iI v1)), by omega, by omega, by simp only [CA_2, c3, zb_some, d10, d00, eq_self, or_true, true_or, or_false, not_true_eq_false, if_true, if_false], by simp only [RA_2 hi, m4, zb_some], fun j hj => ?_, rfl, ?_⟩
    · simp (disch := omega) only [up_I, if_neg]
    · refine ⟨v1, ⟨h7, h8⟩, rfl, ?_⟩
      all_goals simp (disch := omega) only [up_I, if_true, if_false, if_pos, if_neg]
  ·
    exact Or.inr ⟨k, cc9, (upd mcmd (5 * i + 1) q10), by omega, by omega, by simp only [CA_2, c3, zb_some, d10, d00, eq_self, or_true, true_or, or_false, not_true_eq_false, if_true, if_false], by simp only [RA_2 hi, m4, zb_some]⟩
theorem A_3 {fu i : Nat} (hf : 30 ≤ fu) (hi : i < 10) {T M : Nat → Int32} {len : Nat} (h : TX T M len) {k : Nat} (hk : k ≤ len) (cc : CC) (mcmd : Nat → Int32) :
    (∃ (k' : Nat) (cc' : CC) (f' : Nat → Int32), k + 1 ≤ k' ∧ k' ≤ len ∧ CA_3 fu T (iI (len : Int)) (iI (k : Int)) cc = some (1, iI (k' : Int), cc') ∧ F_X11_readArguments fu M mcmd (iI (k : Int)) (iI (len : Int)) 0 (iI ((3 : Nat) : Int)) (iI ((5 * i + 1 : Nat) : Int)) = some (f', iI (k' : Int), 0) ∧ (∀ j, j < 5 * i + 1 → f' j = mcmd j) ∧ k_kind cc' = k_kind cc ∧ AR 3 cc' f' (5 * i)) ∨
    ∃ (k' : Nat) (cc' : CC) (f' : Nat → Int32), k ≤ k' ∧ k' ≤ len ∧ CA_3 fu T (iI (len : Int)) (iI (k : Int)) cc = some (0, iI (k' : Int), cc') ∧ F_X11_readArguments fu M mcmd (iI (k : Int)) (iI (len : Int)) 0 (iI ((3 : Nat) : Int)) (iI ((5 * i + 1 : Nat) : Int)) = some (f', iI (k' : Int), 1) := by
  have h60 := h.1
  rcases p_first hf h (show k ≤ len by omega) (k_kind cc, k_first cc, k_second cc, k_whole cc, k_frac cc, k_scale cc, k_mode cc) with ⟨v1, k2, h5, h6, h7, h8, c3, m4⟩ | ⟨⟨cc9, c3⟩, q10, m4⟩
  ·
    rcases p_char h (show k2 ≤ len by omega) (c := 32) (v := 32) rfl (by omega) (by omega) with ⟨h11, c12, m13⟩ | ⟨c12, m13⟩
    ·
      rcases p_dec hf h (show (k2 + 1) ≤ len by omega) (k_kind cc, iI v1, k_second cc, k_whole cc, k_frac cc, k_scale cc, k_mode cc) with ⟨v14, f15, k16, x17, y18, h19, h20, h21, h22, h23, h24, c25, m26, m27⟩ | ⟨k28, cc29, w30, x31, y32, f33, h34, h35, c25, m26, m27⟩
      ·
        have n36 : F_X11_numberBehind fu M (iI (k2 : Int)) (iI (len : Int)) 0 32 = some (iI v14, x17, y18) := by simp only [F_X11_numberBehind, m13, zb_some, m26]
        refine Or.inl ⟨k16, (k_kind cc, iI v1, k_second cc, iI v14, iI f15, k_scale cc, k_mode cc), (upd (upd (upd mcmd (5 * i + 1) (iI v1)) (5 * i + 2) (iI v14)) (5 * i + 3) (iI f15)), by omega, by omega, by simp only [CA_3, c3, c12, c25, zb_some, d10, d00, eq_self, or_true, true_or, or_false, not_true_eq_false, if_true, if_false], by simp only [RA_3 hi, m4, n36, m27, zb_some], fun j hj => ?_, rfl, ?_⟩
        · simp (disch := omega) only [up_I, if_neg]
        · refine ⟨v1, v14, f15, ⟨h7, h8⟩, ⟨h21, h22⟩, ⟨h23, h24⟩, rfl, rfl, rfl, ?_, ?_, ?_⟩
          all_goals simp (disch := omega) only [up_I, if_true, if_false, if_pos, if_neg]
      ·
        have n36 : F_X11_numberBehind fu M (iI (k2 : Int)) (iI (len : Int)) 0 32 = some (w30, x31, y32) := by simp only [F_X11_numberBehind, m13, zb_some, m26]
        exact Or.inr ⟨k28, cc29, (upd (upd (upd mcmd (5 * i + 1) (iI v1)) (5 * i + 2) w30) (5 * i + 3) f33), by omega, by omega, by simp only [CA_3, c3, c12, c25, zb_some, d10, d00, eq_self, or_true, true_or, or_false, not_true_eq_false, if_true, if_false], by simp only [RA_3 hi, m4, n36, m27, zb_some]⟩
    ·
      obtain ⟨z37, e38⟩ := w_num7 hf M (k2) (iI (len : Int))
      have n39 : F_X11_numberBehind fu M (iI ((k2 : Nat) : Int)) (iI (len : Int)) 0 32 = some (z37, iI ((k2 : Nat) : Int), 1) := by simp only [F_X11_numberBehind, m13, zb_some, e38]
      obtain ⟨z40, e41⟩ := w_frac (fu := fu) M (k2) (iI (len : Int))
      exact Or.inr ⟨k2, (k_kind cc, iI v1, k_second cc, k_whole cc, k_frac cc, k_scale cc, k_mode cc), (upd (upd (upd mcmd (5 * i + 1) (iI v1)) (5 * i + 2) z37) (5 * i + 3) z40), by omega, by omega, by simp only [CA_3, c3, c12, zb_some, d10, d00, eq_self, or_true, true_or, or_false, not_true_eq_false, if_true, if_false], by simp only [RA_3 hi, m4, n39, e41, zb_some]⟩
  ·
    obtain ⟨z42, e43⟩ := w_numB hf M (k) (iI (len : Int)) 32
    obtain ⟨z44, e45⟩ := w_frac (fu := fu) M (k) (iI (len : Int))
    exact Or.inr ⟨k, cc9, (upd (upd (upd mcmd (5 * i + 1) q10) (5 * i + 2) z42) (5 * i + 3) z44), by omega, by omega, by simp only [CA_3, c3, zb_some, d10, d00, eq_self, or_true, true_or, or_false, not_true_eq_false, if_true, if_false], by simp only [RA_3 hi, m4, e43, e45, zb_some]⟩
theorem A_4 {fu i : Nat} (hf : 30 ≤ fu) (hi : i < 10) {T M : Nat → Int32} {len : Nat} (h : TX T M len) {k : Nat} (hk : k ≤ len) (cc : CC) (mcmd : Nat → Int32) :
    (∃ (k' : Nat) (cc' : CC) (f' : Nat → Int32), k + 1 ≤ k' ∧ k' ≤ len ∧ CA_4 fu T (iI (len : Int)) (iI (k : Int)) cc = some (1, iI (k' : Int), cc') ∧ F_X11_readArguments fu M mcmd (iI (k : Int)) (iI (len : Int)) 0 (iI ((4 : Nat) : Int)) (iI ((5 * i + 1 : Nat) : Int)) = some (f', iI (k' : Int), 0) ∧ (∀ j, j < 5 * i + 1 → f' j = mcmd j) ∧ k_kind cc' = k_kind cc ∧ AR 4 cc' f' (5 * i)) ∨
    ∃ (k' : Nat) (cc' : CC) (f' : Nat → Int32), k ≤ k' ∧ k' ≤ len ∧ CA_4 fu T (iI (len : Int)) (iI (k : Int)) cc = some (0, iI (k' : Int), cc') ∧ F_X11_readArguments fu M mcmd (iI (k : Int)) (iI (len : Int)) 0 (iI ((4 : Nat) : Int)) (iI ((5 * i + 1 : Nat) : Int)) = some (f', iI (k' : Int), 1) := by
  have h60 := h.1
  rcases p_first hf h (show k ≤ len by omega) (k_kind cc, k_first cc, k_second cc, k_whole cc, k_frac cc, k_scale cc, k_mode cc) with ⟨v1, k2, h5, h6, h7, h8, c3, m4⟩ | ⟨⟨cc9, c3⟩, q10, m4⟩
  ·
    rcases p_char h (show k2 ≤ len by omega) (c := 45) (v := 45) rfl (by omega) (by omega) with ⟨h11, c12, m13⟩ | ⟨c12, m13⟩
    ·
      rcases p_second hf h (show (k2 + 1) ≤ len by omega) (k_kind cc, iI v1, k_second cc, k_whole cc, k_frac cc, k_scale cc, k_mode cc) with ⟨v14, k15, h18, h19, h20, h21, c16, m17⟩ | ⟨⟨cc22, c16⟩, q23, m17⟩
      ·
        have n24 : F_X11_numberBehind fu M (iI (k2 : Int)) (iI (len : Int)) 0 45 = some (iI v14, iI (k15 : Int), 0) := by simp only [F_X11_numberBehind, m13, zb_some, m17]
        rcases p_char h (show k15 ≤ len by omega) (c := 32) (v := 32) rfl (by omega) (by omega) with ⟨h25, c26, m27⟩ | ⟨c26, m27⟩
        ·
          rcases p_dec hf h (show (k15 + 1) ≤ len by omega) (k_kind cc, iI v1, iI v14, k_whole cc, k_frac cc, k_scale cc, k_mode cc) with ⟨v28, f29, k30, x31, y32, h33, h34, h35, h36, h37, h38, c39, m40, m41⟩ | ⟨k42, cc43, w44, x45, y46, f47, h48, h49, c39, m40, m41⟩
          ·
            have n50 : F_X11_numberBehind fu M (iI (k15 : Int)) (iI (len : Int)) 0 32 = some (iI v28, x31, y32) := by simp only [F_X11_numberBehind, m27, zb_some, m40]
            refine Or.inl ⟨k30, (k_kind cc, iI v1, iI v14, iI v28, iI f29, k_scale cc, k_mode cc), (upd (upd (upd (upd mcmd (5 * i + 1) (iI v1)) (5 * i + 2) (iI v14)) (5 * i + 3) (iI v28)) (5 * i + 4) (iI f29)), by omega, by omega, by simp only [CA_4, c3, c12, c16, c26, c39, zb_some, d10, d00, eq_self, or_true, true_or, or_false, not_true_eq_false, if_true, if_false], by simp only [RA_4 hi, m4, n24, n50, m41, zb_some], fun j hj => ?_, rfl, ?_⟩
            · simp (disch := omega) only [up_I, if_neg]
            · refine ⟨v1, v14, v28, f29, ⟨h7, h8⟩, ⟨h20, h21⟩, ⟨h35, h36⟩, ⟨h37, h38⟩, rfl, rfl, rfl, rfl, ?_, ?_, ?_, ?_⟩
              all_goals simp (disch := omega) only [up_I, if_true, if_false, if_pos, if_neg]
          ·
            have n50 : F_X11_numberBehind fu M (iI (k15 : Int)) (iI (len : Int)) 0 32 = some (w44, x45, y46) := by simp only [F_X11_numberBehind, m27, zb_some, m40]
            exact Or.inr ⟨k42, cc43, (upd (upd (upd (upd mcmd (5 * i + 1) (iI v1)) (5 * i + 2) (iI v14)) (5 * i + 3) w44) (5 * i + 4) f47), by omega, by omega, by simp only [CA_4, c3, c12, c16, c26, c39, zb_some, d10, d00, eq_self, or_true, true_or, or_false, not_true_eq_false, if_true, if_false], by simp only [RA_4 hi, m4, n24, n50, m41, zb_some]⟩
        ·
          obtain ⟨z51, e52⟩ := w_num7 hf M (k15) (iI (len : Int))
          have n53 : F_X11_numberBehind fu M (iI ((k15 : Nat) : Int)) (iI (len : Int)) 0 32 = some (z51, iI ((k15 : Nat) : Int), 1) := by simp only [F_X11_numberBehind, m27, zb_some, e52]
          obtain ⟨z54, e55⟩ := w_frac (fu := fu) M (k15) (iI (len : Int))
          exact Or.inr ⟨k15, (k_kind cc, iI v1, iI v14, k_whole cc, k_frac cc, k_scale cc, k_mode cc), (upd (upd (upd (upd mcmd (5 * i + 1) (iI v1)) (5 * i + 2) (iI v14)) (5 * i + 3) z51) (5 * i + 4) z54), by omega, by omega, by simp only [CA_4, c3, c12, c16, c26, zb_some, d10, d00, eq_self, or_true, true_or, or_false, not_true_eq_false, if_true, if_false], by simp only [RA_4 hi, m4, n24, n53, e55, zb_some]⟩
      ·
        have n24 : F_X11_numberBehind fu M (iI (k2 : Int)) (iI (len : Int)) 0 45 = some (q23, iI (((k2 + 1) : Nat) : Int), 1) := by simp only [F_X11_numberBehind, m13, zb_some, m17]
        obtain ⟨z56, e57⟩ := w_numB hf M ((k2 + 1)) (iI (len : Int)) 32
        obtain ⟨z58, e59⟩ := w_frac (fu := fu) M ((k2 + 1)) (iI (len : Int))
        exact Or.inr ⟨(k2 + 1), cc22, (upd (upd (upd (upd mcmd (5 * i + 1) (iI v1)) (5 * i + 2) q23) (5 * i + 3) z56) (5 * i + 4) z58), by omega, by omega, by simp only [CA_4, c3, c12, c16, zb_some, d10, d00, eq_self, or_true, true_or, or_false, not_true_eq_false, if_true, if_false], by simp only [RA_4 hi, m4, n24, e57, e59, zb_some]⟩
    ·
      obtain ⟨z60, e61⟩ := w_num7 hf M (k2) (iI (len : Int))
      have n62 : F_X11_numberBehind fu M (iI ((k2 : Nat) : Int)) (iI (len : Int)) 0 45 = some (z60, iI ((k2 : Nat) : Int), 1) := by simp only [F_X11_numberBehind, m13, zb_some, e61]
      obtain ⟨z63, e64⟩ := w_numB hf M (k2) (iI (len : Int)) 32
      obtain ⟨z65, e66⟩ := w_frac (fu := fu) M (k2) (iI (len : Int))
      exact Or.inr ⟨k2, (k_kind cc, iI v1, k_second cc, k_whole cc, k_frac cc, k_scale cc, k_mode cc), (upd (upd (upd (upd mcmd (5 * i + 1) (iI v1)) (5 * i + 2) z60) (5 * i + 3) z63) (5 * i + 4) z65), by omega, by omega, by simp only [CA_4, c3, c12, zb_some, d10, d00, eq_self, or_true, true_or, or_false, not_true_eq_false, if_true, if_false], by simp only [RA_4 hi, m4, n62, e64, e66, zb_some]⟩
  ·
    obtain ⟨z67, e68⟩ := w_numB hf M (k) (iI (len : Int)) 45
    obtain ⟨z69, e70⟩ := w_numB hf M (k) (iI (len : Int)) 32
    obtain ⟨z71, e72⟩ := w_frac (fu := fu) M (k) (iI (len : Int))
    exact Or.inr ⟨k, cc9, (upd (upd (upd (upd mcmd (5 * i + 1) q10) (5 * i + 2) z67) (5 * i + 3) z69) (5 * i + 4) z71), by omega, by omega, by simp only [CA_4, c3, zb_some, d10, d00, eq_self, or_true, true_or, or_false, not_true_eq_false, if_true, if_false], by simp only [RA_4 hi, m4, e68, e70, e72, zb_some]⟩
theorem A_5 {fu i : Nat} (hf : 30 ≤ fu) (hi : i < 10) {T M : Nat → Int32} {len : Nat} (h : TX T M len) {k : Nat} (hk : k ≤ len) (cc : CC) (mcmd : Nat → Int32) :
    (∃ (k' : Nat) (cc' : CC) (f' : Nat → Int32), k + 1 ≤ k' ∧ k' ≤ len ∧ CA_5 fu T (iI (len : Int)) (iI (k : Int)) cc = some (1, iI (k' : Int), cc') ∧ F_X11_readArguments fu M mcmd (iI (k : Int)) (iI (len : Int)) 0 (iI ((5 : Nat) : Int)) (iI ((5 * i + 1 : Nat) : Int)) = some (f', iI (k' : Int), 0) ∧ (∀ j, j < 5 * i + 1 → f' j = mcmd j) ∧ k_kind cc' = k_kind cc ∧ AR 5 cc' f' (5 * i)) ∨
    ∃ (k' : Nat) (cc' : CC) (f' : Nat → Int32), k ≤ k' ∧ k' ≤ len ∧ CA_5 fu T (iI (len : Int)) (iI (k : Int)) cc = some (0, iI (k' : Int), cc') ∧ F_X11_readArguments fu M mcmd (iI (k : Int)) (iI (len : Int)) 0 (iI ((5 : Nat) : Int)) (iI ((5 * i + 1 : Nat) : Int)) = some (f', iI (k' : Int), 1) := by
  have h60 := h.1
  rcases p_first hf h (show k ≤ len by omega) (k_kind cc, k_first cc, k_second cc, k_whole cc, k_frac cc, k_scale cc, k_mode cc) with ⟨v1, k2, h5, h6, h7, h8, c3, m4⟩ | ⟨⟨cc9, c3⟩, q10, m4⟩
  ·
    rcases p_digB h (show k2 ≤ len by omega) (k_kind cc, iI v1, k_second cc, k_whole cc, k_frac cc, k_scale cc, k_mode cc) with ⟨v11, h12, h13, h14, c15, c16, m17⟩ | ⟨h18, c15, ⟨cc19, c16⟩, q20, m17⟩ | ⟨c15, q20, m17⟩
    ·
      refine Or.inl ⟨(k2 + 2), (k_kind cc, iI v1, k_second cc, k_whole cc, k_frac cc, iI v11, k_mode cc), (upd (upd mcmd (5 * i + 1) (iI v1)) (5 * i + 2) (iI v11)), by omega, by omega, by simp only [CA_5, c3, c15, c16, zb_some, d10, d00, eq_self, or_true, true_or, or_false, not_true_eq_false, if_true, if_false], by simp only [RA_5 hi, m4, m17, zb_some], fun j hj => ?_, rfl, ?_⟩
      · simp (disch := omega) only [up_I, if_neg]
      · refine ⟨v1, v11, ⟨h7, h8⟩, ⟨h12, h13⟩, rfl, rfl, ?_, ?_⟩
        all_goals simp (disch := omega) only [up_I, if_true, if_false, if_pos, if_neg]
    ·
      exact Or.inr ⟨(k2 + 1), cc19, (upd (upd mcmd (5 * i + 1) (iI v1)) (5 * i + 2) q20), by omega, by omega, by simp only [CA_5, c3, c15, c16, zb_some, d10, d00, eq_self, or_true, true_or, or_false, not_true_eq_false, if_true, if_false], by simp only [RA_5 hi, m4, m17, zb_some]⟩
    ·
      exact Or.inr ⟨k2, (k_kind cc, iI v1, k_second cc, k_whole cc, k_frac cc, k_scale cc, k_mode cc), (upd (upd mcmd (5 * i + 1) (iI v1)) (5 * i + 2) q20), by omega, by omega, by simp only [CA_5, c3, c15, zb_some, d10, d00, eq_self, or_true, true_or, or_false, not_true_eq_false, if_true, if_false], by simp only [RA_5 hi, m4, m17, zb_some]⟩
  ·
    obtain ⟨z21, e22⟩ := w_digB M (k) (iI (len : Int))
    exact Or.inr ⟨k, cc9, (upd (upd mcmd (5 * i + 1) q10) (5 * i + 2) z21), by omega, by omega, by simp only [CA_5, c3, zb_some, d10, d00, eq_self, or_true, true_or, or_false, not_true_eq_false, if_true, if_false], by simp only [RA_5 hi, m4, e22, zb_some]⟩
theorem A_6 {fu i : Nat} (hf : 30 ≤ fu) (hi : i < 10) {T M : Nat → Int32} {len : Nat} (h : TX T M len) {k : Nat} (hk : k ≤ len) (cc : CC) (mcmd : Nat → Int32) :
    (∃ (k' : Nat) (cc' : CC) (f' : Nat → Int32), k + 1 ≤ k' ∧ k' ≤ len ∧ CA_6 fu T (iI (len : Int)) (iI (k : Int)) cc = some (1, iI (k' : Int), cc') ∧ F_X11_readArguments fu M mcmd (iI (k : Int)) (iI (len : Int)) 0 (iI ((6 : Nat) : Int)) (iI ((5 * i + 1 : Nat) : Int)) = some (f', iI (k' : Int), 0) ∧ (∀ j, j < 5 * i + 1 → f' j = mcmd j) ∧ k_kind cc' = k_kind cc ∧ AR 6 cc' f' (5 * i)) ∨
    ∃ (k' : Nat) (cc' : CC) (f' : Nat → Int32), k ≤ k' ∧ k' ≤ len ∧ CA_6 fu T (iI (len : Int)) (iI (k : Int)) cc = some (0, iI (k' : Int), cc') ∧ F_X11_readArguments fu M mcmd (iI (k : Int)) (iI (len : Int)) 0 (iI ((6 : Nat) : Int)) (iI ((5 * i + 1 : Nat) : Int)) = some (f', iI (k' : Int), 1) := by
  have h60 := h.1
  rcases p_first hf h (show k ≤ len by omega) (k_kind cc, k_first cc, k_second cc, k_whole cc, k_frac cc, k_scale cc, k_mode cc) with ⟨v1, k2, h5, h6, h7, h8, c3, m4⟩ | ⟨⟨cc9, c3⟩, q10, m4⟩
  ·
    rcases p_modeB hf h (show k2 ≤ len by omega) (k_kind cc, iI v1, k_second cc, k_whole cc, k_frac cc, k_scale cc, k_mode cc) with ⟨v11, h12, h13, c14, c15, m16⟩ | ⟨h17, c14, c15, q19, m16⟩ | ⟨c14, q19, m16⟩
    ·
      refine Or.inl ⟨(k2 + 2), (k_kind cc, iI v1, k_second cc, k_whole cc, k_frac cc, k_scale cc, iI v11), (upd (upd mcmd (5 * i + 1) (iI v1)) (5 * i + 2) (iI v11)), by omega, by omega, by simp only [CA_6, c3, c14, c15, zb_some, d10, d00, eq_self, or_true, true_or, or_false, not_true_eq_false, if_true, if_false], by simp only [RA_6 hi, m4, m16, zb_some], fun j hj => ?_, rfl, ?_⟩
      · simp (disch := omega) only [up_I, if_neg]
      · refine ⟨v1, v11, ⟨h7, h8⟩, h12, rfl, rfl, ?_, ?_⟩
        all_goals simp (disch := omega) only [up_I, if_true, if_false, if_pos, if_neg]
    ·
      exact Or.inr ⟨(k2 + 1), (k_kind cc, iI v1, k_second cc, k_whole cc, k_frac cc, k_scale cc, k_mode cc), (upd (upd mcmd (5 * i + 1) (iI v1)) (5 * i + 2) q19), by omega, by omega, by simp only [CA_6, c3, c14, c15, zb_some, d10, d00, eq_self, or_true, true_or, or_false, not_true_eq_false, if_true, if_false], by simp only [RA_6 hi, m4, m16, zb_some]⟩
    ·
      exact Or.inr ⟨k2, (k_kind cc, iI v1, k_second cc, k_whole cc, k_frac cc, k_scale cc, k_mode cc), (upd (upd mcmd (5 * i + 1) (iI v1)) (5 * i + 2) q19), by omega, by omega, by simp only [CA_6, c3, c14, zb_some, d10, d00, eq_self, or_true, true_or, or_false, not_true_eq_false, if_true, if_false], by simp only [RA_6 hi, m4, m16, zb_some]⟩
  ·
    obtain ⟨z20, e21⟩ := w_modeB h (show k ≤ len by omega)
    exact Or.inr ⟨k, cc9, (upd (upd mcmd (5 * i + 1) q10) (5 * i + 2) z20), by omega, by omega, by simp only [CA_6, c3, zb_some, d10, d00, eq_self, or_true, true_or, or_false, not_true_eq_false, if_true, if_false], by simp only [RA_6 hi, m4, e21, zb_some]⟩
theorem A_7 {fu i : Nat} (hf : 30 ≤ fu) (hi : i < 10) {T M : Nat → Int32} {len : Nat} (h : TX T M len) {k : Nat} (hk : k ≤ len) (cc : CC) (mcmd : Nat → Int32) :
    (∃ (k' : Nat) (cc' : CC) (f' : Nat → Int32), k + 1 ≤ k' ∧ k' ≤ len ∧ CA_7 fu T (iI (len : Int)) (iI (k : Int)) cc = some (1, iI (k' : Int), cc') ∧ F_X11_readArguments fu M mcmd (iI (k : Int)) (iI (len : Int)) 0 (iI ((7 : Nat) : Int)) (iI ((5 * i + 1 : Nat) : Int)) = some (f', iI (k' : Int), 0) ∧ (∀ j, j < 5 * i + 1 → f' j = mcmd j) ∧ k_kind cc' = k_kind cc ∧ AR 7 cc' f' (5 * i)) ∨
    ∃ (k' : Nat) (cc' : CC) (f' : Nat → Int32), k ≤ k' ∧ k' ≤ len ∧ CA_7 fu T (iI (len : Int)) (iI (k : Int)) cc = some (0, iI (k' : Int), cc') ∧ F_X11_readArguments fu M mcmd (iI (k : Int)) (iI (len : Int)) 0 (iI ((7 : Nat) : Int)) (iI ((5 * i + 1 : Nat) : Int)) = some (f', iI (k' : Int), 1) := by
  have h60 := h.1
  rcases p_scaleC h (show k ≤ len by omega) (k_kind cc, k_first cc, k_second cc, k_whole cc, k_frac cc, k_scale cc, k_mode cc) with ⟨v1, h2, h3, h4, c5, m6⟩ | ⟨⟨cc7, c5⟩, m6⟩
  ·
    refine Or.inl ⟨(k + 1), (k_kind cc, k_first cc, k_second cc, k_whole cc, k_frac cc, iI v1, k_mode cc), (upd mcmd (5 * i + 1) (iI v1)), by omega, by omega, by simp only [CA_7, c5, zb_some, d10, d00, eq_self, or_true, true_or, or_false, not_true_eq_false, if_true, if_false], by simp only [RA_7 hi, m6, zb_some], fun j hj => ?_, rfl, ?_⟩
    · simp (disch := omega) only [up_I, if_neg]
    · refine ⟨v1, ⟨h3, h4⟩, rfl, ?_⟩
      all_goals simp (disch := omega) only [up_I, if_true, if_false, if_pos, if_neg]
  ·
    exact Or.inr ⟨k, cc7, (upd mcmd (5 * i + 1) 0), by omega, by omega, by simp only [CA_7, c5, zb_some, d10, d00, eq_self, or_true, true_or, or_false, not_true_eq_false, if_true, if_false], by simp only [RA_7 hi, m6, zb_some]⟩
