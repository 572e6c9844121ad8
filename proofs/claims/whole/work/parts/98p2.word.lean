-- the eight commands' words: what is read behind them, on both sides
def CA_0 (fu : Nat) (ptx : Nat → Int32) (plen ppos : Int32) (cc : CC) : Option (Int32 × Int32 × CC) :=
    (zbind (F_X6_readDecimal fu ptx plen ppos cc) fun zo7 =>
    if zo7.1 = 0 then (some (0, zo7.2.1, zo7.2.2))
    else (zbind (F_X6_readCharacter ptx plen zo7.2.1 32) fun zo9 =>
    if zo9.1 = 0 then (some (0, zo9.2, zo7.2.2))
    else (zbind (F_X6_readScaleAndMode fu ptx plen zo9.2 zo7.2.2) fun zo11 =>
    if zo11.1 = 0 then (some (0, zo11.2.1, zo11.2.2))
    else (some (1, zo11.2.1, zo11.2.2)))))
def CA_1 (fu : Nat) (ptx : Nat → Int32) (plen ppos : Int32) (cc : CC) : Option (Int32 × Int32 × CC) :=
    (zbind (F_X6_readFirst fu ptx plen ppos cc) fun zo14 =>
    if zo14.1 = 0 then (some (0, zo14.2.1, zo14.2.2))
    else (zbind (F_X6_readCharacter ptx plen zo14.2.1 47) fun zo16 =>
    if zo16.1 = 0 then (some (0, zo16.2, zo14.2.2))
    else (zbind (F_X6_readSecond fu ptx plen zo16.2 zo14.2.2) fun zo18 =>
    if zo18.1 = 0 then (some (0, zo18.2.1, zo18.2.2))
    else (zbind (F_X6_readCharacter ptx plen zo18.2.1 32) fun zo20 =>
    if zo20.1 = 0 then (some (0, zo20.2, zo18.2.2))
    else (zbind (F_X6_readScaleAndMode fu ptx plen zo20.2 zo18.2.2) fun zo22 =>
    if zo22.1 = 0 then (some (0, zo22.2.1, zo22.2.2))
    else (some (1, zo22.2.1, zo22.2.2)))))))
def CA_2 (fu : Nat) (ptx : Nat → Int32) (plen ppos : Int32) (cc : CC) : Option (Int32 × Int32 × CC) :=
    (zbind (F_X6_readFirst fu ptx plen ppos cc) fun zo25 =>
    if ¬ (zo25.1 = 0 ∨ zo25.1 = 1) then none else
    some (zo25.1, zo25.2.1, zo25.2.2))
def CA_3 (fu : Nat) (ptx : Nat → Int32) (plen ppos : Int32) (cc : CC) : Option (Int32 × Int32 × CC) :=
    (zbind (F_X6_readFirst fu ptx plen ppos cc) fun zo28 =>
    if zo28.1 = 0 then (some (0, zo28.2.1, zo28.2.2))
    else (zbind (F_X6_readCharacter ptx plen zo28.2.1 32) fun zo30 =>
    if zo30.1 = 0 then (some (0, zo30.2, zo28.2.2))
    else (zbind (F_X6_readDecimal fu ptx plen zo30.2 zo28.2.2) fun zo32 =>
    if zo32.1 = 0 then (some (0, zo32.2.1, zo32.2.2))
    else (some (1, zo32.2.1, zo32.2.2)))))
def CA_4 (fu : Nat) (ptx : Nat → Int32) (plen ppos : Int32) (cc : CC) : Option (Int32 × Int32 × CC) :=
    (zbind (F_X6_readFirst fu ptx plen ppos cc) fun zo35 =>
    if zo35.1 = 0 then (some (0, zo35.2.1, zo35.2.2))
    else (zbind (F_X6_readCharacter ptx plen zo35.2.1 45) fun zo37 =>
    if zo37.1 = 0 then (some (0, zo37.2, zo35.2.2))
    else (zbind (F_X6_readSecond fu ptx plen zo37.2 zo35.2.2) fun zo39 =>
    if zo39.1 = 0 then (some (0, zo39.2.1, zo39.2.2))
    else (zbind (F_X6_readCharacter ptx plen zo39.2.1 32) fun zo41 =>
    if zo41.1 = 0 then (some (0, zo41.2, zo39.2.2))
    else (zbind (F_X6_readDecimal fu ptx plen zo41.2 zo39.2.2) fun zo43 =>
    if zo43.1 = 0 then (some (0, zo43.2.1, zo43.2.2))
    else (some (1, zo43.2.1, zo43.2.2)))))))
def CA_5 (fu : Nat) (ptx : Nat → Int32) (plen ppos : Int32) (cc : CC) : Option (Int32 × Int32 × CC) :=
    (zbind (F_X6_readFirst fu ptx plen ppos cc) fun zo46 =>
    if zo46.1 = 0 then (some (0, zo46.2.1, zo46.2.2))
    else (zbind (F_X6_readCharacter ptx plen zo46.2.1 32) fun zo48 =>
    if zo48.1 = 0 then (some (0, zo48.2, zo46.2.2))
    else (zbind (F_X6_readScale ptx plen zo48.2 zo46.2.2) fun zo50 =>
    if zo50.1 = 0 then (some (0, zo50.2.1, zo50.2.2))
    else (some (1, zo50.2.1, zo50.2.2)))))
def CA_6 (fu : Nat) (ptx : Nat → Int32) (plen ppos : Int32) (cc : CC) : Option (Int32 × Int32 × CC) :=
    (zbind (F_X6_readFirst fu ptx plen ppos cc) fun zo53 =>
    if zo53.1 = 0 then (some (0, zo53.2.1, zo53.2.2))
    else (zbind (F_X6_readCharacter ptx plen zo53.2.1 32) fun zo55 =>
    if zo55.1 = 0 then (some (0, zo55.2, zo53.2.2))
    else (zbind (F_X6_readMode fu ptx plen zo55.2 zo53.2.2) fun zo57 =>
    if zo57.1 = 0 then (some (0, zo57.2.1, zo57.2.2))
    else (some (1, zo57.2.1, zo57.2.2)))))
def CA_7 (fu : Nat) (ptx : Nat → Int32) (plen ppos : Int32) (cc : CC) : Option (Int32 × Int32 × CC) :=
    (zbind (F_X6_readScale ptx plen ppos cc) fun zo59 =>
    if ¬ (zo59.1 = 0 ∨ zo59.1 = 1) then none else
    some (zo59.1, zo59.2.1, zo59.2.2))

theorem d10 : ((1 : Int32) = 0) = False := by decide
theorem d00 : ((0 : Int32) = 0) = True := by decide
theorem dmm : ((-1 : Int32) = -1) = True := by decide
theorem dn1 : (¬ ((1 : Int32) = 0 ∨ (1 : Int32) = 1)) = False := by decide
theorem dn0 : (¬ ((0 : Int32) = 0 ∨ (0 : Int32) = 1)) = False := by decide
theorem iv_m {v : Int} (h : 0 ≤ v) (h' : v < 1000000) : (iI v = -1) = False := by
  rw [ii_L1, ii_neg, ii_eq (by omega) (by omega) (by omega) (by omega)]; exact eq_false (by omega)
theorem p_first {fu : Nat} (hf : 30 ≤ fu) {T M : Nat → Int32} {len : Nat} (h : TX T M len) {k : Nat} (hk : k ≤ len) (cc : CC) :
    (∃ (v : Int) (k' : Nat), k < k' ∧ k' ≤ len ∧ 0 ≤ v ∧ v < 1000000 ∧ F_X6_readFirst fu T (iI (len : Int)) (iI (k : Int)) cc = some (1, iI (k' : Int), (k_kind cc, iI v, k_second cc, k_whole cc, k_frac cc, k_scale cc, k_mode cc)) ∧ F_X11_number fu M (iI (k : Int)) (iI (len : Int)) 0 = some (iI v, iI (k' : Int), 0)) ∨
    ((∃ cc', F_X6_readFirst fu T (iI (len : Int)) (iI (k : Int)) cc = some (0, iI (k : Int), cc')) ∧ ∃ q, F_X11_number fu M (iI (k : Int)) (iI (len : Int)) 0 = some (q, iI (k : Int), 1)) := by
  rcases p_number hf h hk with ⟨v, k', h1, h2, h3, h4, h5, h6⟩ | ⟨h1, h2⟩
  · exact Or.inl ⟨v, k', h1, h2, h3, h4, by simp only [F_X6_readFirst, h5, zb_some, iv_m h3 h4, if_false], h6⟩
  · exact Or.inr ⟨⟨(k_kind cc, -1, k_second cc, k_whole cc, k_frac cc, k_scale cc, k_mode cc), by simp only [F_X6_readFirst, h1, zb_some, dmm, if_true]⟩, h2⟩
theorem p_second {fu : Nat} (hf : 30 ≤ fu) {T M : Nat → Int32} {len : Nat} (h : TX T M len) {k : Nat} (hk : k ≤ len) (cc : CC) :
    (∃ (v : Int) (k' : Nat), k < k' ∧ k' ≤ len ∧ 0 ≤ v ∧ v < 1000000 ∧ F_X6_readSecond fu T (iI (len : Int)) (iI (k : Int)) cc = some (1, iI (k' : Int), (k_kind cc, k_first cc, iI v, k_whole cc, k_frac cc, k_scale cc, k_mode cc)) ∧ F_X11_number fu M (iI (k : Int)) (iI (len : Int)) 0 = some (iI v, iI (k' : Int), 0)) ∨
    ((∃ cc', F_X6_readSecond fu T (iI (len : Int)) (iI (k : Int)) cc = some (0, iI (k : Int), cc')) ∧ ∃ q, F_X11_number fu M (iI (k : Int)) (iI (len : Int)) 0 = some (q, iI (k : Int), 1)) := by
  rcases p_number hf h hk with ⟨v, k', h1, h2, h3, h4, h5, h6⟩ | ⟨h1, h2⟩
  · exact Or.inl ⟨v, k', h1, h2, h3, h4, by simp only [F_X6_readSecond, h5, zb_some, iv_m h3 h4, if_false], h6⟩
  · exact Or.inr ⟨⟨(k_kind cc, k_first cc, -1, k_whole cc, k_frac cc, k_scale cc, k_mode cc), by simp only [F_X6_readSecond, h1, zb_some, dmm, if_true]⟩, h2⟩
theorem p_scaleC {T M : Nat → Int32} {len : Nat} (h : TX T M len) {k : Nat} (hk : k ≤ len) (cc : CC) :
    (∃ d : Int, k < len ∧ 0 ≤ d ∧ d ≤ 9 ∧ F_X6_readScale T (iI (len : Int)) (iI (k : Int)) cc = some (1, iI ((k + 1 : Nat) : Int), (k_kind cc, k_first cc, k_second cc, k_whole cc, k_frac cc, iI d, k_mode cc)) ∧ F_X11_digitHere M (iI (k : Int)) (iI (len : Int)) 0 = some (iI d, iI ((k + 1 : Nat) : Int), 0)) ∨
    ((∃ cc', F_X6_readScale T (iI (len : Int)) (iI (k : Int)) cc = some (0, iI (k : Int), cc')) ∧ F_X11_digitHere M (iI (k : Int)) (iI (len : Int)) 0 = some (0, iI (k : Int), 1)) := by
  rcases p_digit h hk with ⟨d, h1, h2, h3, h4, h5, _⟩ | ⟨h1, h2, _⟩
  · exact Or.inl ⟨d, h1, h2, h3, by simp only [F_X6_readScale, h4, zb_some, iv_m h2 (show d < 1000000 by omega), if_false], h5⟩
  · exact Or.inr ⟨⟨(k_kind cc, k_first cc, k_second cc, k_whole cc, k_frac cc, -1, k_mode cc), by simp only [F_X6_readScale, h1, zb_some, dmm, if_true]⟩, h2⟩
/-- a decimal -/
theorem p_dec {fu : Nat} (hf : 30 ≤ fu) {T M : Nat → Int32} {len : Nat} (h : TX T M len) {k : Nat} (hk : k ≤ len) (cc : CC) :
    (∃ (w f : Int) (k' : Nat) (x y : Int32), k < k' ∧ k' ≤ len ∧ 0 ≤ w ∧ w < 1000000 ∧ 0 ≤ f ∧ f < 10000 ∧ F_X6_readDecimal fu T (iI (len : Int)) (iI (k : Int)) cc = some (1, iI (k' : Int), (k_kind cc, k_first cc, k_second cc, iI w, iI f, k_scale cc, k_mode cc)) ∧ F_X11_number fu M (iI (k : Int)) (iI (len : Int)) 0 = some (iI w, x, y) ∧ F_X11_fractionHere fu M x (iI (len : Int)) y = some (iI f, iI (k' : Int), 0)) ∨
    ∃ (k' : Nat) (cc' : CC) (w x y f : Int32), k ≤ k' ∧ k' ≤ len ∧ F_X6_readDecimal fu T (iI (len : Int)) (iI (k : Int)) cc = some (0, iI (k' : Int), cc') ∧ F_X11_number fu M (iI (k : Int)) (iI (len : Int)) 0 = some (w, x, y) ∧ F_X11_fractionHere fu M x (iI (len : Int)) y = some (f, iI (k' : Int), 1) := by
  have h60 := h.1
  rcases p_number hf h hk with ⟨v, k1, h1, h2, h3, h4, h5, h6⟩ | ⟨h1, q, h2⟩
  · have dot : (k1 < len ∧ M k1 = iI 46 ∧ F_X6_readCharacter T (iI (len : Int)) (iI (k1 : Int)) 46 = some (1, iI ((k1 + 1 : Nat) : Int)) ∧ F_X11_here M (iI (k1 : Int)) (iI (len : Int)) = some 46) ∨ (F_X6_readCharacter T (iI (len : Int)) (iI (k1 : Int)) 46 = some (0, iI (k1 : Int)) ∧ ∃ z, F_X11_here M (iI (k1 : Int)) (iI (len : Int)) = some z ∧ ¬ z = 46) := by
      unfold F_X6_readCharacter
      rw [ti_le (by omega) (by omega) (by omega) (by omega)]
      rcases tx_here h h2 with ⟨hlt, eh⟩ | ⟨he, eh⟩
      · obtain ⟨w, e1, e2, w0, w1⟩ := tx_c h hlt
        rw [if_neg (by omega), if_neg (ii_gd (by omega) (by omega)), ii_nc k1 (by omega), e1]
        by_cases e : iI w = 46
        · left
          rw [if_pos e, ii_L1, ii_add, ii_nx]
          exact ⟨hlt, by rw [e2]; exact e, rfl, by rw [eh, e2]; exact congrArg some e⟩
        · right
          rw [if_neg e]
          exact ⟨rfl, iI w, by rw [eh, e2], e⟩
      · right
        rw [if_pos (by omega)]
        exact ⟨rfl, iI (-1), eh, by decide⟩
    rcases dot with ⟨hlt, _, c1, c2⟩ | ⟨c1, z, c2, c3⟩
    · rcases p_digit h (show k1 + 1 ≤ len by omega) with ⟨d, g1, g2, g3, g4, g5, _⟩ | ⟨g1, g2, _⟩
      · left
        obtain ⟨f, k2, r1, r2, r3, r4, r5, r6⟩ := p_frac hf h (k_kind cc, k_first cc, k_second cc, iI v, 0, k_scale cc, k_mode cc) 3 1 (k1 + 1 + 1) fu fu d d (by omega) (by omega) (by omega) (by omega) (by omega) g2 (by rw [Int.pow_one]; omega) g2 g3
        have r5' : F_X6_readFraction_17 fu fu T (iI (len : Int)) (iI ((k1 + 1 + 1 : Nat) : Int)) (k_kind cc, k_first cc, k_second cc, iI v, 0, k_scale cc, k_mode cc) (iI d) (iI d) 1 = some (1, iI (k2 : Int), (k_kind cc, k_first cc, k_second cc, iI v, iI f, k_scale cc, k_mode cc)) := r5
        refine ⟨v, f, k2, iI (k1 : Int), 0, by omega, r2, h3, h4, r3, r4, ?_, h6, ?_⟩
        · simp only [F_X6_readDecimal, h5, zb_some, iv_m h3 h4, if_false, c1, d10, F_X6_readFraction, g4, iv_m g2 (show d < 1000000 by omega), r5']
        · unfold F_X11_fractionHere
          rw [if_pos rfl, c2, zb_some, if_pos rfl, show iI (k1 : Int) + 1 = iI ((k1 + 1 : Nat) : Int) from by rw [ii_L1, ii_add]; rfl, g5, zb_some]
          exact r6
      · right
        refine ⟨k1 + 1, (k_kind cc, k_first cc, k_second cc, iI v, 0, k_scale cc, k_mode cc), iI v, iI (k1 : Int), 0, iI (0 * 10 ^ 3), by omega, by omega, ?_, h6, ?_⟩
        · simp only [F_X6_readDecimal, h5, zb_some, iv_m h3 h4, if_false, c1, d10, F_X6_readFraction, g1, dmm, if_true, d00]
        · unfold F_X11_fractionHere
          rw [if_pos rfl, c2, zb_some, if_pos rfl, show iI (k1 : Int) + 1 = iI ((k1 + 1 : Nat) : Int) from by rw [ii_L1, ii_add]; rfl, g2, zb_some]
          obtain ⟨n, hn⟩ : ∃ n, fu = n + 1 := ⟨fu - 1, by omega⟩
          show F_X11_fractionHere_35 fu fu M (iI ((k1 + 1 : Nat) : Int)) (iI (len : Int)) 1 0 1 = _
          conv => lhs; rw [hn]
          unfold F_X11_fractionHere_35
          rw [if_neg (by decide), if_neg (by decide)]
          exact f11_f80 (fu := n + 1) M (iI ((k1 + 1 : Nat) : Int)) (iI (len : Int)) 1 3 1 (n + 1) 0 (by omega) (by omega)
    · left
      refine ⟨v, 0, k1, iI (k1 : Int), 0, h1, h2, h3, h4, by omega, by omega, ?_, h6, ?_⟩
      · simp only [F_X6_readDecimal, h5, zb_some, iv_m h3 h4, if_false, c1, d00, if_true]
        rfl
      · unfold F_X11_fractionHere
        rw [if_pos rfl, c2, zb_some, if_neg c3]
        rfl
  · right
    obtain ⟨f, e⟩ := w_frac (fu := fu) M k (iI (len : Int))
    refine ⟨k, (k_kind cc, k_first cc, k_second cc, -1, 0, k_scale cc, k_mode cc), q, iI (k : Int), 1, f, Nat.le_refl _, hk, ?_, h2, e⟩
    · simp only [F_X6_readDecimal, h1, zb_some, dmm, if_true]
/-- a space and a mode -/
theorem p_modeB {fu : Nat} (hf : 30 ≤ fu) {T M : Nat → Int32} {len : Nat} (h : TX T M len) {k : Nat} (hk : k ≤ len) (cc : CC) :
    (∃ m : Int, md m ∧ k + 2 ≤ len ∧ F_X6_readCharacter T (iI (len : Int)) (iI (k : Int)) 32 = some (1, iI ((k + 1 : Nat) : Int)) ∧ F_X6_readMode fu T (iI (len : Int)) (iI ((k + 1 : Nat) : Int)) cc = some (1, iI ((k + 2 : Nat) : Int), (k_kind cc, k_first cc, k_second cc, k_whole cc, k_frac cc, k_scale cc, iI m)) ∧ F_X11_modeBehind M (iI (k : Int)) (iI (len : Int)) 0 = some (iI m, iI ((k + 2 : Nat) : Int), 0)) ∨
    (k < len ∧ F_X6_readCharacter T (iI (len : Int)) (iI (k : Int)) 32 = some (1, iI ((k + 1 : Nat) : Int)) ∧ F_X6_readMode fu T (iI (len : Int)) (iI ((k + 1 : Nat) : Int)) cc = some (0, iI ((k + 1 : Nat) : Int), cc) ∧ ∃ q, F_X11_modeBehind M (iI (k : Int)) (iI (len : Int)) 0 = some (q, iI ((k + 1 : Nat) : Int), 1)) ∨
    (F_X6_readCharacter T (iI (len : Int)) (iI (k : Int)) 32 = some (0, iI (k : Int)) ∧ ∃ q, F_X11_modeBehind M (iI (k : Int)) (iI (len : Int)) 0 = some (q, iI (k : Int), 1)) := by
  have h60 := h.1
  rcases p_char h hk (c := 32) (v := 32) rfl (by omega) (by omega) with ⟨hlt, c1, c2⟩ | ⟨c1, c2⟩
  · have z0 : ∀ {X Y : Option (Int32 × Int32 × Int32)}, (if ((iI ((k + 1 : Nat) : Int), (0 : Int32)) : Int32 × Int32).2 = 0 then X else Y) = X := fun {X Y} => if_pos rfl
    unfold F_X11_modeBehind
    rw [c2, zb_some, z0]
    unfold F_X6_readMode
    rw [ti_le (by omega) (by omega) (by omega) (by omega)]
    rcases tx_here h (show k + 1 ≤ len by omega) with ⟨hlt2, eh⟩ | ⟨he, eh⟩
    · obtain ⟨w, e1, e2, w0, w1⟩ := tx_c h hlt2
      obtain ⟨x, i1, i2⟩ := f1_index (m := w) ⟨by omega, by omega⟩ (fu := fu) (by omega)
      have hg := ii_gd (show k + 1 < 60 by omega) (show 60 < 2147483648 by omega)
      rw [e2] at eh
      rw [if_neg (by omega), if_neg hg, ii_nc (k + 1) (by omega), e1, i1, zb_some, if_neg (ii_gx (show k + 1 < 60 by omega)), show F_X11_here M ((iI ((k + 1 : Nat) : Int), (0 : Int32)) : Int32 × Int32).1 (iI (len : Int)) = some (iI w) from eh, zb_some]
      by_cases hm : md w
      · left
        rw [f11_mdY hm, zb_some, if_neg (of_eq_false i1_0), if_pos (i2.mpr hm), if_neg (show ¬ ¬ (0 ≤ iI w ∧ iI w ≤ 65535) from fun n => n (ch_fit w0 w1))]
        refine ⟨w, hm, by omega, c1, by rw [ii_L1, ii_add]; rfl, ?_⟩
        unfold F_X11_modeBehind_29
        rw [if_neg (by decide), show F_X11_here M ((iI ((k + 1 : Nat) : Int), (0 : Int32)) : Int32 × Int32).1 (iI (len : Int)) = some (iI w) from eh, zb_some, if_pos rfl]
        show some (iI w, iI ((k + 1 : Nat) : Int) + 1, (0 : Int32)) = _
        rw [ii_L1, ii_add]; rfl
      · right; left
        rw [f11_mdN ⟨by omega, by omega⟩ hm, zb_some, if_pos (of_eq_true i0_0), if_neg (fun n => hm (i2.mp n))]
        refine ⟨hlt, c1, rfl, iI w, ?_⟩
        unfold F_X11_modeBehind_29
        rw [if_neg (by decide), show F_X11_here M ((iI ((k + 1 : Nat) : Int), (0 : Int32)) : Int32 × Int32).1 (iI (len : Int)) = some (iI w) from eh, zb_some, if_neg (by decide)]
        show some (iI w, iI ((k + 1 : Nat) : Int) + 0, (1 : Int32)) = _
        rw [ii_L0, ii_add, zi_z]
    · right; left
      rw [if_pos (by omega), show F_X11_here M ((iI ((k + 1 : Nat) : Int), (0 : Int32)) : Int32 × Int32).1 (iI (len : Int)) = some (iI (-1)) from eh, zb_some, f11_mdN ⟨by omega, by omega⟩ (fun n => by rcases n with n|n|n|n|n <;> omega), zb_some, if_pos (by decide)]
      refine ⟨hlt, c1, rfl, iI (-1), ?_⟩
      unfold F_X11_modeBehind_29
      rw [if_neg (by decide), show F_X11_here M ((iI ((k + 1 : Nat) : Int), (0 : Int32)) : Int32 × Int32).1 (iI (len : Int)) = some (iI (-1)) from eh, zb_some, if_neg (by decide)]
      show some (iI (-1), iI ((k + 1 : Nat) : Int) + 0, (1 : Int32)) = _
      rw [ii_L0, ii_add, zi_z]
  · right; right
    refine ⟨c1, ?_⟩
    obtain ⟨x, hx⟩ : ∃ x, F_X11_here M (iI (k : Int)) (iI (len : Int)) = some x := by
      rcases tx_here h hk with ⟨_, e⟩ | ⟨_, e⟩
      · exact ⟨_, e⟩
      · exact ⟨_, e⟩
    refine ⟨x, ?_⟩
    unfold F_X11_modeBehind F_X11_modeBehind_29
    rw [c2, zb_some, if_neg (show ¬ ((1 : Int32) = 0) by decide), if_neg (by decide)]
    show zbind (F_X11_here M (iI (k : Int)) (iI (len : Int))) _ = _
    rw [hx, zb_some, if_neg (by decide)]
    show some (x, iI (k : Int) + 0, (1 : Int32)) = _
    rw [ii_L0, ii_add, zi_z]
/-- a space and a digit -/
theorem p_digB {T M : Nat → Int32} {len : Nat} (h : TX T M len) {k : Nat} (hk : k ≤ len) (cc : CC) :
    (∃ d : Int, 0 ≤ d ∧ d ≤ 9 ∧ k + 2 ≤ len ∧ F_X6_readCharacter T (iI (len : Int)) (iI (k : Int)) 32 = some (1, iI ((k + 1 : Nat) : Int)) ∧ F_X6_readScale T (iI (len : Int)) (iI ((k + 1 : Nat) : Int)) cc = some (1, iI ((k + 2 : Nat) : Int), (k_kind cc, k_first cc, k_second cc, k_whole cc, k_frac cc, iI d, k_mode cc)) ∧ F_X11_digitBehind M (iI (k : Int)) (iI (len : Int)) 0 = some (iI d, iI ((k + 2 : Nat) : Int), 0)) ∨
    (k < len ∧ F_X6_readCharacter T (iI (len : Int)) (iI (k : Int)) 32 = some (1, iI ((k + 1 : Nat) : Int)) ∧ (∃ cc', F_X6_readScale T (iI (len : Int)) (iI ((k + 1 : Nat) : Int)) cc = some (0, iI ((k + 1 : Nat) : Int), cc')) ∧ ∃ q, F_X11_digitBehind M (iI (k : Int)) (iI (len : Int)) 0 = some (q, iI ((k + 1 : Nat) : Int), 1)) ∨
    (F_X6_readCharacter T (iI (len : Int)) (iI (k : Int)) 32 = some (0, iI (k : Int)) ∧ ∃ q, F_X11_digitBehind M (iI (k : Int)) (iI (len : Int)) 0 = some (q, iI (k : Int), 1)) := by
  rcases p_char h hk (c := 32) (v := 32) rfl (by omega) (by omega) with ⟨hlt, c1, c2⟩ | ⟨c1, c2⟩
  · rcases p_scaleC h (show k + 1 ≤ len by omega) cc with ⟨d, g1, g2, g3, g4, g5⟩ | ⟨g1, g2⟩
    · exact Or.inl ⟨d, g2, g3, by omega, c1, g4, by simp only [F_X11_digitBehind, c2, zb_some, g5]⟩
    · exact Or.inr (Or.inl ⟨hlt, c1, g1, _, by simp only [F_X11_digitBehind, c2, zb_some, g2]; rfl⟩)
  · exact Or.inr (Or.inr ⟨c1, _, by simp only [F_X11_digitBehind, c2, zb_some, w_dig]; rfl⟩)
/-- a space, a digit, a space, a mode -/
def CT (fu : Nat) (T : Nat → Int32) (len pos : Int32) (cc : CC) : Option (Int32 × Int32 × CC) :=
  zbind (F_X6_readCharacter T len pos 32) fun zo9 =>
    if zo9.1 = 0 then (some (0, zo9.2, cc))
    else (zbind (F_X6_readScaleAndMode fu T len zo9.2 cc) fun zo11 =>
    if zo11.1 = 0 then (some (0, zo11.2.1, zo11.2.2))
    else (some (1, zo11.2.1, zo11.2.2)))
theorem p_SM {fu : Nat} (hf : 30 ≤ fu) {T M : Nat → Int32} {len : Nat} (h : TX T M len) {k : Nat} (hk : k ≤ len) (cc : CC) :
    (∃ d m : Int, 0 ≤ d ∧ d ≤ 9 ∧ md m ∧ k + 4 ≤ len ∧ CT fu T (iI (len : Int)) (iI (k : Int)) cc = some (1, iI ((k + 4 : Nat) : Int), (k_kind cc, k_first cc, k_second cc, k_whole cc, k_frac cc, iI d, iI m)) ∧ F_X11_digitBehind M (iI (k : Int)) (iI (len : Int)) 0 = some (iI d, iI ((k + 2 : Nat) : Int), 0) ∧ F_X11_modeBehind M (iI ((k + 2 : Nat) : Int)) (iI (len : Int)) 0 = some (iI m, iI ((k + 4 : Nat) : Int), 0)) ∨
    ∃ (k' : Nat) (cc' : CC) (d x y m : Int32), k ≤ k' ∧ k' ≤ len ∧ CT fu T (iI (len : Int)) (iI (k : Int)) cc = some (0, iI (k' : Int), cc') ∧ F_X11_digitBehind M (iI (k : Int)) (iI (len : Int)) 0 = some (d, x, y) ∧ F_X11_modeBehind M x (iI (len : Int)) y = some (m, iI (k' : Int), 1) := by
  rcases p_digB h hk cc with ⟨d, d0, d1, hl, c1, c2, c3⟩ | ⟨hlt, c1, ⟨cc', c2⟩, q, c3⟩ | ⟨c1, q, c3⟩
  · rcases p_modeB hf h hl (k_kind cc, k_first cc, k_second cc, k_whole cc, k_frac cc, iI d, k_mode cc) with ⟨m, hm, hl2, e1, e2, e3⟩ | ⟨hlt2, e1, e2, q, e3⟩ | ⟨e1, q, e3⟩
    · left
      exact ⟨d, m, d0, d1, hm, hl2, by simp only [CT, c1, zb_some, d10, if_false, F_X6_readScaleAndMode, c2, e1, e2], c3, e3⟩
    · right
      exact ⟨k + 2 + 1, _, _, _, _, q, by omega, by omega, by simp only [CT, c1, zb_some, d10, if_false, F_X6_readScaleAndMode, c2, e1, e2, d00, if_true]; rfl, c3, e3⟩
    · right
      exact ⟨k + 2, _, _, _, _, q, by omega, hl, by simp only [CT, c1, zb_some, d10, if_false, F_X6_readScaleAndMode, c2, e1, d00, if_true]; rfl, c3, e3⟩
  · right
    obtain ⟨m, e⟩ := w_modeB h (show k + 1 ≤ len by omega)
    exact ⟨k + 1, cc', q, _, _, m, by omega, by omega, by simp only [CT, c1, zb_some, d10, if_false, F_X6_readScaleAndMode, c2, d00, if_true], c3, e⟩
  · right
    obtain ⟨m, e⟩ := w_modeB h hk
    exact ⟨k, cc, q, _, _, m, by omega, hk, by simp only [CT, c1, zb_some, d00, if_true], c3, e⟩
