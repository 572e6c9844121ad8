-- the reader's pieces on both sides
def TX (T M : Nat → Int32) (len : Nat) : Prop := len ≤ 60 ∧ ∀ i, i < len → T i = M i ∧ 0 ≤ T i ∧ T i ≤ 65535
theorem tx_c {T M : Nat → Int32} {len : Nat} (h : TX T M len) {k : Nat} (hk : k < len) : ∃ c : Int, T k = iI c ∧ M k = iI c ∧ 0 ≤ c ∧ c ≤ 65535 := by
  obtain ⟨e, h0, h1⟩ := h.2 k hk
  obtain ⟨c, ec, c0, c1⟩ := ii_ex (T k)
  rw [ec, ii_L0, ii_le (by omega) (by omega) (by omega) (by omega)] at h0
  rw [ec, ii_L65535, ii_le (by omega) (by omega) (by omega) (by omega)] at h1
  exact ⟨c, ec, by rw [← e]; exact ec, h0, h1⟩
theorem tx_here {T M : Nat → Int32} {len : Nat} (h : TX T M len) {k : Nat} (hk : k ≤ len) : (k < len ∧ F_X11_here M (iI (k : Int)) (iI (len : Int)) = some (M k)) ∨ (k = len ∧ F_X11_here M (iI (k : Int)) (iI (len : Int)) = some (iI (-1))) := by
  have h60 := h.1
  unfold F_X11_here
  rw [ti_le (by omega) (by omega) (by omega) (by omega)]
  by_cases e : k < len
  · left
    rw [if_neg (by omega), if_neg (ii_gd (by omega) (by omega)), ii_nc k (by omega)]
    exact ⟨e, rfl⟩
  · right
    rw [if_pos (by omega)]
    exact ⟨by omega, rfl⟩
theorem p_char {T M : Nat → Int32} {len : Nat} (h : TX T M len) {k : Nat} (hk : k ≤ len) {c : Int32} {v : Int} (hc : c = iI v) (h0 : 0 ≤ v) (h1 : v ≤ 65535) :
    (k < len ∧ F_X6_readCharacter T (iI (len : Int)) (iI (k : Int)) c = some (1, iI ((k + 1 : Nat) : Int)) ∧ F_X11_expects M (iI (k : Int)) (iI (len : Int)) 0 c = some (iI ((k + 1 : Nat) : Int), 0)) ∨
    (F_X6_readCharacter T (iI (len : Int)) (iI (k : Int)) c = some (0, iI (k : Int)) ∧ F_X11_expects M (iI (k : Int)) (iI (len : Int)) 0 c = some (iI (k : Int), 1)) := by
  have h60 := h.1
  subst hc
  unfold F_X6_readCharacter F_X11_expects F_X11_expects_21
  rw [ti_le (by omega) (by omega) (by omega) (by omega), if_pos (show (0 : Int32) = 0 from rfl)]
  rcases tx_here h hk with ⟨hlt, eh⟩ | ⟨he, eh⟩
  · obtain ⟨w, e1, e2, w0, w1⟩ := tx_c h hlt
    rw [eh, zb_some, if_neg (by omega), if_neg (ii_gd (by omega) (by omega)), ii_nc k (by omega), e1, e2]
    by_cases e : iI w = iI v
    · left
      rw [if_pos e, if_pos e, if_neg (by decide), if_pos rfl, ii_L1, ii_add, ii_nx]
      exact ⟨hlt, rfl, rfl⟩
    · right
      rw [if_neg e, if_neg e, if_neg (by decide), if_neg (by decide), ii_L0, ii_add, zi_z]
      exact ⟨rfl, rfl⟩
  · right
    rw [eh, zb_some, if_pos (by omega), if_neg (by rw [ii_eq (by omega) (by omega) (by omega) (by omega)]; omega), if_neg (by decide), if_neg (by decide), ii_L0, ii_add, zi_z]
    exact ⟨rfl, rfl⟩
theorem w_exp (M : Nat → Int32) (k : Nat) (sz c : Int32) : F_X11_expects M (iI (k : Int)) sz 1 c = some (iI (k : Int), 1) := by
  unfold F_X11_expects F_X11_expects_21
  rw [if_neg (by decide), if_neg (by decide), if_neg (by decide), ii_L0, ii_add, zi_z]
theorem w_dig (M : Nat → Int32) (k : Nat) (sz : Int32) : F_X11_digitHere M (iI (k : Int)) sz 1 = some (0, iI (k : Int), 1) := by
  unfold F_X11_digitHere F_X11_digitHere_25 F_X11_digitHere_51
  rw [if_neg (by decide), if_neg (by decide)]
  show some ((0 : Int32), iI (k : Int) + 0, (1 : Int32)) = _
  rw [ii_L0, ii_add, zi_z]
theorem p_digit {T M : Nat → Int32} {len : Nat} (h : TX T M len) {k : Nat} (hk : k ≤ len) :
    (∃ d : Int, k < len ∧ 0 ≤ d ∧ d ≤ 9 ∧ F_X6_readDigit T (iI (len : Int)) (iI (k : Int)) = some (iI d, iI ((k + 1 : Nat) : Int)) ∧ F_X11_digitHere M (iI (k : Int)) (iI (len : Int)) 0 = some (iI d, iI ((k + 1 : Nat) : Int), 0) ∧ ∃ x, F_X11_here M (iI (k : Int)) (iI (len : Int)) = some x ∧ F_X11_in (Int32.toInt64 x) 48 57 = some 1) ∨
    (F_X6_readDigit T (iI (len : Int)) (iI (k : Int)) = some (-1, iI (k : Int)) ∧ F_X11_digitHere M (iI (k : Int)) (iI (len : Int)) 0 = some (0, iI (k : Int), 1) ∧ ∃ x, F_X11_here M (iI (k : Int)) (iI (len : Int)) = some x ∧ F_X11_in (Int32.toInt64 x) 48 57 = some 0) := by
  have h60 := h.1
  have hin : ∀ w : Int, -1 ≤ w → w ≤ 65535 → F_X11_in (Int32.toInt64 (iI w)) 48 57 = some (iI (if 48 ≤ w ∧ w ≤ 57 then 1 else 0)) := by
    intro w w0 w1
    rw [ii_toL (by omega) (by omega), ll_L48, ll_L57, f_in (by omega) (by omega) (by omega) (by omega) (by omega) (by omega)]
  rcases tx_here h hk with ⟨hlt, eh⟩ | ⟨he, eh⟩
  · obtain ⟨w, e1, e2, w0, w1⟩ := tx_c h hlt
    have hi := hin w (by omega) w1
    rw [e2] at eh
    have t1 : (iI w < 48) = (w < 48) := by rw [ii_L48, ii_lt (by omega) (by omega) (by omega) (by omega)]
    have t2 : (iI w ≤ 57) = (w ≤ 57) := by rw [ii_L57, ii_le (by omega) (by omega) (by omega) (by omega)]
    have hT : T ((iI (k : Int)).toNatClampNeg) = iI w := by rw [ii_nc k (by omega)]; exact e1
    by_cases hd : 48 ≤ w ∧ w ≤ 57
    · left
      rw [if_pos hd] at hi
      refine ⟨w - 48, hlt, by omega, by omega, ?_, ?_, iI w, eh, hi⟩
      · have hk1 : iI (k : Int) + 1 - 1 = iI (k : Int) := by rw [ii_L1, ii_add, ii_sub, show (k : Int) + 1 - 1 = k from by omega]
        unfold F_X6_readDigit
        rw [ti_le (by omega) (by omega) (by omega) (by omega), if_neg (by omega), if_neg (ii_gd (by omega) (by omega)), hT, if_neg (by rw [t1]; omega), if_neg (ii_gd (by omega) (by omega)), if_pos (by rw [t2]; omega), hk1, if_neg (ii_gd (by omega) (by omega)), hT, ii_L48, ii_sub, ii_L1, ii_add, ii_nx]
      · unfold F_X11_digitHere F_X11_digitHere_51
        rw [if_pos rfl, eh, zb_some, hi, zb_some, if_neg (by decide), zb_some, if_pos rfl, ii_L48, ii_sub, ii_L1, ii_add, ii_nx]
    · right
      rw [if_neg hd] at hi
      refine ⟨?_, ?_, iI w, eh, hi⟩
      · unfold F_X6_readDigit
        rw [ti_le (by omega) (by omega) (by omega) (by omega), if_neg (by omega), if_neg (ii_gd (by omega) (by omega)), hT]
        by_cases hl : w < 48
        · rw [if_pos (by rw [t1]; exact hl)]
        · rw [if_neg (by rw [t1]; exact hl), if_neg (ii_gd (by omega) (by omega)), if_neg (by rw [t2]; omega)]
      · unfold F_X11_digitHere F_X11_digitHere_25 F_X11_digitHere_51
        rw [if_pos rfl, eh, zb_some, hi, zb_some, if_pos (by decide), if_neg (by decide), ii_L0, ii_add, zi_z]
  · right
    have hi := hin (-1) (by omega) (by omega)
    rw [if_neg (by omega)] at hi
    refine ⟨?_, ?_, iI (-1), eh, hi⟩
    · unfold F_X6_readDigit
      rw [ti_le (by omega) (by omega) (by omega) (by omega), if_pos (by omega)]
    · unfold F_X11_digitHere F_X11_digitHere_25 F_X11_digitHere_51
      rw [if_pos rfl, eh, zb_some, hi, zb_some, if_pos (by decide), if_neg (by decide), ii_L0, ii_add, zi_z]
theorem p_num7 {fu : Nat} (hf : 30 ≤ fu) {T M : Nat → Int32} {len : Nat} (h : TX T M len) : ∀ (r j k n m : Nat) (v d : Int), j + r = 6 → 1 ≤ j → k ≤ len → r + 2 < n → r + 2 < m → 0 ≤ v → v < 10 ^ j → 0 ≤ d → d ≤ 9 →
    ∃ (v' : Int) (k' : Nat), k ≤ k' ∧ k' ≤ len ∧ 0 ≤ v' ∧ v' < 1000000 ∧ F_X6_readNumber_9 fu n T (iI (len : Int)) (iI (k : Int)) (iI v) (iI d) (iI (j : Int)) = some (iI v', iI (k' : Int)) ∧ F_X11_number_7 fu m M (iI (k : Int)) (iI (len : Int)) 0 (iI v) (iI ((j : Int) - 1)) = some (iI v', iI (k' : Int), 0) := by
  have h60 := h.1
  intro r
  induction r with
  | zero =>
    intro j k n m v d hj hj1 hk hn hm v0 v1 d0 d1
    obtain rfl : j = 6 := by omega
    obtain ⟨n, rfl⟩ : ∃ n', n = n' + 1 := ⟨n - 1, by omega⟩
    obtain ⟨m, rfl⟩ : ∃ m', m = m' + 1 := ⟨m - 1, by omega⟩
    refine ⟨v, k, Nat.le_refl _, hk, v0, by rw [show (10 : Int) ^ 6 = 1000000 from by decide] at v1; exact v1, ?_, ?_⟩
    · unfold F_X6_readNumber_9
      rw [if_pos (by decide)]
    · unfold F_X11_number_7
      rw [if_pos (by decide)]
  | succ r ih =>
    intro j k n m v d hj hj1 hk hn hm v0 v1 d0 d1
    obtain ⟨n, rfl⟩ : ∃ n', n = n' + 2 := ⟨n - 2, by omega⟩
    obtain ⟨m, rfl⟩ : ∃ m', m = m' + 1 := ⟨m - 1, by omega⟩
    have c1 : ¬ (6 : Int32) ≤ iI (j : Int) := by rw [ii_L6, ii_le (by omega) (by omega) (by omega) (by omega)]; omega
    have c2 : ¬ iI d = -1 := by rw [ii_L1, ii_neg, ii_eq (by omega) (by omega) (by omega) (by omega)]; omega
    have c3 : ¬ (5 : Int32) ≤ iI ((j : Int) - 1) := by rw [ii_L5, ii_le (by omega) (by omega) (by omega) (by omega)]; omega
    have hp : (10 : Int) ^ (j + 1) = 10 ^ j * 10 := Int.pow_succ 10 j
    rcases p_digit h hk with ⟨d', hlt, e0, e9, p1, p2, x, p3, p4⟩ | ⟨p1, p2, x, p3, p4⟩
    · obtain ⟨v', k', q1, q2, q3, q4, q5, q6⟩ := ih (j + 1) (k + 1) (n + 1) m (v * 10 + d') d' (by omega) (by omega) (by omega) (by omega) (by omega) (by omega) (by omega) e0 e9
      refine ⟨v', k', by omega, q2, q3, q4, ?_, ?_⟩
      · unfold F_X6_readNumber_9
        have c4 : ¬ iI d' = -1 := by rw [ii_L1, ii_neg, ii_eq (by omega) (by omega) (by omega) (by omega)]; omega
        rw [if_neg c1, if_neg c2, p1, zb_some, if_neg c4, zl_eq, zl_eq, ii_L10, ii_mul, ii_add, ii_L1, ii_add, ii_nx]
        exact q5
      · unfold F_X11_number_7
        rw [if_neg c3, if_pos rfl, p3, zb_some, p4, zb_some, if_neg (by decide), p2, zb_some, zl_eq, zl_eq, ii_L10, ii_mul, ii_add, Int.mul_comm, ii_L1, ii_add, show (j : Int) - 1 + 1 = ((j + 1 : Nat) : Int) - 1 from by omega]
        exact q6
    · have hv : v < 1000000 := by
        have : (10 : Int) ^ j ≤ 10 ^ 6 := by
          have := Nat.pow_le_pow_right (show 0 < 10 by omega) (show j ≤ 6 by omega)
          exact_mod_cast this
        rw [show (10 : Int) ^ 6 = 1000000 from by decide] at this
        omega
      refine ⟨v, k, Nat.le_refl _, hk, v0, hv, ?_, ?_⟩
      · conv => lhs; unfold F_X6_readNumber_9
        rw [if_neg c1, if_neg c2, p1, zb_some, if_pos rfl, zl_eq]
        unfold F_X6_readNumber_9
        by_cases c5 : (6 : Int32) ≤ iI (j : Int) + 1
        · rw [if_pos c5]
        · rw [if_neg c5, if_pos rfl]
      · unfold F_X11_number_7
        rw [if_neg c3, if_pos rfl, p3, zb_some, p4, zb_some, if_pos rfl]
theorem p_number {fu : Nat} (hf : 30 ≤ fu) {T M : Nat → Int32} {len : Nat} (h : TX T M len) {k : Nat} (hk : k ≤ len) :
    (∃ (v : Int) (k' : Nat), k < k' ∧ k' ≤ len ∧ 0 ≤ v ∧ v < 1000000 ∧ F_X6_readNumber fu T (iI (len : Int)) (iI (k : Int)) = some (iI v, iI (k' : Int)) ∧ F_X11_number fu M (iI (k : Int)) (iI (len : Int)) 0 = some (iI v, iI (k' : Int), 0)) ∨
    (F_X6_readNumber fu T (iI (len : Int)) (iI (k : Int)) = some (-1, iI (k : Int)) ∧ ∃ q, F_X11_number fu M (iI (k : Int)) (iI (len : Int)) 0 = some (q, iI (k : Int), 1)) := by
  have h60 := h.1
  unfold F_X6_readNumber F_X11_number
  rcases p_digit h hk with ⟨d', hlt, e0, e9, p1, p2, _⟩ | ⟨p1, p2, _⟩
  · left
    obtain ⟨v', k', q1, q2, q3, q4, q5, q6⟩ := p_num7 hf h 5 1 (k + 1) fu fu d' d' (by omega) (by omega) (by omega) (by omega) (by omega) e0 (by rw [Int.pow_one]; omega) e0 e9
    refine ⟨v', k', by omega, q2, q3, q4, ?_, ?_⟩
    · rw [p1, zb_some]; exact q5
    · rw [p2, zb_some]; exact q6
  · right
    obtain ⟨n, rfl⟩ : ∃ n', fu = n' + 1 := ⟨fu - 1, by omega⟩
    refine ⟨?_, 0, ?_⟩
    · rw [p1, zb_some]
      unfold F_X6_readNumber_9
      rw [if_neg (by decide), if_pos rfl]
    · rw [p2, zb_some]
      unfold F_X11_number_7
      rw [if_neg (by decide), if_neg (show ¬ ((1 : Int32) = 0) by decide)]
theorem w_num7 {fu : Nat} (hf : 30 ≤ fu) (M : Nat → Int32) (k : Nat) (sz : Int32) : ∃ q, F_X11_number fu M (iI (k : Int)) sz 1 = some (q, iI (k : Int), 1) := by
  obtain ⟨n, rfl⟩ : ∃ n', fu = n' + 1 := ⟨fu - 1, by omega⟩
  unfold F_X11_number
  rw [w_dig, zb_some]
  unfold F_X11_number_7
  refine ⟨0, ?_⟩
  rw [if_neg (by decide), if_neg (show ¬ ((1 : Int32) = 0) by decide)]
theorem w_numB {fu : Nat} (hf : 30 ≤ fu) (M : Nat → Int32) (k : Nat) (sz c : Int32) : ∃ q, F_X11_numberBehind fu M (iI (k : Int)) sz 1 c = some (q, iI (k : Int), 1) := by
  obtain ⟨q, e⟩ := w_num7 hf M k sz
  refine ⟨q, ?_⟩
  unfold F_X11_numberBehind
  rw [w_exp, zb_some, e, zb_some]
theorem w_digB (M : Nat → Int32) (k : Nat) (sz : Int32) : ∃ q, F_X11_digitBehind M (iI (k : Int)) sz 1 = some (q, iI (k : Int), 1) := by
  refine ⟨0, ?_⟩
  unfold F_X11_digitBehind
  rw [w_exp, zb_some, w_dig, zb_some]
theorem w_modeB {T M : Nat → Int32} {len : Nat} (h : TX T M len) {k : Nat} (hk : k ≤ len) : ∃ q, F_X11_modeBehind M (iI (k : Int)) (iI (len : Int)) 1 = some (q, iI (k : Int), 1) := by
  unfold F_X11_modeBehind F_X11_modeBehind_29
  rw [w_exp, zb_some, if_neg (show ¬ ((1 : Int32) = 0) by decide), if_neg (by decide)]
  have hh : ∃ x, F_X11_here M (iI (k : Int)) (iI (len : Int)) = some x := by
    rcases tx_here h hk with ⟨_, e⟩ | ⟨_, e⟩
    · exact ⟨_, e⟩
    · exact ⟨_, e⟩
  obtain ⟨x, e⟩ := hh
  refine ⟨x, ?_⟩
  show zbind (F_X11_here M (iI (k : Int)) (iI (len : Int))) _ = _
  rw [e, zb_some, if_neg (by decide)]
  show some (x, iI (k : Int) + 0, (1 : Int32)) = _
  rw [ii_L0, ii_add, zi_z]
theorem w_frac {fu : Nat} (M : Nat → Int32) (k : Nat) (sz : Int32) : ∃ q, F_X11_fractionHere fu M (iI (k : Int)) sz 1 = some (q, iI (k : Int), 1) := by
  refine ⟨0, ?_⟩
  unfold F_X11_fractionHere
  rw [if_neg (by decide)]
/-- the zeros behind a short fraction -/
theorem f11_f80 {fu : Nat} (M : Nat → Int32) (pl sz wr : Int32) : ∀ (r j n : Nat) (v : Int), j + r = 4 → r < n → F_X11_fractionHere_80 fu n M pl sz wr (iI v) (iI (j : Int)) = some (iI (v * 10 ^ r), pl, wr) := by
  intro r
  induction r with
  | zero =>
    intro j n v hj hn
    obtain ⟨n, rfl⟩ : ∃ n', n = n' + 1 := ⟨n - 1, by omega⟩
    obtain rfl : j = 4 := by omega
    unfold F_X11_fractionHere_80
    rw [if_pos (by decide), Int.pow_zero, Int.mul_one]
  | succ r ih =>
    intro j n v hj hn
    obtain ⟨n, rfl⟩ : ∃ n', n = n' + 1 := ⟨n - 1, by omega⟩
    unfold F_X11_fractionHere_80
    rw [if_neg (by rw [ii_L4, ii_le (by omega) (by omega) (by omega) (by omega)]; omega), zl_eq, zl_eq, ii_L10, ii_mul, ii_L1, ii_add, ii_nx, ih (j + 1) n (v * 10) (by omega) (by omega), Int.mul_assoc, Int.pow_succ, Int.mul_comm 10]
theorem f6_f17 {fu : Nat} (T : Nat → Int32) (len pos : Int32) (cc : CC) : ∀ (r j n : Nat) (v : Int), j + r = 4 → r < n → F_X6_readFraction_17 fu n T len pos cc (-1) (iI v) (iI (j : Int)) = some (1, pos, (k_kind cc, k_first cc, k_second cc, k_whole cc, iI (v * 10 ^ r), k_scale cc, k_mode cc)) := by
  intro r
  induction r with
  | zero =>
    intro j n v hj hn
    obtain ⟨n, rfl⟩ : ∃ n', n = n' + 1 := ⟨n - 1, by omega⟩
    obtain rfl : j = 4 := by omega
    unfold F_X6_readFraction_17
    rw [if_pos (by decide), Int.pow_zero, Int.mul_one]
  | succ r ih =>
    intro j n v hj hn
    obtain ⟨n, rfl⟩ : ∃ n', n = n' + 1 := ⟨n - 1, by omega⟩
    unfold F_X6_readFraction_17
    rw [if_neg (by rw [ii_L4, ii_le (by omega) (by omega) (by omega) (by omega)]; omega), if_pos rfl]
    unfold F_X6_readFraction_36
    rw [show (if (-1 : Int32) < 0 then (0 : Int32) else -1) = iI 0 from rfl, zl_eq, zl_eq, ii_L10, ii_mul, ii_add, zi_z, ii_L1, ii_add, ii_nx, ← ii_L1, ih (j + 1) n (v * 10) (by omega) (by omega), Int.mul_assoc, Int.pow_succ, Int.mul_comm 10]
theorem p_frac {fu : Nat} (hf : 30 ≤ fu) {T M : Nat → Int32} {len : Nat} (h : TX T M len) (cc : CC) : ∀ (r j k n m : Nat) (v d : Int), j + r = 4 → 1 ≤ j → k ≤ len → r + 2 < n → r + 2 < m → 0 ≤ v → v < 10 ^ j → 0 ≤ d → d ≤ 9 →
    ∃ (v' : Int) (k' : Nat), k ≤ k' ∧ k' ≤ len ∧ 0 ≤ v' ∧ v' < 10000 ∧ F_X6_readFraction_17 fu n T (iI (len : Int)) (iI (k : Int)) cc (iI d) (iI v) (iI (j : Int)) = some (1, iI (k' : Int), (k_kind cc, k_first cc, k_second cc, k_whole cc, iI v', k_scale cc, k_mode cc)) ∧ F_X11_fractionHere_35 fu m M (iI (k : Int)) (iI (len : Int)) 0 (iI v) (iI (j : Int)) = some (iI v', iI (k' : Int), 0) := by
  have h60 := h.1
  intro r
  induction r with
  | zero =>
    intro j k n m v d hj hj1 hk hn hm v0 v1 d0 d1
    obtain rfl : j = 4 := by omega
    obtain ⟨n, rfl⟩ : ∃ n', n = n' + 1 := ⟨n - 1, by omega⟩
    obtain ⟨m, rfl⟩ : ∃ m', m = m' + 1 := ⟨m - 1, by omega⟩
    refine ⟨v, k, Nat.le_refl _, hk, v0, by rw [show (10 : Int) ^ 4 = 10000 from by decide] at v1; exact v1, ?_, ?_⟩
    · unfold F_X6_readFraction_17
      rw [if_pos (by decide)]
    · unfold F_X11_fractionHere_35
      rw [if_pos (by decide)]
      have := f11_f80 (fu := fu) M (iI (k : Int)) (iI (len : Int)) 0 0 4 fu v (by omega) (by omega)
      rw [Int.pow_zero, Int.mul_one] at this
      exact this
  | succ r ih =>
    intro j k n m v d hj hj1 hk hn hm v0 v1 d0 d1
    obtain ⟨n, rfl⟩ : ∃ n', n = n' + 1 := ⟨n - 1, by omega⟩
    obtain ⟨m, rfl⟩ : ∃ m', m = m' + 1 := ⟨m - 1, by omega⟩
    have c1 : ¬ (4 : Int32) ≤ iI (j : Int) := by rw [ii_L4, ii_le (by omega) (by omega) (by omega) (by omega)]; omega
    have c2 : ¬ iI d = -1 := by rw [ii_L1, ii_neg, ii_eq (by omega) (by omega) (by omega) (by omega)]; omega
    have hp : (10 : Int) ^ (j + 1) = 10 ^ j * 10 := Int.pow_succ 10 j
    rcases p_digit h hk with ⟨d', hlt, e0, e9, p1, p2, x, p3, p4⟩ | ⟨p1, p2, x, p3, p4⟩
    · obtain ⟨v', k', q1, q2, q3, q4, q5, q6⟩ := ih (j + 1) (k + 1) n m (v * 10 + d') d' (by omega) (by omega) (by omega) (by omega) (by omega) (by omega) (by omega) e0 e9
      refine ⟨v', k', by omega, q2, q3, q4, ?_, ?_⟩
      · have hm0 : (if iI d' < 0 then (0 : Int32) else iI d') = iI d' := by rw [ii_L0, ti_lt (by omega) (by omega) (by omega) (by omega), if_neg (by omega)]
        unfold F_X6_readFraction_17
        rw [if_neg c1, if_neg c2, p1, zb_some]
        unfold F_X6_readFraction_36
        rw [hm0, zl_eq, zl_eq, ii_L10, ii_mul, ii_add, ii_L1, ii_add, ii_nx]
        exact q5
      · unfold F_X11_fractionHere_35
        rw [if_neg c1, if_pos rfl, p3, zb_some, p4, zb_some, if_neg (by decide), p2, zb_some, zl_eq, zl_eq, ii_L10, ii_mul, ii_add, Int.mul_comm, ii_L1, ii_add, ii_nx]
        exact q6
    · have hb : 0 ≤ v * 10 ^ (r + 1) ∧ v * 10 ^ (r + 1) < 10000 := by
        have p4 : (10 : Int) ^ j * 10 ^ (r + 1) = 10000 := by rw [← Int.pow_add, hj]; decide
        have pp : (0 : Int) < 10 ^ (r + 1) := Int.pow_pos (by decide)
        exact ⟨Int.mul_nonneg v0 (by omega), by rw [← p4]; exact Int.mul_lt_mul_of_pos_right v1 pp⟩
      refine ⟨v * 10 ^ (r + 1), k, Nat.le_refl _, hk, hb.1, hb.2, ?_, ?_⟩
      · unfold F_X6_readFraction_17
        rw [if_neg c1, if_neg c2, p1, zb_some]
        unfold F_X6_readFraction_36
        have e1 : iI v * 10 + (if (-1 : Int32) < 0 then (0 : Int32) else -1) = iI (v * 10) := by
          rw [show (if (-1 : Int32) < 0 then (0 : Int32) else -1) = iI 0 from rfl, ii_L10, ii_mul, ii_add, zi_z]
        have e2 : iI (j : Int) + 1 = iI ((j + 1 : Nat) : Int) := by rw [ii_L1, ii_add]; rfl
        rw [zl_eq, zl_eq, e1, e2]
        have := f6_f17 (fu := fu) T (iI (len : Int)) (iI (k : Int)) cc r (j + 1) n (v * 10) (by omega) (by omega)
        rw [show v * 10 * 10 ^ r = v * 10 ^ (r + 1) from by rw [Int.mul_assoc, Int.pow_succ, Int.mul_comm 10]] at this
        exact this
      · unfold F_X11_fractionHere_35
        rw [if_neg c1, if_pos rfl, p3, zb_some, p4, zb_some, if_pos rfl]
        exact f11_f80 (fu := fu) M (iI (k : Int)) (iI (len : Int)) 0 (r + 1) j fu v (by omega) (by omega)
