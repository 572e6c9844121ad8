-- the output line
def LR (ln : Nat) (lch : Nat → Int32) (llen : Int32) (mlin : Nat → Int32) (mliM : Int32) : Prop := llen = iI (ln : Int) ∧ mliM = iI (ln : Int) ∧ ∀ i, i < ln → lch i = mlin i ∧ 0 ≤ lch i ∧ lch i ≤ 65535
theorem lr_put {ln : Nat} {lch mlin : Nat → Int32} {llen mliM : Int32} (h : LR ln lch llen mlin mliM) (hl : ln < 64) {c : Int} (h0 : 0 ≤ c) (h1 : c ≤ 65535) : ∃ lch' llen' mlin' mliM', F_X4_put lch llen (iI c) = some (lch', llen') ∧ F_X11_sign mlin mliM (iI c) = some (mlin', mliM') ∧ LR (ln + 1) lch' llen' mlin' mliM' := by
  obtain ⟨rfl, rfl, h3⟩ := h
  refine ⟨upd lch ln (iI c), iI ((ln + 1 : Nat) : Int), upd mlin ln (iI c), iI ((ln + 1 : Nat) : Int), ?_, ?_, rfl, rfl, ?_⟩
  · unfold F_X4_put
    rw [show (64 : Int32) = iI ((64 : Nat) : Int) from rfl, ti_le (by omega) (by omega) (by omega) (by omega), if_neg (by omega), if_neg (ii_gd (by omega) (by omega)), ii_nc ln (by omega), nr_id h0 h1, ii_L1, ii_add, ii_nx]
  · unfold F_X11_sign
    rw [if_neg (ii_gd (by omega) (by omega)), ii_nc ln (by omega), ii_L1, ii_add, ii_nx]
  · intro i hi
    rw [up_I, up_I]
    by_cases e : i = ln
    · rw [if_pos e, if_pos e]; exact ⟨rfl, ch_fit h0 h1⟩
    · rw [if_neg e, if_neg e]; exact h3 i (by omega)
theorem lr_dig {ln : Nat} {lch mlin : Nat → Int32} {llen mliM : Int32} (h : LR ln lch llen mlin mliM) (hl : ln < 64) {d : Int} (h0 : 0 ≤ d) (h1 : d ≤ 9) : ∃ lch' llen' mlin' mliM', F_X4_putDigit lch llen (iI d) = some (lch', llen') ∧ F_X11_sign mlin mliM (48 + iI d) = some (mlin', mliM') ∧ LR (ln + 1) lch' llen' mlin' mliM' := by
  obtain ⟨a, b, c, e, e1, e2, e3⟩ := lr_put h hl (c := 48 + d) (by omega) (by omega)
  refine ⟨a, b, c, e, ?_, ?_, e3⟩
  · unfold F_X4_putDigit
    rw [ii_L48, ii_add, zc_id (by omega) (by omega), e1, zb_some]
  · rw [ii_L48, ii_add]; exact e2
theorem ii_pm (a : Int) : iI a + (-1) = iI (a + -1) := by rw [ii_L1, ii_neg, ii_add]
theorem dv_nat : ∀ (n v : Nat), dv n (v : Int) = ((v / 10 ^ n : Nat) : Int) := by
  intro n
  induction n with
  | zero => intro v; rw [Nat.pow_zero, Nat.div_one]; rfl
  | succ n ih =>
    intro v
    show dv n ((v : Int) / 10) = _
    rw [show ((v : Int) / 10) = ((v / 10 : Nat) : Int) from rfl, ih, Nat.div_div_eq_div_mul, Nat.pow_succ, Nat.mul_comm]
/-- the digits from place k down -/
theorem wh_down {fu : Nat} (hf : 30 ≤ fu) {v : Nat} (hv : v < 10000000) : ∀ (k n m ln : Nat) (lch mlin : Nat → Int32) (llen mliM : Int32), k ≤ 6 → k < n → k + 1 < m → ln + k + 1 ≤ 64 → LR ln lch llen mlin mliM →
    ∃ lch' llen' mlin' mliM', F_X4_putWhole_6 fu n lch llen (lI (v : Int)) 0 (iI (k : Int)) = F_X4_putWhole_6 fu (n - k - 1) lch' llen' (lI (v : Int)) 0 (iI (-1)) ∧ F_X11_writesWhole_18 fu m mlin mliM (iI (v : Int)) (iI ((10 ^ k : Nat) : Int)) = some (mlin', mliM') ∧ LR (ln + k + 1) lch' llen' mlin' mliM' := by
  intro k
  induction k with
  | zero =>
    intro n m ln lch mlin llen mliM hk hn hm hl h
    obtain ⟨n, rfl⟩ : ∃ n', n = n' + 1 := ⟨n - 1, by omega⟩
    obtain ⟨m, rfl⟩ : ∃ m', m = m' + 2 := ⟨m - 2, by omega⟩
    obtain ⟨a, b, c, d, e1, e2, e3⟩ := lr_dig h (by omega) (d := dv 0 (v : Int) % 10) (by omega) (by omega)
    refine ⟨a, b, c, d, ?_, ?_, e3⟩
    · conv => lhs; unfold F_X4_putWhole_6
      rw [if_neg (by decide), f10_dig (by omega) (by omega) (by omega) (by omega), zb_some, if_pos rfl]
      unfold F_X4_putWhole_37
      rw [e1, zb_some, zl_eq]
      rfl
    · unfold F_X11_writesWhole_18
      rw [if_neg (by decide), if_neg (by decide), Nat.pow_zero, ni_dv (by omega) (by omega) (by omega), show (10 : Int32) = iI ((10 : Nat) : Int) from rfl, ni_md (by omega) (by omega) (by omega), show ((v / 1 % 10 : Nat) : Int) = dv 0 (v : Int) % 10 from by rw [Nat.div_one]; rfl, e2, zb_some, zl_eq, ni_dv (by omega) (by omega) (by omega)]
      unfold F_X11_writesWhole_18
      rw [if_pos (by decide)]
  | succ k ih =>
    intro n m ln lch mlin llen mliM hk hn hm hl h
    obtain ⟨n, rfl⟩ : ∃ n', n = n' + 1 := ⟨n - 1, by omega⟩
    obtain ⟨m, rfl⟩ : ∃ m', m = m' + 1 := ⟨m - 1, by omega⟩
    have hd := dv_nn (k + 1) (show 0 ≤ (v : Int) by omega)
    obtain ⟨a, b, c, d, e1, e2, e3⟩ := lr_dig h (by omega) (d := dv (k + 1) (v : Int) % 10) (by omega) (by omega)
    obtain ⟨a', b', c', d', e4, e5, e6⟩ := ih n m (ln + 1) a c b d (by omega) (by omega) (by omega) (by omega) e3
    have hp : 1 ≤ 10 ^ k := Nat.pow_pos (by decide)
    have hp' : 10 ^ k ≤ 10 ^ 5 := Nat.pow_le_pow_right (by decide) (by omega)
    have hps : 10 ^ (k + 1) = 10 ^ k * 10 := Nat.pow_succ 10 k
    have hp5 : (10 : Nat) ^ 5 = 100000 := by decide
    refine ⟨a', b', c', d', ?_, ?_, ?_⟩
    · conv => lhs; unfold F_X4_putWhole_6
      rw [if_neg (by rw [ii_L0, ii_lt (by omega) (by omega) (by omega) (by omega)]; omega), f10_dig (by omega) (by omega) (by omega) (by omega), zb_some, if_pos rfl]
      unfold F_X4_putWhole_37
      rw [e1, zb_some, zl_eq, ii_L1, ii_neg, ii_add, show ((k + 1 : Nat) : Int) + -1 = (k : Int) from by omega, show n + 1 - (k + 1) - 1 = n - k - 1 from by omega]
      exact e4
    · unfold F_X11_writesWhole_18
      have q1 : ¬ iI ((10 ^ (k + 1) : Nat) : Int) ≤ 0 := by rw [ii_L0, ii_le (by omega) (by omega) (by omega) (by omega)]; omega
      rw [if_neg q1, if_neg (of_eq_false (ni_nz (by omega) (by omega))), ni_dv (by omega) (by omega) (by omega), show (10 : Int32) = iI ((10 : Nat) : Int) from rfl, ni_md (by have := Nat.div_le_self v (10 ^ (k + 1)); omega) (by omega) (by omega), show ((v / 10 ^ (k + 1) % 10 : Nat) : Int) = dv (k + 1) (v : Int) % 10 from by rw [dv_nat]; rfl, e2, zb_some, zl_eq, ni_dv (by omega) (by omega) (by omega), show 10 ^ (k + 1) / 10 = 10 ^ k from by rw [hps, Nat.mul_div_cancel _ (by decide)]]
      exact e5
    · rw [show ln + (k + 1) + 1 = ln + 1 + k + 1 from by omega]; exact e6
/-- how many places -/
theorem wh_k {v : Nat} (hv : v < 10000000) : ∃ k, k ≤ 6 ∧ v / 10 ^ k ≤ 9 ∧ ∀ j, j < k → 9 < v / 10 ^ j := by
  have key : ∀ m, (∃ k, k < m ∧ v / 10 ^ k ≤ 9 ∧ ∀ j, j < k → 9 < v / 10 ^ j) ∨ ∀ j, j < m → 9 < v / 10 ^ j := by
    intro m
    induction m with
    | zero => right; intro j hj; omega
    | succ m ih =>
      rcases ih with ⟨k, h1, h2, h3⟩ | h
      · exact Or.inl ⟨k, by omega, h2, h3⟩
      · by_cases e : v / 10 ^ m ≤ 9
        · exact Or.inl ⟨m, by omega, e, h⟩
        · right
          intro j hj
          by_cases hjm : j = m
          · rw [hjm]; omega
          · exact h j (by omega)
  rcases key 7 with ⟨k, h1, h2, h3⟩ | h
  · exact ⟨k, by omega, h2, h3⟩
  · have := h 6 (by omega)
    rw [show (10 : Nat) ^ 6 = 1000000 from rfl] at this
    omega
theorem wh_end {fu n : Nat} (hn : 0 < n) (lch : Nat → Int32) (llen : Int32) (v : Int64) (x : Int32) : F_X4_putWhole_6 fu n lch llen v x (iI (-1)) = some (lch, llen) := by
  obtain ⟨n, rfl⟩ : ∃ n', n = n' + 1 := ⟨n - 1, by omega⟩
  unfold F_X4_putWhole_6
  rw [if_pos (by decide)]
/-- a whole number on both lines -/
theorem wh_both {fu : Nat} (hf : 40 ≤ fu) {v ln : Nat} (hv : v < 10000000) (hl : ln ≤ 50) {lch mlin : Nat → Int32} {llen mliM : Int32} (h : LR ln lch llen mlin mliM) : ∃ ln' lch' llen' mlin' mliM', F_X4_putWhole fu lch llen (lI (v : Int)) = some (lch', llen') ∧ F_X11_writesWhole fu mlin mliM (iI (v : Int)) = some (mlin', mliM') ∧ LR ln' lch' llen' mlin' mliM' ∧ ln' ≤ ln + 7 := by
  obtain ⟨k, hk, hk9, hkj⟩ := wh_k hv
  have hp0 : ∀ j, j ≤ 6 → 1 ≤ 10 ^ j ∧ 10 ^ j ≤ 1000000 := by
    intro j hj
    refine ⟨Nat.pow_pos (by decide), ?_⟩
    have := Nat.pow_le_pow_right (show 0 < 10 by decide) hj
    rwa [show (10 : Nat) ^ 6 = 1000000 from rfl] at this
  -- the reference looks for its power of ten
  have mup : ∀ (n j : Nat), j ≤ k → k < n + j → F_X11_writesWhole_2 fu n mlin mliM (iI (v : Int)) (iI ((10 ^ j : Nat) : Int)) = F_X11_writesWhole_18 fu fu mlin mliM (iI (v : Int)) (iI ((10 ^ k : Nat) : Int)) := by
    intro n
    induction n with
    | zero => intro j _ _; omega
    | succ n ih =>
      intro j hj hn
      obtain ⟨b1, b2⟩ := hp0 j (by omega)
      have hd := Nat.div_le_self v (10 ^ j)
      unfold F_X11_writesWhole_2
      rw [if_neg (of_eq_false (ni_nz (by omega) (by omega))), ni_dv (by omega) (by omega) (by omega)]
      have h1 : j = k → v / 10 ^ j ≤ 9 := fun e => by rw [e]; exact hk9
      have h2 : j < k → 9 < v / 10 ^ j := hkj j
      generalize v / 10 ^ j = q at h1 h2 hd ⊢
      rw [show (9 : Int32) = iI ((9 : Nat) : Int) from rfl, ti_le (by omega) (by omega) (by omega) (by omega)]
      by_cases e : j = k
      · rw [if_pos (by have := h1 e; omega), e]
      · have := h2 (by omega)
        rw [if_neg (by omega), zl_eq, ni_m10, ← Nat.pow_succ]
        exact ih (j + 1) (by omega) (by omega)
  -- the class passes its leading zeros
  have cdn : ∀ (d n : Nat), d + k ≤ 9 → d < n → F_X4_putWhole_6 fu n lch llen (lI (v : Int)) 1 (iI ((k + d : Nat) : Int)) = F_X4_putWhole_6 fu (n - d) lch llen (lI (v : Int)) 1 (iI (k : Int)) := by
    intro d
    induction d with
    | zero => intro n _ _; rfl
    | succ d ih =>
      intro n hd hn
      obtain ⟨n, rfl⟩ : ∃ n', n = n' + 1 := ⟨n - 1, by omega⟩
      have hz : dv (k + (d + 1)) (v : Int) % 10 = 0 := by
        rw [dv_nat, Nat.pow_add, ← Nat.div_div_eq_div_mul, Nat.pow_succ, Nat.mul_comm (10 ^ d) 10, ← Nat.div_div_eq_div_mul, show v / 10 ^ k / 10 = 0 from Nat.div_eq_of_lt (by omega), Nat.zero_div]
        rfl
      conv => lhs; unfold F_X4_putWhole_6
      rw [if_neg (by rw [ii_L0, ii_lt (by omega) (by omega) (by omega) (by omega)]; omega), f10_dig (by omega) (by omega) (by omega) (by omega), zb_some, hz, if_neg (by decide), if_pos (by decide), if_neg (by rw [ii_L0, ii_le (by omega) (by omega) (by omega) (by omega)]; omega), zl_eq, ii_pm, show ((k + (d + 1) : Nat) : Int) + -1 = ((k + d : Nat) : Int) from by omega, ih n (by omega) (by omega), show n + 1 - (d + 1) = n - d from by omega]
  -- the first digit that counts
  obtain ⟨n, hn⟩ : ∃ n, fu - (9 - k) = n + 1 := ⟨fu - (9 - k) - 1, by omega⟩
  have cst : F_X4_putWhole_6 fu (n + 1) lch llen (lI (v : Int)) 1 (iI (k : Int)) = F_X4_putWhole_6 fu (n + 1) lch llen (lI (v : Int)) 0 (iI (k : Int)) := by
    have hdb := dv_nn k (show 0 ≤ (v : Int) by omega)
    conv => lhs; unfold F_X4_putWhole_6
    conv => rhs; unfold F_X4_putWhole_6
    have hk0 : ¬ iI (k : Int) < 0 := by rw [ii_L0, ii_lt (by omega) (by omega) (by omega) (by omega)]; omega
    rw [if_neg hk0, if_neg hk0, f10_dig (by omega) (by omega) (by omega) (by omega), zb_some, zb_some, if_neg (show ¬ ((1 : Int32) = 0) by decide), if_pos (show (0 : Int32) = 0 from rfl)]
    by_cases hz : iI (dv k (v : Int) % 10) = 0
    · have hz' : dv k (v : Int) % 10 = 0 := by
        rw [ii_L0, ii_eq (by omega) (by omega) (by omega) (by omega)] at hz; exact hz
      have k0 : k = 0 := by
        rcases Nat.eq_zero_or_pos k with h | h
        · exact h
        · have h9 := hkj (k - 1) (by omega)
          rw [dv_nat] at hz'
          have e : v / 10 ^ k = v / 10 ^ (k - 1) / 10 := by
            rw [Nat.div_div_eq_div_mul, ← Nat.pow_succ, show (k - 1).succ = k from by omega]
          omega
      rw [if_pos hz, if_pos (by rw [k0]; decide)]
    · rw [if_neg hz]
  obtain ⟨a, b, c, d, e1, e2, e3⟩ := wh_down (fu := fu) (by omega) hv k (n + 1) fu ln lch mlin llen mliM hk (by omega) (by omega) (by omega) h
  refine ⟨ln + k + 1, a, b, c, d, ?_, ?_, e3, by omega⟩
  · have q := cdn (9 - k) fu (by omega) (by omega)
    rw [show k + (9 - k) = 9 from by omega, hn, cst, e1] at q
    unfold F_X4_putWhole
    rw [show F_X4_putWhole_6 fu fu lch llen (lI (v : Int)) 1 9 = _ from q]
    exact wh_end (by omega) a b _ _
  · have q := mup fu 0 (by omega) (by omega)
    unfold F_X11_writesWhole
    rw [show F_X11_writesWhole_2 fu fu mlin mliM (iI (v : Int)) 1 = _ from q]
    exact e2
