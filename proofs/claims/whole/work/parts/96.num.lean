-- remainders of a long division; powers of ten
theorem ph_l : ∀ (b n : Nat) (f : Nat → Nat), (∀ i, i < n → f i < b) → (∀ i j, i < j → j < n → f i ≠ f j) → n ≤ b := by
  intro b
  induction b with
  | zero =>
    intro n f h _
    cases n with
    | zero => exact Nat.le_refl 0
    | succ n => exact absurd (h 0 (by omega)) (by omega)
  | succ b ih =>
    intro n f h hinj
    by_cases hex : ∃ i0, i0 < n ∧ f i0 = b
    · obtain ⟨i0, hi0, hb⟩ := hex
      have := ih (n - 1) (fun i => if i < i0 then f i else f (i + 1)) (by
        intro i hi
        show (if i < i0 then f i else f (i + 1)) < b
        by_cases e : i < i0
        · rw [if_pos e]
          have h1 := h i (by omega)
          have h2 := hinj i i0 e hi0
          omega
        · rw [if_neg e]
          have h1 := h (i + 1) (by omega)
          have h2 := hinj i0 (i + 1) (by omega) (by omega)
          omega) (by
        intro i j hij hj
        show (if i < i0 then f i else f (i + 1)) ≠ (if j < i0 then f j else f (j + 1))
        by_cases e : i < i0
        · by_cases e2 : j < i0
          · rw [if_pos e, if_pos e2]; exact hinj i j hij (by omega)
          · rw [if_pos e, if_neg e2]; exact hinj i (j + 1) (by omega) (by omega)
        · rw [if_neg e, if_neg (by omega)]; exact hinj (i + 1) (j + 1) (by omega) (by omega))
      omega
    · have := ih n f (fun i hi => by
        have h1 := h i hi
        have : f i ≠ b := fun e => hex ⟨i, hi, e⟩
        omega) hinj
      omega
/-- the remainder after some digits -/
def rr (a b i : Nat) : Nat := a * 10 ^ i % b
theorem rr_0 (a b : Nat) : rr a b 0 = a % b := by unfold rr; rw [Nat.pow_zero, Nat.mul_one]
theorem rr_s (a b i : Nat) : rr a b (i + 1) = rr a b i * 10 % b := by
  unfold rr
  rw [Nat.pow_succ, ← Nat.mul_assoc, Nat.mul_mod (a * 10 ^ i) 10, Nat.mul_mod (a * 10 ^ i % b) 10, Nat.mod_mod]
theorem rr_lt {a b : Nat} (hb : 0 < b) (i : Nat) : rr a b i < b := Nat.mod_lt _ hb
theorem rr_iff {a b i d : Nat} : rr a b (i + d) = rr a b i ↔ b ∣ a * 10 ^ i * (10 ^ d - 1) := by
  have hp : 1 ≤ 10 ^ d := Nat.pow_pos (by decide)
  have e : a * 10 ^ (i + d) = a * 10 ^ i * (10 ^ d - 1) + a * 10 ^ i := by
    rw [Nat.pow_add, ← Nat.mul_assoc]
    have : a * 10 ^ i * 10 ^ d = a * 10 ^ i * ((10 ^ d - 1) + 1) := by rw [Nat.sub_add_cancel hp]
    rw [this, Nat.mul_add, Nat.mul_one]
  constructor
  · intro h
    have h1 := Nat.sub_mod_eq_zero_of_mod_eq h
    rw [e, Nat.add_sub_cancel] at h1
    exact Nat.dvd_of_mod_eq_zero h1
  · intro h
    obtain ⟨c, hc⟩ := h
    unfold rr
    rw [e, hc, Nat.mul_add_mod]
theorem pw_iff {m d : Nat} : 10 ^ d % m = 1 % m ↔ m ∣ 10 ^ d - 1 := by
  have := rr_iff (a := 1) (b := m) (i := 0) (d := d)
  unfold rr at this
  rw [Nat.zero_add, Nat.one_mul, Nat.pow_zero, Nat.one_mul, Nat.one_mul] at this
  exact this
/-- the first remainder that came before -/
def FR (a b u n : Nat) : Prop := u < n ∧ rr a b u = rr a b n ∧ ∀ i j, i < j → j < n → rr a b i ≠ rr a b j
theorem fr_ex {a b : Nat} (hb : 0 < b) : ∃ u n, FR a b u n ∧ n ≤ b := by
  have key : ∀ m, (∀ i j, i < j → j < m → rr a b i ≠ rr a b j) ∨ ∃ u n, FR a b u n ∧ n < m := by
    intro m
    induction m with
    | zero => left; intro i j _ hj; omega
    | succ m ih =>
      rcases ih with h | ⟨u, n, h, hn⟩
      · by_cases hex : ∃ u, u < m ∧ rr a b u = rr a b m
        · obtain ⟨u, hu, e⟩ := hex
          exact Or.inr ⟨u, m, ⟨hu, e, h⟩, by omega⟩
        · left
          intro i j hij hj
          by_cases e : j = m
          · rw [e]; exact fun g => hex ⟨i, by omega, g⟩
          · exact h i j hij (by omega)
      · exact Or.inr ⟨u, n, h, by omega⟩
  rcases key (b + 1) with h | ⟨u, n, h, hn⟩
  · have := ph_l b (b + 1) (rr a b) (fun i _ => rr_lt hb i) h
    omega
  · exact ⟨u, n, h, by omega⟩
theorem cop_t {d : Nat} (hd : 0 < d) : Nat.Coprime 10 (10 ^ d - 1) := by
  apply Nat.gcd_eq_one_iff.mpr
  intro c h1 h2
  have hp : 1 ≤ 10 ^ d := Nat.pow_pos (by decide)
  have h3 : c ∣ 10 ^ d := by
    obtain ⟨k, rfl⟩ : ∃ k, d = k + 1 := ⟨d - 1, by omega⟩
    rw [Nat.pow_succ]
    exact Nat.dvd_mul_left_of_dvd h1 _
  have h4 := Nat.dvd_sub h3 h2
  rw [Nat.sub_sub_self hp] at h4
  exact Nat.dvd_one.mp h4
/-- the period is the order of ten, and the preperiod is short -/
theorem ord_eq {a b g m q u n : Nat} (hb : 0 < b) (hg : Nat.gcd a b = g) (e : b = g * (m * q)) (hm : Nat.Coprime m 10) (hq : q ∣ 10 ^ 9) (h : FR a b u n) :
    m ∣ 10 ^ (n - u) - 1 ∧ (∀ e, 1 ≤ e → e < n - u → ¬ m ∣ 10 ^ e - 1) ∧ n - u ≤ m ∧ u ≤ 9 ∧ 0 < m := by
  obtain ⟨h1, h2, h3⟩ := h
  have hgp : 0 < g := by
    rcases Nat.eq_zero_or_pos g with h | h
    · rw [h, Nat.zero_mul] at e; omega
    · exact h
  have hmp : 0 < m := by
    rcases Nat.eq_zero_or_pos m with h | h
    · rw [h, Nat.zero_mul, Nat.mul_zero] at e; omega
    · exact h
  obtain ⟨a', ea⟩ : g ∣ a := hg ▸ Nat.gcd_dvd_left a b
  have hcop : Nat.Coprime (m * q) a' := by
    have : g * Nat.gcd a' (m * q) = g := by
      rw [← Nat.gcd_mul_left, ← ea, ← e]; exact hg
    have h1 : Nat.gcd a' (m * q) = 1 := Nat.eq_of_mul_eq_mul_left hgp (by rw [this, Nat.mul_one])
    exact Nat.Coprime.symm h1
  have toG : ∀ i d, m ∣ 10 ^ d - 1 → q ∣ 10 ^ i → rr a b (i + d) = rr a b i := by
    intro i d hmd hqi
    apply rr_iff.mpr
    rw [e, ea, Nat.mul_assoc g a', Nat.mul_assoc g]
    apply Nat.mul_dvd_mul_left
    rw [Nat.mul_assoc, Nat.mul_comm m q]
    exact Nat.dvd_mul_left_of_dvd (Nat.mul_dvd_mul hqi hmd) _
  have hd : m * q ∣ 10 ^ u * (10 ^ (n - u) - 1) := by
    have h4 : b ∣ a * 10 ^ u * (10 ^ (n - u) - 1) := by
      apply rr_iff.mp
      rw [show u + (n - u) = n from by omega]
      exact h2.symm
    rw [e, ea, Nat.mul_assoc g a', Nat.mul_assoc g] at h4
    have h5 := Nat.dvd_of_mul_dvd_mul_left hgp h4
    rw [Nat.mul_assoc] at h5
    exact Nat.Coprime.dvd_of_dvd_mul_left hcop h5
  have hm1 : m ∣ 10 ^ (n - u) - 1 := Nat.Coprime.dvd_of_dvd_mul_left (Nat.Coprime.pow_right u hm) (Nat.dvd_trans (Nat.dvd_mul_right m q) hd)
  have hq1 : q ∣ 10 ^ u := Nat.Coprime.dvd_of_dvd_mul_right (Nat.Coprime.coprime_dvd_left hq (Nat.Coprime.pow_left 9 (cop_t (show 0 < n - u by omega)))) (Nat.dvd_trans (Nat.dvd_mul_left q m) hd)
  have hno : ∀ e, 1 ≤ e → e < n - u → ¬ m ∣ 10 ^ e - 1 := by
    intro x hx hx' hmx
    exact h3 u (u + x) (by omega) (by omega) (toG u x hmx hq1).symm
  refine ⟨hm1, hno, ?_, ?_, hmp⟩
  · refine ph_l m (n - u) (fun i => 10 ^ i % m) (fun i _ => Nat.mod_lt _ hmp) (fun i j hij hj he => ?_)
    have he : 10 ^ i % m = 10 ^ j % m := he
    have h6 : m ∣ 1 * 10 ^ i * (10 ^ (j - i) - 1) := by
      apply rr_iff.mp
      unfold rr
      rw [show i + (j - i) = j from by omega, Nat.one_mul, Nat.one_mul]
      exact he.symm
    rw [Nat.one_mul] at h6
    exact hno (j - i) (by omega) (by omega) (Nat.Coprime.dvd_of_dvd_mul_left (Nat.Coprime.pow_right i hm) h6)
  · apply Classical.byContradiction
    intro hu
    exact h3 9 (9 + (n - u)) (by omega) (by omega) (toG 9 (n - u) hm1 hq).symm
theorem ni_dv {a b : Nat} (ha : a < 2147483648) (hb : 0 < b) (hb' : b < 2147483648) : iI (a : Int) / iI (b : Int) = iI ((a / b : Nat) : Int) := by
  rw [ii_div (by omega) (by omega) (by omega) (by omega)]; rfl
theorem ni_md {a b : Nat} (ha : a < 2147483648) (hb : 0 < b) (hb' : b < 2147483648) : iI (a : Int) - iI (a : Int) / iI (b : Int) * iI (b : Int) = iI ((a % b : Nat) : Int) := by
  rw [ii_div (by omega) (by omega) (by omega) (by omega), ii_mul, ii_sub, md_eq]; rfl
theorem ni_ml (a b : Nat) : iI (a : Int) * iI (b : Int) = iI ((a * b : Nat) : Int) := by rw [ii_mul]; rfl
theorem ni_m10 (a : Nat) : iI (a : Int) * 10 = iI ((a * 10 : Nat) : Int) := ni_ml a 10
theorem ni_10m (a : Nat) : 10 * iI (a : Int) = iI ((a * 10 : Nat) : Int) := by rw [Nat.mul_comm]; exact ni_ml 10 a
theorem ni_nz {b : Nat} (hb : 0 < b) (hb' : b < 2147483648) : (iI (b : Int) = 0) = False := by
  rw [ii_L0, ii_eq (by omega) (by omega) (by omega) (by omega)]; exact eq_false (by omega)
/-- Euclid's rounds -/
theorem f5_gcd7 {fu : Nat} : ∀ (k n x y c : Nat), x < 100000 → y < 2 ^ k → y < 100000 → 2 * k + c ≤ 90 → 2 * k + 1 < n → F_X5_commonDivisor_7 fu n (iI (x : Int)) (iI (y : Int)) (iI (c : Int)) = some (iI (Nat.gcd x y : Int)) := by
  have done : ∀ (n x c : Nat), c ≤ 90 → 0 < n → F_X5_commonDivisor_7 fu n (iI (x : Int)) (iI ((0 : Nat) : Int)) (iI (c : Int)) = some (iI (Nat.gcd x 0 : Int)) := by
    intro n x c hc hn
    obtain ⟨n, rfl⟩ : ∃ m, n = m + 1 := ⟨n - 1, by omega⟩
    unfold F_X5_commonDivisor_7
    rw [show (100 : Int32) = iI ((100 : Nat) : Int) from rfl, ti_le (by omega) (by omega) (by omega) (by omega), if_neg (by omega), if_pos (show iI ((0 : Nat) : Int) = 0 from rfl), Nat.gcd_zero_right]
  have one : ∀ (n x y c : Nat), x < 100000 → 0 < y → y < 100000 → c ≤ 90 → F_X5_commonDivisor_7 fu (n + 1) (iI (x : Int)) (iI (y : Int)) (iI (c : Int)) = F_X5_commonDivisor_7 fu n (iI (y : Int)) (iI ((x % y : Nat) : Int)) (iI ((c + 1 : Nat) : Int)) := by
    intro n x y c hx hy hy' hc
    conv => lhs; unfold F_X5_commonDivisor_7
    rw [show (100 : Int32) = iI ((100 : Nat) : Int) from rfl, ti_le (by omega) (by omega) (by omega) (by omega), if_neg (by omega), if_neg (of_eq_false (ni_nz hy (by omega))), if_neg (of_eq_false (ni_nz hy (by omega))), zl_eq, zl_eq, ni_md (by omega) hy (by omega), ii_L1, ii_add, ii_nx]
  intro k
  induction k with
  | zero =>
    intro n x y c hx hy _ hc hn
    obtain rfl : y = 0 := by rw [Nat.pow_zero] at hy; omega
    exact done n x c (by omega) (by omega)
  | succ k ih =>
    intro n x y c hx hy hy' hc hn
    by_cases y0 : y = 0
    · subst y0; exact done n x c (by omega) (by omega)
    · obtain ⟨n, rfl⟩ : ∃ m, n = m + 2 := ⟨n - 2, by omega⟩
      have hr : x % y < y := Nat.mod_lt _ (by omega)
      have eg : Nat.gcd x y = Nat.gcd y (x % y) := by rw [Nat.gcd_comm, Nat.gcd_rec, Nat.gcd_comm]
      rw [one (n + 1) x y c hx (by omega) hy' (by omega), eg]
      by_cases r0 : x % y = 0
      · rw [r0]; exact done (n + 1) y (c + 1) (by omega) (by omega)
      · have hr2 : y % (x % y) < x % y := Nat.mod_lt _ (by omega)
        have eg2 : Nat.gcd y (x % y) = Nat.gcd (x % y) (y % (x % y)) := by rw [Nat.gcd_comm, Nat.gcd_rec, Nat.gcd_comm]
        have hhalf : y % (x % y) < 2 ^ k := by
          have e1 := Nat.div_add_mod y (x % y)
          have e2 : 1 ≤ y / (x % y) := (Nat.one_le_div_iff (by omega)).mpr (by omega)
          have e3 : (x % y) * 1 ≤ (x % y) * (y / (x % y)) := Nat.mul_le_mul_left _ e2
          rw [Nat.pow_succ] at hy
          omega
        rw [one n y (x % y) (c + 1) hy' (by omega) (by omega) (by omega), eg2]
        exact ih n (x % y) (y % (x % y)) (c + 1 + 1) (by omega) hhalf (by omega) (by omega) (by omega)
theorem f5_gcd {fu : Nat} (hf : 100 ≤ fu) {a b : Nat} (ha : a ≤ 9999) (hb : b ≤ 999) : F_X5_commonDivisor fu (iI (a : Int)) (iI (b : Int)) = some (iI (Nat.gcd a b : Int)) :=
  f5_gcd7 10 fu a b 0 (by omega) (by rw [show (2 : Nat) ^ 10 = 1024 from rfl]; omega) (by omega) (by omega) (by omega)
theorem f5_wo4 {fu f : Nat} (hf2 : 2 ≤ f) (hf5 : f ≤ 5) : ∀ (n c x : Nat), c ≤ 10 → 0 < x → x < 2 ^ (10 - c) → 11 ≤ n + c → ∃ k w : Nat, F_X5_without_4 fu n (iI (f : Int)) (iI (x : Int)) (iI (c : Int)) = some (iI (w : Int)) ∧ x = w * f ^ k ∧ ¬ f ∣ w ∧ 0 < w ∧ k + c ≤ 9 := by
  intro n
  induction n with
  | zero =>
    intro c x hc hx hx' hn; omega
  | succ n ih =>
    intro c x hc hx hx' hn
    have hc10 : c < 10 := by
      rcases Nat.lt_or_ge c 10 with h | h
      · exact h
      · rw [show 10 - c = 0 from by omega, Nat.pow_zero] at hx'; omega
    have hxx : x < 1024 := Nat.lt_of_lt_of_le hx' (by
      have := Nat.pow_le_pow_right (show 0 < 2 by omega) (show 10 - c ≤ 10 by omega)
      rw [show (2 : Nat) ^ 10 = 1024 from rfl] at this
      exact this)
    have hxm : x % f < f := Nat.mod_lt _ (by omega)
    unfold F_X5_without_4
    rw [show (10 : Int32) = iI ((10 : Nat) : Int) from rfl, ti_le (by omega) (by omega) (by omega) (by omega), if_neg (by omega), if_neg (of_eq_false (ni_nz (show 0 < f by omega) (by omega))), ni_md (by omega) (by omega) (by omega), ii_L0, ti_eq (by omega) (by omega) (by omega) (by omega)]
    by_cases hd : x % f = 0
    · have e := Nat.div_add_mod x f
      have hxp : 0 < x / f := by
        rcases Nat.eq_zero_or_pos (x / f) with h | h
        · rw [h, Nat.mul_zero] at e; omega
        · exact h
      have hlt : x / f < 2 ^ (10 - (c + 1)) := by
        have h2 : 2 * (x / f) ≤ f * (x / f) := Nat.mul_le_mul_right _ hf2
        have h3 : 2 ^ (10 - c) = 2 ^ (10 - (c + 1)) * 2 := by rw [← Nat.pow_succ]; congr 1; omega
        omega
      obtain ⟨k, w, e1, e2, e3, e4, e5⟩ := ih (c + 1) (x / f) (by omega) hxp hlt (by omega)
      refine ⟨k + 1, w, ?_, ?_, e3, e4, by omega⟩
      · rw [if_pos (by omega), if_neg (by rw [← ii_L0]; exact of_eq_false (ni_nz (show 0 < f by omega) (by omega))), zl_eq, zl_eq, ni_dv (by omega) (by omega) (by omega), ii_L1, ii_add, ii_nx]
        exact e1
      · rw [Nat.pow_succ, ← Nat.mul_assoc, ← e2, Nat.mul_comm]; omega
    · rw [if_neg (by omega)]
      exact ⟨0, x, rfl, by rw [Nat.pow_zero, Nat.mul_one], fun g => hd (Nat.mod_eq_zero_of_dvd g), hx, by omega⟩
theorem f5_wo {fu f : Nat} (hf : 20 ≤ fu) (hf2 : 2 ≤ f) (hf5 : f ≤ 5) {x : Nat} (hx : 0 < x) (hx' : x ≤ 999) : ∃ k w : Nat, F_X5_without fu (iI (f : Int)) (iI (x : Int)) = some (iI (w : Int)) ∧ x = w * f ^ k ∧ ¬ f ∣ w ∧ 0 < w ∧ k + 0 ≤ 9 :=
  f5_wo4 hf2 hf5 fu 0 x (by omega) hx (by rw [show (2 : Nat) ^ (10 - 0) = 1024 from rfl]; omega) (by omega)
/-- the recurring factor -/
theorem f5_rec {fu : Nat} (hf : 100 ≤ fu) {a b : Nat} (ha : a ≤ 9999) (hb0 : 0 < b) (hb : b ≤ 999) : ∃ m q : Nat, F_X5_recurringFactor fu (iI (a : Int)) (iI (b : Int)) = some (iI (m : Int)) ∧ b = Nat.gcd a b * (m * q) ∧ Nat.Coprime m 10 ∧ q ∣ 10 ^ 9 ∧ 0 < m ∧ m ≤ 999 := by
  have hg : 0 < Nat.gcd a b := Nat.gcd_pos_of_pos_right a hb0
  have hgd := Nat.gcd_dvd_right a b
  have hgl : Nat.gcd a b ≤ b := Nat.le_of_dvd hb0 hgd
  have ed : Nat.gcd a b * (b / Nat.gcd a b) = b := Nat.mul_div_cancel' hgd
  have hl0 : 0 < b / Nat.gcd a b := Nat.div_pos hgl hg
  have hl : b / Nat.gcd a b ≤ 999 := Nat.le_trans (Nat.div_le_self _ _) hb
  obtain ⟨k, w, e1, e2, e3, e4, e5⟩ := f5_wo (fu := fu) (f := 2) (by omega) (by omega) (by omega) hl0 hl
  have hwl : w ≤ 999 := Nat.le_trans (Nat.le_of_dvd hl0 ⟨2 ^ k, e2⟩) hl
  obtain ⟨k', m, e1', e2', e3', e4', e5'⟩ := f5_wo (fu := fu) (f := 5) (by omega) (by omega) (by omega) e4 hwl
  have hm2 : ¬ 2 ∣ m := fun g => e3 (by rw [e2']; exact Nat.dvd_trans g (Nat.dvd_mul_right _ _))
  refine ⟨m, 5 ^ k' * 2 ^ k, ?_, ?_, ?_, ?_, e4', Nat.le_trans (Nat.le_of_dvd e4 ⟨5 ^ k', e2'⟩) hwl⟩
  · unfold F_X5_recurringFactor
    rw [f5_gcd hf ha hb, zb_some, if_pos (by rw [ii_L1, ii_le (by omega) (by omega) (by omega) (by omega)]; omega), if_neg (of_eq_false (ni_nz hg (by omega))), zl_eq, ni_dv (by omega) hg (by omega)]
    rw [show F_X5_without fu 2 (iI ((b / Nat.gcd a b : Nat) : Int)) = _ from e1, zb_some, show F_X5_without fu 5 (iI (w : Int)) = _ from e1', zb_some]
  · rw [← Nat.mul_assoc m, ← e2', ← e2, ed]
  · apply Nat.gcd_eq_one_iff.mpr
    intro c h1 h2
    have hc : c ≤ 10 := Nat.le_of_dvd (by omega) h2
    have : c = 0 ∨ c = 1 ∨ c = 2 ∨ c = 3 ∨ c = 4 ∨ c = 5 ∨ c = 6 ∨ c = 7 ∨ c = 8 ∨ c = 9 ∨ c = 10 := by omega
    rcases this with h|h|h|h|h|h|h|h|h|h|h <;> subst h
    · omega
    · rfl
    · exact absurd h1 hm2
    · omega
    · omega
    · exact absurd h1 e3'
    · omega
    · omega
    · omega
    · omega
    · exact absurd (Nat.dvd_trans (by decide) h1) hm2
  · have h5 : (5 : Nat) ^ k' ∣ 5 ^ 9 := Nat.pow_dvd_pow 5 (by omega)
    have h2 : (2 : Nat) ^ k ∣ 2 ^ 9 := Nat.pow_dvd_pow 2 (by omega)
    have := Nat.mul_dvd_mul h5 h2
    rwa [show (5 : Nat) ^ 9 * 2 ^ 9 = 10 ^ 9 from rfl] at this
/-- the order of ten -/
theorem f5_ord14 {fu m l : Nat} (hm : 0 < m) (hm' : m ≤ 999) (hl : 1 ≤ l) (hlm : l ≤ m) (h1 : m ∣ 10 ^ l - 1) (h2 : ∀ e, 1 ≤ e → e < l → ¬ m ∣ 10 ^ e - 1) : ∀ (n e : Nat), 1 ≤ e → e ≤ l → l < n + e → F_X5_orderOfTen_14 fu n (iI (m : Int)) (iI ((10 ^ e % m : Nat) : Int)) (iI (e : Int)) = some (iI (l : Int)) := by
  intro n
  induction n with
  | zero => intro e _ _; omega
  | succ n ih =>
    intro e he hel hn
    have hr : 10 ^ e % m < m := Nat.mod_lt _ hm
    have hr1 : 1 % m < m := Nat.mod_lt _ hm
    unfold F_X5_orderOfTen_14
    rw [ti_le (by omega) (by omega) (by omega) (by omega)]
    by_cases c1 : (m : Int) ≤ (e : Int)
    · rw [if_pos c1, show e = l from by omega]
    · rw [if_neg c1, if_neg (of_eq_false (ni_nz hm (by omega))), show (1 : Int32) = iI ((1 : Nat) : Int) from rfl, ni_md (by omega) hm (by omega), ti_eq (by omega) (by omega) (by omega) (by omega)]
      by_cases c2 : 10 ^ e % m = 1 % m
      · have : e = l := by
          rcases Nat.lt_or_ge e l with h | h
          · exact absurd (pw_iff.mp c2) (h2 e he h)
          · omega
        rw [if_pos (by omega), this]
      · have hne : e ≠ l := fun h => c2 (by rw [h]; exact pw_iff.mpr h1)
        rw [if_neg (by omega), if_neg (of_eq_false (ni_nz hm (by omega))), zl_eq, zl_eq, ni_m10, ni_md (by omega) hm (by omega), show 10 ^ e % m * 10 % m = 10 ^ (e + 1) % m from by rw [Nat.pow_succ, Nat.mul_mod (10 ^ e) 10, Nat.mul_mod (10 ^ e % m) 10, Nat.mod_mod], ii_add]
        exact ih (e + 1) (by omega) (by omega) (by omega)
theorem f5_ord {fu m l : Nat} (hf : 1100 ≤ fu) (hm : 0 < m) (hm' : m ≤ 999) (hl : 1 ≤ l) (hlm : l ≤ m) (h1 : m ∣ 10 ^ l - 1) (h2 : ∀ e, 1 ≤ e → e < l → ¬ m ∣ 10 ^ e - 1) : F_X5_orderOfTen fu (iI (m : Int)) = some (iI (l : Int)) := by
  unfold F_X5_orderOfTen
  rw [if_pos (by rw [ii_L1, ii_le (by omega) (by omega) (by omega) (by omega)]; omega), if_neg (of_eq_false (ni_nz hm (by omega))), zl_eq, show (10 : Int32) = iI ((10 : Nat) : Int) from rfl, ni_md (by omega) hm (by omega)]
  exact f5_ord14 hm hm' hl hlm h1 h2 fu 1 (by omega) (by omega) (by omega)
