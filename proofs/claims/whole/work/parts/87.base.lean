-- the pure side: machine ints as numbers
def iI (a : Int) : Int32 := Int32.ofInt a
def lI (a : Int) : Int64 := Int64.ofInt a
theorem zl_eq {α β : Type} (a : α) (f : α → Option β) : zlet a f = f a := rfl
theorem zb_some {α β : Type} (a : α) (f : α → Option β) : zbind (some a) f = f a := rfl
theorem zc_ok {ε α β : Type} (a : α) (k : α → Option β) (h : ε → Option β) : zcase (Except.ok a) k h = k a := rfl
theorem zc_err {ε α β : Type} (e : ε) (k : α → Option β) (h : ε → Option β) : zcase (Except.error e) k h = h e := rfl
theorem zo_some {α β : Type} (y : α) (a : Option β) (k : α → Option β) : zopt (some y) a k = k y := rfl
theorem zo_none {α β : Type} (a : Option β) (k : α → Option β) : zopt none a k = a := rfl
theorem zb_of {α β : Type} {m : Option α} {a : α} {f : α → Option β} {o : Option β} (h : m = some a) (k : f a = o) : zbind m f = o := by rw [h]; exact k
theorem zl_of {α β : Type} {a : α} {f : α → Option β} {o : Option β} (k : f a = o) : zlet a f = o := k
theorem zi_y {c : Prop} [Decidable c] {α : Type} {x y o : α} (h : c) (k : x = o) : (if c then x else y) = o := by rw [if_pos h]; exact k
theorem zi_n {c : Prop} [Decidable c] {α : Type} {x y o : α} (h : ¬ c) (k : y = o) : (if c then x else y) = o := by rw [if_neg h]; exact k
theorem ii_add (a b : Int) : iI a + iI b = iI (a + b) := (Int32.ofInt_add a b).symm
theorem ii_sub (a b : Int) : iI a - iI b = iI (a - b) := (Int32.ofInt_sub a b).symm
theorem ii_mul (a b : Int) : iI a * iI b = iI (a * b) := (Int32.ofInt_mul a b).symm
theorem ii_neg (a : Int) : -iI a = iI (-a) := (Int32.ofInt_neg a).symm
theorem ll_add (a b : Int) : lI a + lI b = lI (a + b) := (Int64.ofInt_add a b).symm
theorem ll_sub (a b : Int) : lI a - lI b = lI (a - b) := (Int64.ofInt_sub a b).symm
theorem ll_mul (a b : Int) : lI a * lI b = lI (a * b) := (Int64.ofInt_mul a b).symm
theorem ll_neg (a : Int) : -lI a = lI (-a) := (Int64.ofInt_neg a).symm
theorem ii_val {a : Int} (h : -2147483648 ≤ a) (h' : a < 2147483648) : (iI a).toInt = a := Int32.toInt_ofInt_of_le h h'
theorem ll_val {a : Int} (h : -9223372036854775808 ≤ a) (h' : a < 9223372036854775808) : (lI a).toInt = a := Int64.toInt_ofInt_of_le h h'
theorem ii_self (x : Int32) : iI x.toInt = x := Int32.ofInt_toInt x
theorem ll_self (x : Int64) : lI x.toInt = x := Int64.ofInt_toInt x
theorem ii_ex (x : Int32) : ∃ a : Int, x = iI a ∧ -2147483648 ≤ a ∧ a < 2147483648 := ⟨x.toInt, (ii_self x).symm, Int32.le_toInt x, Int32.toInt_lt x⟩
theorem ii_lt {a b : Int} (h1 : -2147483648 ≤ a) (h2 : a < 2147483648) (h3 : -2147483648 ≤ b) (h4 : b < 2147483648) : (iI a < iI b) = (a < b) := by
  rw [Int32.lt_iff_toInt_lt, ii_val h1 h2, ii_val h3 h4]
theorem ii_le {a b : Int} (h1 : -2147483648 ≤ a) (h2 : a < 2147483648) (h3 : -2147483648 ≤ b) (h4 : b < 2147483648) : (iI a ≤ iI b) = (a ≤ b) := by
  rw [Int32.le_iff_toInt_le, ii_val h1 h2, ii_val h3 h4]
theorem ii_eq {a b : Int} (h1 : -2147483648 ≤ a) (h2 : a < 2147483648) (h3 : -2147483648 ≤ b) (h4 : b < 2147483648) : (iI a = iI b) = (a = b) := by
  rw [← Int32.toInt_inj, ii_val h1 h2, ii_val h3 h4]
theorem ll_lt {a b : Int} (h1 : -9223372036854775808 ≤ a) (h2 : a < 9223372036854775808) (h3 : -9223372036854775808 ≤ b) (h4 : b < 9223372036854775808) : (lI a < lI b) = (a < b) := by
  rw [Int64.lt_iff_toInt_lt, ll_val h1 h2, ll_val h3 h4]
theorem ll_le {a b : Int} (h1 : -9223372036854775808 ≤ a) (h2 : a < 9223372036854775808) (h3 : -9223372036854775808 ≤ b) (h4 : b < 9223372036854775808) : (lI a ≤ lI b) = (a ≤ b) := by
  rw [Int64.le_iff_toInt_le, ll_val h1 h2, ll_val h3 h4]
theorem ll_eq {a b : Int} (h1 : -9223372036854775808 ≤ a) (h2 : a < 9223372036854775808) (h3 : -9223372036854775808 ≤ b) (h4 : b < 9223372036854775808) : (lI a = lI b) = (a = b) := by
  rw [← Int64.toInt_inj, ll_val h1 h2, ll_val h3 h4]
theorem ii_nat {a : Int} (h : -2147483648 ≤ a) (h' : a < 2147483648) : (iI a).toNatClampNeg = a.toNat := Int32.toNatClampNeg_ofInt_of_le h h'
theorem ii_min : Int32.minValue.toInt = -2147483648 := by decide
theorem ii_max : Int32.maxValue.toInt = 2147483647 := by decide
theorem ll_min : Int64.minValue.toInt = -9223372036854775808 := by decide
theorem ll_max : Int64.maxValue.toInt = 9223372036854775807 := by decide
theorem ii_div {a b : Int} (h1 : 0 ≤ a) (h2 : a < 2147483648) (h3 : 0 < b) (h4 : b < 2147483648) : iI a / iI b = iI (a / b) := by
  rw [← Int.tdiv_eq_ediv_of_nonneg h1]
  exact (Int32.ofInt_tdiv (by rw [ii_min]; omega) (by rw [ii_max]; omega) (by rw [ii_min]; omega) (by rw [ii_max]; omega)).symm
theorem ll_div {a b : Int} (h1 : 0 ≤ a) (h2 : a < 9223372036854775808) (h3 : 0 < b) (h4 : b < 9223372036854775808) : lI a / lI b = lI (a / b) := by
  rw [← Int.tdiv_eq_ediv_of_nonneg h1]
  exact (Int64.ofInt_tdiv (by rw [ll_min]; omega) (by rw [ll_max]; omega) (by rw [ll_min]; omega) (by rw [ll_max]; omega)).symm
theorem ii_toL {a : Int} (h : -2147483648 ≤ a) (h' : a < 2147483648) : (iI a).toInt64 = lI a := Int32.toInt64_ofInt (by rw [ii_min]; omega) (by rw [ii_max]; omega)
theorem ll_toI (a : Int) : (lI a).toInt32 = iI a := Int64.toInt32_ofInt
theorem md_eq (a b : Int) : a - a / b * b = a % b := by rw [Int.emod_def, Int.mul_comm]
theorem ii_L0 : (0 : Int32) = iI 0 := rfl
theorem ii_L1 : (1 : Int32) = iI 1 := rfl
theorem ii_L2 : (2 : Int32) = iI 2 := rfl
theorem ii_L3 : (3 : Int32) = iI 3 := rfl
theorem ii_L4 : (4 : Int32) = iI 4 := rfl
theorem ii_L5 : (5 : Int32) = iI 5 := rfl
theorem ii_L6 : (6 : Int32) = iI 6 := rfl
theorem ii_L7 : (7 : Int32) = iI 7 := rfl
theorem ii_L8 : (8 : Int32) = iI 8 := rfl
theorem ii_L9 : (9 : Int32) = iI 9 := rfl
theorem ii_L10 : (10 : Int32) = iI 10 := rfl
theorem ii_L20 : (20 : Int32) = iI 20 := rfl
theorem ii_L28 : (28 : Int32) = iI 28 := rfl
theorem ii_L31 : (31 : Int32) = iI 31 := rfl
theorem ii_L32 : (32 : Int32) = iI 32 := rfl
theorem ii_L40 : (40 : Int32) = iI 40 := rfl
theorem ii_L41 : (41 : Int32) = iI 41 := rfl
theorem ii_L45 : (45 : Int32) = iI 45 := rfl
theorem ii_L46 : (46 : Int32) = iI 46 := rfl
theorem ii_L47 : (47 : Int32) = iI 47 := rfl
theorem ii_L48 : (48 : Int32) = iI 48 := rfl
theorem ii_L57 : (57 : Int32) = iI 57 := rfl
theorem ii_L58 : (58 : Int32) = iI 58 := rfl
theorem ii_L59 : (59 : Int32) = iI 59 := rfl
theorem ii_L60 : (60 : Int32) = iI 60 := rfl
theorem ii_L63 : (63 : Int32) = iI 63 := rfl
theorem ii_L64 : (64 : Int32) = iI 64 := rfl
theorem ii_L80 : (80 : Int32) = iI 80 := rfl
theorem ii_L100 : (100 : Int32) = iI 100 := rfl
theorem ii_L101 : (101 : Int32) = iI 101 := rfl
theorem ii_L104 : (104 : Int32) = iI 104 := rfl
theorem ii_L108 : (108 : Int32) = iI 108 := rfl
theorem ii_L117 : (117 : Int32) = iI 117 := rfl
theorem ii_L196 : (196 : Int32) = iI 196 := rfl
theorem ii_L224 : (224 : Int32) = iI 224 := rfl
theorem ii_L305 : (305 : Int32) = iI 305 := rfl
theorem ii_L255 : (255 : Int32) = iI 255 := rfl
theorem ii_L999 : (999 : Int32) = iI 999 := rfl
theorem ii_L1000 : (1000 : Int32) = iI 1000 := rfl
theorem ii_L9999 : (9999 : Int32) = iI 9999 := rfl
theorem ii_L10000 : (10000 : Int32) = iI 10000 := rfl
theorem ii_L65535 : (65535 : Int32) = iI 65535 := rfl
theorem ii_L999999 : (999999 : Int32) = iI 999999 := rfl
theorem ll_L0 : (0 : Int64) = lI 0 := rfl
theorem ll_L1 : (1 : Int64) = lI 1 := rfl
theorem ll_L2 : (2 : Int64) = lI 2 := rfl
theorem ll_L4 : (4 : Int64) = lI 4 := rfl
theorem ll_L5 : (5 : Int64) = lI 5 := rfl
theorem ll_L6 : (6 : Int64) = lI 6 := rfl
theorem ll_L9 : (9 : Int64) = lI 9 := rfl
theorem ll_L10 : (10 : Int64) = lI 10 := rfl
theorem ll_L20 : (20 : Int64) = lI 20 := rfl
theorem ll_L48 : (48 : Int64) = lI 48 := rfl
theorem ll_L57 : (57 : Int64) = lI 57 := rfl
theorem ll_L100 : (100 : Int64) = lI 100 := rfl
theorem ll_L999 : (999 : Int64) = lI 999 := rfl
theorem ll_L1000 : (1000 : Int64) = lI 1000 := rfl
theorem ll_L9999 : (9999 : Int64) = lI 9999 := rfl
theorem ll_L10000 : (10000 : Int64) = lI 10000 := rfl
theorem ll_L999999 : (999999 : Int64) = lI 999999 := rfl
theorem ll_L10000000000 : (10000000000 : Int64) = lI 10000000000 := rfl
theorem ll_L9223372036854775807 : (9223372036854775807 : Int64) = lI 9223372036854775807 := rfl
theorem ti_le {α : Type} {a b : Int} (h1 : -2147483648 ≤ a) (h2 : a < 2147483648) (h3 : -2147483648 ≤ b) (h4 : b < 2147483648) {x y : α} [inst : Decidable (iI a ≤ iI b)] : (if iI a ≤ iI b then x else y) = if a ≤ b then x else y := by
  by_cases h : a ≤ b
  · rw [if_pos h, if_pos (by rw [ii_le h1 h2 h3 h4]; exact h)]
  · rw [if_neg h, if_neg (by rw [ii_le h1 h2 h3 h4]; exact h)]
theorem ti_lt {α : Type} {a b : Int} (h1 : -2147483648 ≤ a) (h2 : a < 2147483648) (h3 : -2147483648 ≤ b) (h4 : b < 2147483648) {x y : α} [inst : Decidable (iI a < iI b)] : (if iI a < iI b then x else y) = if a < b then x else y := by
  by_cases h : a < b
  · rw [if_pos h, if_pos (by rw [ii_lt h1 h2 h3 h4]; exact h)]
  · rw [if_neg h, if_neg (by rw [ii_lt h1 h2 h3 h4]; exact h)]
theorem ti_eq {α : Type} {a b : Int} (h1 : -2147483648 ≤ a) (h2 : a < 2147483648) (h3 : -2147483648 ≤ b) (h4 : b < 2147483648) {x y : α} [inst : Decidable (iI a = iI b)] : (if iI a = iI b then x else y) = if a = b then x else y := by
  by_cases h : a = b
  · rw [if_pos h, if_pos (by rw [ii_eq h1 h2 h3 h4]; exact h)]
  · rw [if_neg h, if_neg (by rw [ii_eq h1 h2 h3 h4]; exact h)]
theorem tl_le {α : Type} {a b : Int} (h1 : -9223372036854775808 ≤ a) (h2 : a < 9223372036854775808) (h3 : -9223372036854775808 ≤ b) (h4 : b < 9223372036854775808) {x y : α} [inst : Decidable (lI a ≤ lI b)] : (if lI a ≤ lI b then x else y) = if a ≤ b then x else y := by
  by_cases h : a ≤ b
  · rw [if_pos h, if_pos (by rw [ll_le h1 h2 h3 h4]; exact h)]
  · rw [if_neg h, if_neg (by rw [ll_le h1 h2 h3 h4]; exact h)]
theorem tl_lt {α : Type} {a b : Int} (h1 : -9223372036854775808 ≤ a) (h2 : a < 9223372036854775808) (h3 : -9223372036854775808 ≤ b) (h4 : b < 9223372036854775808) {x y : α} [inst : Decidable (lI a < lI b)] : (if lI a < lI b then x else y) = if a < b then x else y := by
  by_cases h : a < b
  · rw [if_pos h, if_pos (by rw [ll_lt h1 h2 h3 h4]; exact h)]
  · rw [if_neg h, if_neg (by rw [ll_lt h1 h2 h3 h4]; exact h)]
theorem tl_eq {α : Type} {a b : Int} (h1 : -9223372036854775808 ≤ a) (h2 : a < 9223372036854775808) (h3 : -9223372036854775808 ≤ b) (h4 : b < 9223372036854775808) {x y : α} [inst : Decidable (lI a = lI b)] : (if lI a = lI b then x else y) = if a = b then x else y := by
  by_cases h : a = b
  · rw [if_pos h, if_pos (by rw [ll_eq h1 h2 h3 h4]; exact h)]
  · rw [if_neg h, if_neg (by rw [ll_eq h1 h2 h3 h4]; exact h)]
theorem ii_nx (k : Nat) : iI ((k : Int) + 1) = iI ((k + 1 : Nat) : Int) := rfl
theorem ii_nc (k : Nat) (h : k < 2147483648) : (iI (k : Int)).toNatClampNeg = k := by
  rw [ii_nat (by omega) (by omega)]; rfl
/-- an index within its bound -/
theorem ii_gd {k N : Nat} (h : k < N) (h' : N < 2147483648) : ¬ (iI (k : Int) < 0 ∨ N ≤ (iI (k : Int)).toNatClampNeg) := by
  rw [ii_nc k (by omega), ii_L0, ii_lt (by omega) (by omega) (by omega) (by omega)]
  omega
theorem ii_gi {a : Int} {N : Nat} (h0 : 0 ≤ a) (h : a < N) (h' : N < 2147483648) : ¬ (iI a < 0 ∨ N ≤ (iI a).toNatClampNeg) := by
  rw [ii_nat (by omega) (by omega), ii_L0, ii_lt (by omega) (by omega) (by omega) (by omega)]
  omega
theorem ii_gx {k N : Nat} (h : k < N) (h' : N < 2147483648 := by omega) : ¬ (iI (k : Int) < 0 ∨ N ≤ k) := by
  rw [ii_L0, ii_lt (by omega) (by omega) (by omega) (by omega)]
  omega
/-- a sum over the first places -/
def sm : Nat → (Nat → Int) → Int
  | 0, _ => 0
  | n + 1, g => sm n g + g n
theorem sm_congr {g h : Nat → Int} : ∀ {n : Nat}, (∀ k, k < n → g k = h k) → sm n g = sm n h := by
  intro n
  induction n with
  | zero => intro _; rfl
  | succ n ih =>
    intro H
    show sm n g + g n = sm n h + h n
    rw [ih (fun k hk => H k (by omega)), H n (by omega)]
theorem sm_add {g h : Nat → Int} : ∀ {n : Nat}, sm n (fun k => g k + h k) = sm n g + sm n h := by
  intro n
  induction n with
  | zero => rfl
  | succ n ih =>
    show sm n (fun k => g k + h k) + (g n + h n) = sm n g + g n + (sm n h + h n)
    rw [ih]; omega
theorem sm_sub {g h : Nat → Int} : ∀ {n : Nat}, sm n (fun k => g k - h k) = sm n g - sm n h := by
  intro n
  induction n with
  | zero => rfl
  | succ n ih =>
    show sm n (fun k => g k - h k) + (g n - h n) = sm n g + g n - (sm n h + h n)
    rw [ih]; omega
theorem sm_mul {g : Nat → Int} {a : Int} : ∀ {n : Nat}, sm n (fun k => g k * a) = sm n g * a := by
  intro n
  induction n with
  | zero => simp [sm]
  | succ n ih =>
    show sm n (fun k => g k * a) + g n * a = (sm n g + g n) * a
    rw [ih, Int.add_mul]
theorem sm_le {g h : Nat → Int} : ∀ {n : Nat}, (∀ k, k < n → g k ≤ h k) → sm n g ≤ sm n h := by
  intro n
  induction n with
  | zero => intro _; exact Int.le_refl _
  | succ n ih =>
    intro H
    have := ih (fun k hk => H k (by omega))
    have := H n (by omega)
    show sm n g + g n ≤ sm n h + h n
    omega
theorem sm_bd {g : Nat → Int} {b : Int} : ∀ {n : Nat}, (∀ k, k < n → 0 ≤ g k ∧ g k ≤ b) → 0 ≤ sm n g ∧ sm n g ≤ n * b := by
  intro n
  induction n with
  | zero => intro _; simp [sm]
  | succ n ih =>
    intro H
    have h1 := ih (fun k hk => H k (by omega))
    have h2 := H n (by omega)
    show 0 ≤ sm n g + g n ∧ sm n g + g n ≤ ((n + 1 : Nat) : Int) * b
    have : ((n + 1 : Nat) : Int) * b = n * b + b := by rw [Int.natCast_succ, Int.add_mul, Int.one_mul]
    omega
theorem sm_upd {g : Nat → Int} {j : Nat} {x : Int} : ∀ {n : Nat}, j < n → sm n (fun k => if k = j then x else g k) = sm n g - g j + x := by
  intro n
  induction n with
  | zero => intro h; omega
  | succ n ih =>
    intro h
    show sm n (fun k => if k = j then x else g k) + (if n = j then x else g n) = sm n g + g n - g j + x
    by_cases hn : n = j
    · rw [if_pos hn, sm_congr (h := g) (fun k hk => if_neg (by omega))]
      rw [hn]; omega
    · rw [if_neg hn, ih (by omega)]; omega
theorem tn_0 (k : Nat) : (4 + 4 * (k : Int)).toNat = 4 + 4 * k := by omega
theorem tn_1 (k : Nat) : (4 + 4 * (k : Int) + 1).toNat = 4 + 4 * k + 1 := by omega
theorem tn_2 (k : Nat) : (4 + 4 * (k : Int) + 2).toNat = 4 + 4 * k + 2 := by omega
theorem tn_3 (k : Nat) : (4 + 4 * (k : Int) + 3).toNat = 4 + 4 * k + 3 := by omega
theorem tn_c (k : Nat) : ((k : Int)).toNat = k := rfl
theorem tn_l0 : (0 : Int).toNat = 0 := rfl
theorem tn_l1 : (1 : Int).toNat = 1 := rfl
theorem tn_l2 : (2 : Int).toNat = 2 := rfl
theorem tn_l3 : (3 : Int).toNat = 3 := rfl
theorem up_L (f : Nat → Int64) (k : Nat) (x : Int64) (j : Nat) : vp_updL f k x j = if j = k then x else f j := rfl
theorem up_I (f : Nat → Int32) (k : Nat) (x : Int32) (j : Nat) : upd f k x j = if j = k then x else f j := rfl
theorem zi_z (a : Int) : a + 0 = a := Int.add_zero a
/-- a number put at a place -/
def up (g : Nat → Int) (j : Nat) (x : Int) : Nat → Int := fun k => if k = j then x else g k
theorem up_s (g : Nat → Int) (j : Nat) (x : Int) : up g j x j = x := if_pos rfl
theorem up_n {g : Nat → Int} {j k : Nat} {x : Int} (h : k ≠ j) : up g j x k = g k := if_neg h
theorem sm_up {g : Nat → Int} {j n : Nat} {x : Int} (h : j < n) : sm n (up g j x) = sm n g - g j + x := sm_upd h
theorem sm_up' {g : Nat → Int} {j n : Nat} {x : Int} (h : n ≤ j) : sm n (up g j x) = sm n g := sm_congr (fun k hk => up_n (by omega))
/-- a place taken out -/
def rm (g : Nat → Int) (j : Nat) : Nat → Int := fun k => if k < j then g k else g (k + 1)
theorem sm_rm {g : Nat → Int} {j : Nat} : ∀ {n : Nat}, j ≤ n → sm n (rm g j) = sm (n + 1) g - g j := by
  intro n
  induction n with
  | zero => intro h; have : j = 0 := by omega
            subst this; simp [sm]
  | succ n ih =>
    intro h
    show sm n (rm g j) + rm g j n = sm (n + 1) g + g (n + 1) - g j
    by_cases hn : j = n + 1
    · subst hn
      rw [show rm g (n + 1) n = g n from if_pos (by omega), sm_congr (h := g) (fun k hk => show rm g (n + 1) k = g k from if_pos (by omega))]
      show sm n g + g n = sm n g + g n + g (n + 1) - g (n + 1)
      omega
    · rw [ih (by omega), show rm g j n = g (n + 1) from if_neg (by omega)]
      omega
/-- the low sixteen bits -/
theorem ii_bv (n : Nat) : (iI (n : Int)).toBitVec.toNat = n % 4294967296 := by
  show (Int32.ofInt (n : Int)).toBitVec.toNat = _
  rw [Int32.ofInt_eq_ofNat]
  exact BitVec.toNat_ofNat n 32
theorem zc_nat (x : Int32) : zchar x = iI ((x.toUInt32.toNat % 65536 : Nat) : Int) := by
  apply Int32.toBitVec_inj.mp
  apply BitVec.eq_of_toNat_eq
  rw [ii_bv]
  have e1 : (zchar x).toBitVec.toNat = x.toUInt32.toNat % 65536 := by
    show (x.toUInt32 % 65536).toNat = _
    rw [UInt32.toNat_mod]; rfl
  rw [e1]
  omega
theorem zc_ex (x : Int32) : ∃ m : Int, zchar x = iI m ∧ 0 ≤ m ∧ m ≤ 65535 := ⟨_, zc_nat x, by omega, by omega⟩
theorem zc_id {m : Int} (h : 0 ≤ m) (h' : m ≤ 65535) : zchar (iI m) = iI m := by
  rw [zc_nat]
  have e : (iI m).toUInt32.toNat = m.toNat := by
    show (iI m).toBitVec.toNat = m.toNat
    rw [show m = ((m.toNat : Nat) : Int) from by omega, ii_bv]
    omega
  rw [e]
  congr 1
  omega
theorem nr_id {m : Int} (h : 0 ≤ m) (h' : m ≤ 65535) : vp_nar .char (iI m) = iI m := by
  rw [vp_nar_char]
  refine Eq.trans ?_ (zc_id h h')
  apply Int32.toBitVec_inj.mp
  apply BitVec.eq_of_toNat_eq
  simp [UInt32.toInt32]
theorem nr_id' {x : Int32} (h : 0 ≤ x ∧ x ≤ 65535) : vp_nar .char x = x := by
  obtain ⟨m, rfl, h1, h2⟩ := ii_ex x
  have a := h.1; have b := h.2
  rw [ii_L0, ii_le (by omega) (by omega) (by omega) (by omega)] at a
  rw [ii_L65535, ii_le (by omega) (by omega) (by omega) (by omega)] at b
  exact nr_id a b
theorem i1_0 : (iI 1 = 0) = False := by decide
theorem i0_0 : (iI 0 = 0) = True := by decide
theorem im_m : (iI (-1) = -1) = True := by decide
theorem ik_m {k : Nat} (h : k < 1000) : (iI (k : Int) = -1) = False := by
  rw [ii_L1, ii_neg, ii_eq (by omega) (by omega) (by omega) (by omega)]
  exact eq_false (by omega)
theorem ik_g {k N : Nat} (h : k < N) (h' : N < 2147483648) : (iI (k : Int) < 0 ∨ N ≤ (iI (k : Int)).toNatClampNeg) = False := eq_false (ii_gd h h')
theorem ik_gx {k N : Nat} (h : k < N) (h' : N < 2147483648) : (iI (k : Int) < 0 ∨ N ≤ k) = False := eq_false (ii_gx h h')
