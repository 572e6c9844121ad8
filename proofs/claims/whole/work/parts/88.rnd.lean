-- steps, rounding, conditions, digits: both sides answer the same numbers
def stp (s : Int) : Int := if s = 0 then 10000 else if s = 1 then 1000 else if s = 2 then 100 else if s = 3 then 10 else 1
def md (m : Int) : Prop := m = 100 ∨ m = 117 ∨ m = 104 ∨ m = 108 ∨ m = 101
theorem stp_cs {s : Int} (h : 0 ≤ s) (h' : s ≤ 4) : (s = 0 ∧ stp s = 10000) ∨ (s = 1 ∧ stp s = 1000) ∨ (s = 2 ∧ stp s = 100) ∨ (s = 3 ∧ stp s = 10) ∨ (s = 4 ∧ stp s = 1) := by
  have : s = 0 ∨ s = 1 ∨ s = 2 ∨ s = 3 ∨ s = 4 := by omega
  rcases this with h|h|h|h|h <;> subst h <;> decide
theorem stp_bd (s : Int) : 1 ≤ stp s ∧ stp s ≤ 10000 := by
  unfold stp
  repeat' split
  all_goals omega
theorem stp_dv (s : Int) : 10000000000 % stp s = 0 ∧ 10000 % stp s = 0 := by
  unfold stp
  repeat' split
  all_goals decide
theorem f7_step {s : Int} (h : 0 ≤ s) (h' : s ≤ 4) : F_X7_stepOf (iI s) = some (lI (stp s)) := by
  rcases stp_cs h h' with ⟨h, e⟩|⟨h, e⟩|⟨h, e⟩|⟨h, e⟩|⟨h, e⟩ <;> subst h <;> rw [e] <;> decide +kernel
theorem f11_step {s : Int} (h : 0 ≤ s) (h' : s ≤ 4) {fu : Nat} (hf : 6 ≤ fu) : F_X11_step fu (iI s) = some (lI (stp s)) := by
  obtain ⟨n, rfl⟩ : ∃ n, fu = n + 6 := ⟨fu - 6, by omega⟩
  rcases stp_cs h h' with ⟨h, e⟩|⟨h, e⟩|⟨h, e⟩|⟨h, e⟩|⟨h, e⟩ <;> subst h <;> rw [e] <;> simp (disch := omega) only [zl_eq, zb_some, zc_ok, zc_err, zo_some, zo_none, ii_add, ii_sub, ii_mul, ii_neg, ii_lt, ii_le, ii_eq, ii_nat, ii_div, ii_toL, ll_add, ll_sub, ll_mul, ll_neg, ll_lt, ll_le, ll_eq, ll_div, ll_toI, md_eq, tn_0, tn_1, tn_2, tn_3, tn_c, tn_l0, tn_l1, tn_l2, tn_l3, zi_z, ii_L0, ii_L1, ii_L2, ii_L3, ii_L4, ii_L5, ii_L6, ii_L7, ii_L8, ii_L9, ii_L10, ii_L20, ii_L28, ii_L31, ii_L32, ii_L40, ii_L41, ii_L45, ii_L46, ii_L47, ii_L48, ii_L57, ii_L58, ii_L59, ii_L60, ii_L63, ii_L64, ii_L80, ii_L100, ii_L101, ii_L104, ii_L108, ii_L117, ii_L196, ii_L224, ii_L305, ii_L255, ii_L999, ii_L1000, ii_L9999, ii_L10000, ii_L65535, ii_L999999, ll_L0, ll_L1, ll_L2, ll_L4, ll_L5, ll_L6, ll_L9, ll_L10, ll_L20, ll_L48, ll_L57, ll_L100, ll_L999, ll_L1000, ll_L9999, ll_L10000, ll_L999999, ll_L10000000000, ll_L9223372036854775807, F_X11_step, F_X11_step_6, if_true, if_false, if_pos, if_neg] <;> rfl
/-- whether a rest goes up: 1 or 0 -/
def gu (q r p m : Int) : Int := if r = 0 then 0 else if m = 100 then 0 else if m = 117 then 1 else if 2 * r - p = 0 then (if m = 104 then 1 else if m = 101 then (if q % 2 = 0 then 0 else 1) else 0) else if 0 < 2 * r - p then 1 else 0
theorem gu_01 (q r p m : Int) : gu q r p m = 0 ∨ gu q r p m = 1 := by
  unfold gu
  repeat' split
  all_goals first | exact Or.inl rfl | exact Or.inr rfl
theorem gu_z (q p m : Int) : gu q 0 p m = 0 := if_pos rfl
theorem f7_ga {q r p m : Int} (hm : md m) (hq : 0 ≤ q) (hq' : q < 4000000000000000000) (hr : 0 ≤ r) (hr' : r < 4000000000000000) (hp : 0 < p) (hp' : p < 4000000000000000) : F_X7_goesAbove (lI q) (lI r) (lI p) (iI m) = some (iI (gu q r p m)) := by
  rcases hm with h|h|h|h|h <;> subst h <;> unfold gu <;> simp (disch := omega) only [zl_eq, zb_some, zc_ok, zc_err, zo_some, zo_none, ii_add, ii_sub, ii_mul, ii_neg, ii_lt, ii_le, ii_eq, ii_nat, ii_div, ii_toL, ll_add, ll_sub, ll_mul, ll_neg, ll_lt, ll_le, ll_eq, ll_div, ll_toI, md_eq, tn_0, tn_1, tn_2, tn_3, tn_c, tn_l0, tn_l1, tn_l2, tn_l3, zi_z, ii_L0, ii_L1, ii_L2, ii_L3, ii_L4, ii_L5, ii_L6, ii_L7, ii_L8, ii_L9, ii_L10, ii_L20, ii_L28, ii_L31, ii_L32, ii_L40, ii_L41, ii_L45, ii_L46, ii_L47, ii_L48, ii_L57, ii_L58, ii_L59, ii_L60, ii_L63, ii_L64, ii_L80, ii_L100, ii_L101, ii_L104, ii_L108, ii_L117, ii_L196, ii_L224, ii_L305, ii_L255, ii_L999, ii_L1000, ii_L9999, ii_L10000, ii_L65535, ii_L999999, ll_L0, ll_L1, ll_L2, ll_L4, ll_L5, ll_L6, ll_L9, ll_L10, ll_L20, ll_L48, ll_L57, ll_L100, ll_L999, ll_L1000, ll_L9999, ll_L10000, ll_L999999, ll_L10000000000, ll_L9223372036854775807, F_X7_goesAbove, if_true, if_false, if_pos, if_neg] <;> (repeat' split) <;> first | rfl | omega
theorem f11_times {v p m : Int} (hm : md m) (hv : 0 ≤ v) (hv' : v < 4000000000000000) (hp : 0 < p) (hp' : p < 4000000000000000) : F_X11_times (lI v) (lI p) (iI m) = some (lI (v / p + gu (v / p) (v % p) p m)) := by
  have h1 : 0 ≤ v / p := Int.ediv_nonneg hv (by omega)
  have h2 : v / p ≤ v := Int.ediv_le_self p hv
  have h3 : 0 ≤ v % p := Int.emod_nonneg v (by omega)
  have h4 : v % p < p := Int.emod_lt_of_pos v hp
  have h5 : v / p * p ≤ v := Int.ediv_mul_le v (by omega)
  have h6 : 0 ≤ v / p * p := Int.mul_nonneg h1 (by omega)
  generalize hx : v / p = q at *
  generalize hy : v % p = r at *
  have e1 : lI v / lI p = lI q := by rw [ll_div hv (by omega) hp (by omega), hx]
  have e2 : lI v - lI q * lI p = lI r := by rw [ll_mul, ll_sub]; congr 1; rw [← hy, ← hx]; exact md_eq v p
  unfold F_X11_times
  rw [zi_n (by rw [ll_L0, ll_eq (by omega) (by omega) (by omega) (by omega)]; omega) rfl, zl_eq, zi_n (by rw [ll_L0, ll_eq (by omega) (by omega) (by omega) (by omega)]; omega) rfl, zl_eq, e1, e2]
  have key : r = 0 ∨ (0 < r ∧ 2 * r < p) ∨ (0 < r ∧ 2 * r = p ∧ q % 2 = 0) ∨ (0 < r ∧ 2 * r = p ∧ q % 2 = 1) ∨ (0 < r ∧ p < 2 * r) := by omega
  clear e1 e2 hx hy
  rcases hm with h|h|h|h|h <;> subst h <;> rcases key with k|k|k|k|k <;> unfold gu <;> simp (disch := omega) only [zl_eq, zb_some, zc_ok, zc_err, zo_some, zo_none, ii_add, ii_sub, ii_mul, ii_neg, ii_lt, ii_le, ii_eq, ii_nat, ii_div, ii_toL, ll_add, ll_sub, ll_mul, ll_neg, ll_lt, ll_le, ll_eq, ll_div, ll_toI, md_eq, tn_0, tn_1, tn_2, tn_3, tn_c, tn_l0, tn_l1, tn_l2, tn_l3, zi_z, ii_L0, ii_L1, ii_L2, ii_L3, ii_L4, ii_L5, ii_L6, ii_L7, ii_L8, ii_L9, ii_L10, ii_L20, ii_L28, ii_L31, ii_L32, ii_L40, ii_L41, ii_L45, ii_L46, ii_L47, ii_L48, ii_L57, ii_L58, ii_L59, ii_L60, ii_L63, ii_L64, ii_L80, ii_L100, ii_L101, ii_L104, ii_L108, ii_L117, ii_L196, ii_L224, ii_L305, ii_L255, ii_L999, ii_L1000, ii_L9999, ii_L10000, ii_L65535, ii_L999999, ll_L0, ll_L1, ll_L2, ll_L4, ll_L5, ll_L6, ll_L9, ll_L10, ll_L20, ll_L48, ll_L57, ll_L100, ll_L999, ll_L1000, ll_L9999, ll_L10000, ll_L999999, ll_L10000000000, ll_L9223372036854775807, F_X11_times_58, F_X11_times_35, F_X11_times_110, if_true, if_false, if_pos, if_neg]
/-- a sum rounded -/
def rd (v s m : Int) : Int := (v / stp s + gu (v / stp s) (v % stp s) (stp s) m) * stp s
theorem f7_sum {v s m : Int} (hm : md m) (hs : 0 ≤ s) (hs' : s ≤ 4) (hv : 0 ≤ v) (hv' : v < 4000000000000000) : F_X7_ofSum (lI v) (iI s) (iI m) = some (lI (rd v s m)) := by
  obtain ⟨p1, p2⟩ := stp_bd s
  have h1 : 0 ≤ v / stp s := Int.ediv_nonneg hv (by omega)
  have h2 : v / stp s ≤ v := Int.ediv_le_self _ hv
  have h3 : 0 ≤ v % stp s := Int.emod_nonneg v (by omega)
  have h4 : v % stp s < stp s := Int.emod_lt_of_pos v (by omega)
  have h5 : ¬ lI (stp s) = 0 := by rw [ll_L0, ll_eq (by omega) (by omega) (by omega) (by omega)]; omega
  unfold F_X7_ofSum rd
  rw [f7_step hs hs', zb_some, if_neg h5, zl_eq, if_neg h5, ll_div hv (by omega) (by omega) (by omega), ll_mul, ll_sub, md_eq, f7_ga hm h1 (by omega) h3 (by omega) (by omega) (by omega), zb_some]
  rcases gu_01 (v / stp s) (v % stp s) (stp s) m with h | h
  · rw [h, if_pos (by decide), Int.add_zero]
  · rw [h, if_neg (by decide), ll_L1, ll_add, ll_mul]
theorem f11_round {v s m : Int} (hm : md m) (hs : 0 ≤ s) (hs' : s ≤ 4) (hv : 0 ≤ v) (hv' : v < 4000000000000000) {fu : Nat} (hf : 6 ≤ fu) : F_X11_round fu (lI v) (iI s) (iI m) = some (lI (rd v s m)) := by
  obtain ⟨p1, p2⟩ := stp_bd s
  unfold F_X11_round rd
  rw [f11_step hs hs' hf, zb_some, zb_some, f11_times hm hv hv' (by omega) (by omega), zb_some, ll_mul, Int.mul_comm]
theorem rd_md (v s m : Int) : rd v s m % stp s = 0 := Int.mul_emod_left _ _
theorem rd_cs {v : Int} (s m : Int) : rd v s m = v - v % stp s ∨ (rd v s m = v - v % stp s + stp s ∧ v % stp s ≠ 0) := by
  have e : v / stp s * stp s = v - v % stp s := by have := Int.emod_def v (stp s); rw [Int.mul_comm] at this; omega
  unfold rd
  rw [Int.add_mul, e]
  by_cases hz : v % stp s = 0
  · rw [hz, gu_z]; left; omega
  · rcases gu_01 (v / stp s) (v % stp s) (stp s) m with h | h
    · rw [h]; left; omega
    · rw [h]; right; exact ⟨by omega, hz⟩
theorem rd_bd {v : Int} (s m : Int) (hv : 0 ≤ v) : 0 ≤ rd v s m ∧ rd v s m < v + stp s ∧ v - stp s < rd v s m := by
  obtain ⟨p1, p2⟩ := stp_bd s
  have h3 : 0 ≤ v % stp s := Int.emod_nonneg v (by omega)
  have h4 : v % stp s < stp s := Int.emod_lt_of_pos v (by omega)
  have h5 : v % stp s ≤ v := by
    have e := Int.emod_def v (stp s)
    have := Int.mul_nonneg (show 0 ≤ stp s by omega) (Int.ediv_nonneg hv (show 0 ≤ stp s by omega))
    omega
  rcases rd_cs (v := v) s m with h | ⟨h, h'⟩ <;> omega
/-- a quotient rounded -/
def rq (a b s m : Int) : Int := (10000 * a / (b * stp s) + gu (10000 * a / (b * stp s)) (10000 * a % (b * stp s)) (b * stp s) m) * stp s
theorem rq_bd {a b : Int} (s m : Int) (ha : 0 ≤ a) (ha' : a ≤ 9999) (hb : 1 ≤ b) : 0 ≤ rq a b s m ∧ rq a b s m < 10000000000 := by
  obtain ⟨p1, p2⟩ := stp_bd s
  have hp : stp s ≤ b * stp s := by have := Int.mul_le_mul_of_nonneg_right hb (show 0 ≤ stp s by omega); omega
  have h1 : 0 ≤ 10000 * a / (b * stp s) := Int.ediv_nonneg (by omega) (by omega)
  have h5 : 10000 * a / (b * stp s) * (b * stp s) ≤ 10000 * a := Int.ediv_mul_le _ (by omega)
  have h6 : 10000 * a / (b * stp s) * stp s ≤ 10000 * a / (b * stp s) * (b * stp s) := Int.mul_le_mul_of_nonneg_left hp h1
  have h7 : 0 ≤ 10000 * a / (b * stp s) * stp s := Int.mul_nonneg h1 (by omega)
  unfold rq
  rw [Int.add_mul]
  rcases gu_01 (10000 * a / (b * stp s)) (10000 * a % (b * stp s)) (b * stp s) m with h | h <;> rw [h]
  · rw [Int.zero_mul]; omega
  · rw [Int.one_mul]; omega
theorem f7_quo {a b s m : Int} (hm : md m) (hs : 0 ≤ s) (hs' : s ≤ 4) (ha : 0 ≤ a) (ha' : a ≤ 9999) (hb : 1 ≤ b) (hb' : b ≤ 999) : F_X7_ofQuotient (iI a) (iI b) (iI s) (iI m) = some (lI (rq a b s m)) := by
  obtain ⟨p1, p2⟩ := stp_bd s
  have hp : stp s ≤ b * stp s := by have := Int.mul_le_mul_of_nonneg_right hb (show 0 ≤ stp s by omega); omega
  have hp' : b * stp s ≤ 999 * stp s := Int.mul_le_mul_of_nonneg_right hb' (by omega)
  have h1 : 0 ≤ 10000 * a / (b * stp s) := Int.ediv_nonneg (by omega) (by omega)
  have h2 : 10000 * a / (b * stp s) ≤ 10000 * a := Int.ediv_le_self _ (by omega)
  have h3 : 0 ≤ 10000 * a % (b * stp s) := Int.emod_nonneg _ (by omega)
  have h4 : 10000 * a % (b * stp s) < b * stp s := Int.emod_lt_of_pos _ (by omega)
  have h5 : ¬ lI (b * stp s) = 0 := by rw [ll_L0, ll_eq (by omega) (by omega) (by omega) (by omega)]; omega
  have h6 : ¬ lI (b * stp s) < 1 := by rw [ll_L1, ll_lt (by omega) (by omega) (by omega) (by omega)]; omega
  unfold F_X7_ofQuotient rq
  rw [f7_step hs hs', zb_some, zl_eq, zl_eq, ii_toL (by omega) (by omega), ii_toL (by omega) (by omega), ll_L10000, ll_mul, ll_mul, if_neg h6, if_neg h5, zl_eq, if_neg h5, Int.mul_comm a 10000, ll_div (by omega) (by omega) (by omega) (by omega), ll_mul, ll_sub, md_eq, f7_ga hm h1 (by omega) h3 (by omega) (by omega) (by omega), zb_some]
  rcases gu_01 (10000 * a / (b * stp s)) (10000 * a % (b * stp s)) (b * stp s) m with h | h
  · rw [h, if_pos (by decide), ll_mul, Int.add_zero]
  · rw [h, if_neg (by decide), ll_L1, ll_add, ll_mul]
/-- an amount, a scale, a mode, a quotient within their bounds -/
def amt (w f : Int) : Prop := 0 ≤ w ∧ w ≤ 999999 ∧ 0 ≤ f ∧ f ≤ 9999
def scl (s : Int) : Prop := 0 ≤ s ∧ s ≤ 4
def quo (a b : Int) : Prop := 0 ≤ a ∧ a ≤ 9999 ∧ 1 ≤ b ∧ b ≤ 999
def r32 (a : Int) : Prop := -2147483648 ≤ a ∧ a < 2147483648
theorem f_in {a l h : Int} (ha : -9000000000000000000 ≤ a) (ha' : a < 9000000000000000000) (hl : -9000000000000000000 ≤ l) (hl' : l < 9000000000000000000) (hh : -9000000000000000000 ≤ h) (hh' : h < 9000000000000000000) : F_X11_in (lI a) (lI l) (lI h) = some (iI (if l ≤ a ∧ a ≤ h then 1 else 0)) := by
  unfold F_X11_in
  rw [tl_lt (by omega) (by omega) (by omega) (by omega), tl_lt (by omega) (by omega) (by omega) (by omega)]
  repeat' split
  all_goals first | rfl | omega
theorem f10_amt {w f : Int} (hw : r32 w) (hf : r32 f) (h : amt w f) : F_X10_requireAmount (iI w) (iI f) = some (.ok ()) := by
  obtain ⟨a1, a2⟩ := hw; obtain ⟨b1, b2⟩ := hf; obtain ⟨c1, c2, c3, c4⟩ := h
  simp (disch := omega) only [zl_eq, zb_some, zc_ok, zc_err, zo_some, zo_none, ii_add, ii_sub, ii_mul, ii_neg, ii_lt, ii_le, ii_eq, ii_nat, ii_div, ii_toL, ll_add, ll_sub, ll_mul, ll_neg, ll_lt, ll_le, ll_eq, ll_div, ll_toI, md_eq, tn_0, tn_1, tn_2, tn_3, tn_c, tn_l0, tn_l1, tn_l2, tn_l3, zi_z, ii_L0, ii_L1, ii_L2, ii_L3, ii_L4, ii_L5, ii_L6, ii_L7, ii_L8, ii_L9, ii_L10, ii_L20, ii_L28, ii_L31, ii_L32, ii_L40, ii_L41, ii_L45, ii_L46, ii_L47, ii_L48, ii_L57, ii_L58, ii_L59, ii_L60, ii_L63, ii_L64, ii_L80, ii_L100, ii_L101, ii_L104, ii_L108, ii_L117, ii_L196, ii_L224, ii_L305, ii_L255, ii_L999, ii_L1000, ii_L9999, ii_L10000, ii_L65535, ii_L999999, ll_L0, ll_L1, ll_L2, ll_L4, ll_L5, ll_L6, ll_L9, ll_L10, ll_L20, ll_L48, ll_L57, ll_L100, ll_L999, ll_L1000, ll_L9999, ll_L10000, ll_L999999, ll_L10000000000, ll_L9223372036854775807, F_X10_requireAmount, if_true, if_false, if_pos, if_neg]
theorem f10_amtN {w f : Int} (hw : r32 w) (hf : r32 f) (h : ¬ amt w f) : F_X10_requireAmount (iI w) (iI f) = some (.error (0, ())) := by
  obtain ⟨a1, a2⟩ := hw; obtain ⟨b1, b2⟩ := hf
  unfold amt at h
  simp (disch := omega) only [zl_eq, zb_some, zc_ok, zc_err, zo_some, zo_none, ii_add, ii_sub, ii_mul, ii_neg, ii_lt, ii_le, ii_eq, ii_nat, ii_div, ii_toL, ll_add, ll_sub, ll_mul, ll_neg, ll_lt, ll_le, ll_eq, ll_div, ll_toI, md_eq, tn_0, tn_1, tn_2, tn_3, tn_c, tn_l0, tn_l1, tn_l2, tn_l3, zi_z, ii_L0, ii_L1, ii_L2, ii_L3, ii_L4, ii_L5, ii_L6, ii_L7, ii_L8, ii_L9, ii_L10, ii_L20, ii_L28, ii_L31, ii_L32, ii_L40, ii_L41, ii_L45, ii_L46, ii_L47, ii_L48, ii_L57, ii_L58, ii_L59, ii_L60, ii_L63, ii_L64, ii_L80, ii_L100, ii_L101, ii_L104, ii_L108, ii_L117, ii_L196, ii_L224, ii_L305, ii_L255, ii_L999, ii_L1000, ii_L9999, ii_L10000, ii_L65535, ii_L999999, ll_L0, ll_L1, ll_L2, ll_L4, ll_L5, ll_L6, ll_L9, ll_L10, ll_L20, ll_L48, ll_L57, ll_L100, ll_L999, ll_L1000, ll_L9999, ll_L10000, ll_L999999, ll_L10000000000, ll_L9223372036854775807, F_X10_requireAmount]
  repeat' split
  all_goals first | rfl | omega
theorem f11_amt {w f : Int} (hw : r32 w) (hf : r32 f) : F_X11_isAmount (iI w) (iI f) = some (iI (if 0 ≤ w ∧ w ≤ 999999 ∧ 0 ≤ f ∧ f ≤ 9999 then 1 else 0)) := by
  obtain ⟨a1, a2⟩ := hw; obtain ⟨b1, b2⟩ := hf
  unfold F_X11_isAmount
  rw [ii_toL a1 a2, ll_L0, ll_L999999, f_in (by omega) (by omega) (by omega) (by omega) (by omega) (by omega), zb_some]
  by_cases h : 0 ≤ w ∧ w ≤ 999999
  · rw [if_pos h, if_neg (by decide), ii_toL b1 b2, ll_L9999, f_in (by omega) (by omega) (by omega) (by omega) (by omega) (by omega), zb_some]
    by_cases h' : 0 ≤ f ∧ f ≤ 9999
    · rw [if_pos h', if_neg (by decide), if_pos ⟨h.1, h.2, h'.1, h'.2⟩]; rfl
    · rw [if_neg h', if_pos (by decide), if_neg (fun g => h' ⟨g.2.2.1, g.2.2.2⟩)]; rfl
  · rw [if_neg h, if_pos (by decide), if_neg (fun g => h ⟨g.1, g.2.1⟩)]; rfl
theorem f11_amtY {w f : Int} (hw : r32 w) (hf : r32 f) (h : amt w f) : F_X11_isAmount (iI w) (iI f) = some (iI 1) := by
  rw [f11_amt hw hf]; unfold amt at h; rw [if_pos h]
theorem f11_amtN {w f : Int} (hw : r32 w) (hf : r32 f) (h : ¬ amt w f) : F_X11_isAmount (iI w) (iI f) = some (iI 0) := by
  rw [f11_amt hw hf]; unfold amt at h; rw [if_neg h]
theorem f10_scl {s : Int} (hs : r32 s) (h : scl s) : F_X10_requireScale (iI s) = some (.ok ()) := by
  obtain ⟨a1, a2⟩ := hs; obtain ⟨b1, b2⟩ := h
  simp (disch := omega) only [zl_eq, zb_some, zc_ok, zc_err, zo_some, zo_none, ii_add, ii_sub, ii_mul, ii_neg, ii_lt, ii_le, ii_eq, ii_nat, ii_div, ii_toL, ll_add, ll_sub, ll_mul, ll_neg, ll_lt, ll_le, ll_eq, ll_div, ll_toI, md_eq, tn_0, tn_1, tn_2, tn_3, tn_c, tn_l0, tn_l1, tn_l2, tn_l3, zi_z, ii_L0, ii_L1, ii_L2, ii_L3, ii_L4, ii_L5, ii_L6, ii_L7, ii_L8, ii_L9, ii_L10, ii_L20, ii_L28, ii_L31, ii_L32, ii_L40, ii_L41, ii_L45, ii_L46, ii_L47, ii_L48, ii_L57, ii_L58, ii_L59, ii_L60, ii_L63, ii_L64, ii_L80, ii_L100, ii_L101, ii_L104, ii_L108, ii_L117, ii_L196, ii_L224, ii_L305, ii_L255, ii_L999, ii_L1000, ii_L9999, ii_L10000, ii_L65535, ii_L999999, ll_L0, ll_L1, ll_L2, ll_L4, ll_L5, ll_L6, ll_L9, ll_L10, ll_L20, ll_L48, ll_L57, ll_L100, ll_L999, ll_L1000, ll_L9999, ll_L10000, ll_L999999, ll_L10000000000, ll_L9223372036854775807, F_X10_requireScale, if_true, if_false, if_pos, if_neg]
theorem f10_sclN {s : Int} (hs : r32 s) (h : ¬ scl s) : F_X10_requireScale (iI s) = some (.error (0, ())) := by
  obtain ⟨a1, a2⟩ := hs
  unfold scl at h
  simp (disch := omega) only [zl_eq, zb_some, zc_ok, zc_err, zo_some, zo_none, ii_add, ii_sub, ii_mul, ii_neg, ii_lt, ii_le, ii_eq, ii_nat, ii_div, ii_toL, ll_add, ll_sub, ll_mul, ll_neg, ll_lt, ll_le, ll_eq, ll_div, ll_toI, md_eq, tn_0, tn_1, tn_2, tn_3, tn_c, tn_l0, tn_l1, tn_l2, tn_l3, zi_z, ii_L0, ii_L1, ii_L2, ii_L3, ii_L4, ii_L5, ii_L6, ii_L7, ii_L8, ii_L9, ii_L10, ii_L20, ii_L28, ii_L31, ii_L32, ii_L40, ii_L41, ii_L45, ii_L46, ii_L47, ii_L48, ii_L57, ii_L58, ii_L59, ii_L60, ii_L63, ii_L64, ii_L80, ii_L100, ii_L101, ii_L104, ii_L108, ii_L117, ii_L196, ii_L224, ii_L305, ii_L255, ii_L999, ii_L1000, ii_L9999, ii_L10000, ii_L65535, ii_L999999, ll_L0, ll_L1, ll_L2, ll_L4, ll_L5, ll_L6, ll_L9, ll_L10, ll_L20, ll_L48, ll_L57, ll_L100, ll_L999, ll_L1000, ll_L9999, ll_L10000, ll_L999999, ll_L10000000000, ll_L9223372036854775807, F_X10_requireScale]
  repeat' split
  all_goals first | rfl | omega
theorem f11_scl {s : Int} (hs : r32 s) (h : scl s) : F_X11_isScale (iI s) = some (iI 1) := by
  obtain ⟨a1, a2⟩ := hs
  unfold F_X11_isScale
  rw [ii_toL a1 a2, ll_L0, ll_L4, f_in (by omega) (by omega) (by omega) (by omega) (by omega) (by omega), zb_some]
  unfold scl at h
  rw [if_pos h, if_neg (by decide)]
theorem f11_sclN {s : Int} (hs : r32 s) (h : ¬ scl s) : F_X11_isScale (iI s) = some (iI 0) := by
  obtain ⟨a1, a2⟩ := hs
  unfold F_X11_isScale
  rw [ii_toL a1 a2, ll_L0, ll_L4, f_in (by omega) (by omega) (by omega) (by omega) (by omega) (by omega), zb_some]
  unfold scl at h
  rw [if_neg h, if_neg (by decide)]
theorem f10_quo {a b : Int} (ha : r32 a) (hb : r32 b) (h : quo a b) : F_X10_requireQuotient (iI a) (iI b) = some (.ok ()) := by
  obtain ⟨a1, a2⟩ := ha; obtain ⟨b1, b2⟩ := hb; obtain ⟨c1, c2, c3, c4⟩ := h
  simp (disch := omega) only [zl_eq, zb_some, zc_ok, zc_err, zo_some, zo_none, ii_add, ii_sub, ii_mul, ii_neg, ii_lt, ii_le, ii_eq, ii_nat, ii_div, ii_toL, ll_add, ll_sub, ll_mul, ll_neg, ll_lt, ll_le, ll_eq, ll_div, ll_toI, md_eq, tn_0, tn_1, tn_2, tn_3, tn_c, tn_l0, tn_l1, tn_l2, tn_l3, zi_z, ii_L0, ii_L1, ii_L2, ii_L3, ii_L4, ii_L5, ii_L6, ii_L7, ii_L8, ii_L9, ii_L10, ii_L20, ii_L28, ii_L31, ii_L32, ii_L40, ii_L41, ii_L45, ii_L46, ii_L47, ii_L48, ii_L57, ii_L58, ii_L59, ii_L60, ii_L63, ii_L64, ii_L80, ii_L100, ii_L101, ii_L104, ii_L108, ii_L117, ii_L196, ii_L224, ii_L305, ii_L255, ii_L999, ii_L1000, ii_L9999, ii_L10000, ii_L65535, ii_L999999, ll_L0, ll_L1, ll_L2, ll_L4, ll_L5, ll_L6, ll_L9, ll_L10, ll_L20, ll_L48, ll_L57, ll_L100, ll_L999, ll_L1000, ll_L9999, ll_L10000, ll_L999999, ll_L10000000000, ll_L9223372036854775807, F_X10_requireQuotient, if_true, if_false, if_pos, if_neg]
theorem f10_quoN {a b : Int} (ha : r32 a) (hb : r32 b) (h : ¬ quo a b) : F_X10_requireQuotient (iI a) (iI b) = some (.error (0, ())) := by
  obtain ⟨a1, a2⟩ := ha; obtain ⟨b1, b2⟩ := hb
  unfold quo at h
  simp (disch := omega) only [zl_eq, zb_some, zc_ok, zc_err, zo_some, zo_none, ii_add, ii_sub, ii_mul, ii_neg, ii_lt, ii_le, ii_eq, ii_nat, ii_div, ii_toL, ll_add, ll_sub, ll_mul, ll_neg, ll_lt, ll_le, ll_eq, ll_div, ll_toI, md_eq, tn_0, tn_1, tn_2, tn_3, tn_c, tn_l0, tn_l1, tn_l2, tn_l3, zi_z, ii_L0, ii_L1, ii_L2, ii_L3, ii_L4, ii_L5, ii_L6, ii_L7, ii_L8, ii_L9, ii_L10, ii_L20, ii_L28, ii_L31, ii_L32, ii_L40, ii_L41, ii_L45, ii_L46, ii_L47, ii_L48, ii_L57, ii_L58, ii_L59, ii_L60, ii_L63, ii_L64, ii_L80, ii_L100, ii_L101, ii_L104, ii_L108, ii_L117, ii_L196, ii_L224, ii_L305, ii_L255, ii_L999, ii_L1000, ii_L9999, ii_L10000, ii_L65535, ii_L999999, ll_L0, ll_L1, ll_L2, ll_L4, ll_L5, ll_L6, ll_L9, ll_L10, ll_L20, ll_L48, ll_L57, ll_L100, ll_L999, ll_L1000, ll_L9999, ll_L10000, ll_L999999, ll_L10000000000, ll_L9223372036854775807, F_X10_requireQuotient]
  repeat' split
  all_goals first | rfl | omega
theorem f10_uni {w f : Int} (hw : r32 w) (hf : r32 f) : F_X10_unitsOf (iI w) (iI f) = some (lI (10000 * w + f)) := by
  obtain ⟨a1, a2⟩ := hw; obtain ⟨b1, b2⟩ := hf
  unfold F_X10_unitsOf
  rw [ii_toL a1 a2, ii_toL b1 b2, ll_L10000, ll_mul, ll_add, Int.mul_comm]
theorem f11_uni {w f : Int} (hw : r32 w) (hf : r32 f) : F_X11_units (iI w) (iI f) = some (lI (10000 * w + f)) := by
  obtain ⟨a1, a2⟩ := hw; obtain ⟨b1, b2⟩ := hf
  unfold F_X11_units
  rw [ii_toL a1 a2, ii_toL b1 b2, ll_L10000, ll_mul, ll_add]
/-- a number without its last digits -/
def dv : Nat → Int → Int
  | 0, v => v
  | n + 1, v => dv n (v / 10)
theorem dv_nn : ∀ (n : Nat) {v : Int}, 0 ≤ v → 0 ≤ dv n v ∧ dv n v ≤ v := by
  intro n
  induction n with
  | zero => intro v h; exact ⟨h, Int.le_refl v⟩
  | succ n ih =>
    intro v h
    have := ih (v := v / 10) (by omega)
    show 0 ≤ dv n (v / 10) ∧ dv n (v / 10) ≤ v
    omega
theorem dv_s : ∀ (n : Nat) (v : Int), dv (n + 1) v = dv n v / 10 := by
  intro n
  induction n with
  | zero => intro v; rfl
  | succ n ih => intro v; exact ih (v / 10)
theorem f10_dig6 (fu : Nat) {i : Nat} (hi : i < 1000) : ∀ (n j : Nat) (v : Int), 0 ≤ v → v < 4000000000000000000 → j ≤ i → i < j + n → F_X10_digitAt_5 fu n (iI (i : Int)) (lI v) (iI (j : Int)) = some (iI (dv (i - j) v % 10)) := by
  intro n
  induction n with
  | zero => intro j v _ _ _ h; omega
  | succ n ih =>
    intro j v h0 h1 hj hn
    by_cases he : j = i
    · subst he
      unfold F_X10_digitAt_5
      rw [if_pos (Int32.le_refl _), ll_L10, ll_div h0 (by omega) (by omega) (by omega), ll_mul, ll_sub, ll_toI, md_eq, Nat.sub_self]; rfl
    · have e : i - j = (i - (j + 1)) + 1 := by omega
      unfold F_X10_digitAt_5
      rw [if_neg (by rw [ii_le (by omega) (by omega) (by omega) (by omega)]; omega), zl_eq, zl_eq, ll_L10, ll_div h0 (by omega) (by omega) (by omega), ii_L1, ii_add, ii_nx, ih (j + 1) (v / 10) (by omega) (by omega) (by omega) (by omega), e]
      rfl
theorem f10_dig {v : Int} (h0 : 0 ≤ v) (h1 : v < 4000000000000000000) {i fu : Nat} (hi : i < 1000) (hf : i < fu) : F_X10_digitAt fu (lI v) (iI (i : Int)) = some (iI (dv i v % 10)) := f10_dig6 fu hi fu 0 v h0 h1 (by omega) (by omega)
theorem f11_dig6 (fu : Nat) {i : Nat} (hi : i < 1000) : ∀ (n j : Nat) (v : Int), 0 ≤ v → v < 4000000000000000000 → j ≤ i → i < j + n → F_X11_digitAt_6 fu n (iI ((i : Int) - 4)) (lI v) (iI ((j : Int) - 4)) = some (iI (dv (i - j) v % 10)) := by
  intro n
  induction n with
  | zero => intro j v _ _ _ h; omega
  | succ n ih =>
    intro j v h0 h1 hj hn
    by_cases he : j = i
    · subst he
      unfold F_X11_digitAt_6
      rw [if_pos (Int32.le_refl _), ll_L10, ll_div h0 (by omega) (by omega) (by omega), ll_mul, ll_sub, ll_toI, md_eq, Nat.sub_self]; rfl
    · have e : i - j = (i - (j + 1)) + 1 := by omega
      have e2 : (j : Int) - 4 + 1 = ((j + 1 : Nat) : Int) - 4 := by omega
      unfold F_X11_digitAt_6
      rw [if_neg (by rw [ii_le (by omega) (by omega) (by omega) (by omega)]; omega), zl_eq, zl_eq, ll_L10, ll_div h0 (by omega) (by omega) (by omega), ii_L1, ii_add, e2, ih (j + 1) (v / 10) (by omega) (by omega) (by omega) (by omega), e]
      rfl
theorem f11_dig {v : Int} (h0 : 0 ≤ v) (h1 : v < 4000000000000000000) {i fu : Nat} (hi : i < 1000) (hf : i < fu) : F_X11_digitAt fu (lI v) (iI ((i : Int) - 4)) = some (iI (dv i v % 10)) := f11_dig6 fu hi fu 0 v h0 h1 (by omega) (by omega)
