-- the state as numbers, and what each side holds of it
abbrev AS : Type := (Nat → Int) × (Nat → Int) × (Nat → Int) × (Nat → Int) × Nat × Int × Int × Int × Int × Int × Int
abbrev a_I (a : AS) : Nat → Int := a.1
abbrev a_V (a : AS) : Nat → Int := a.2.1
abbrev a_S (a : AS) : Nat → Int := a.2.2.1
abbrev a_M (a : AS) : Nat → Int := a.2.2.2.1
abbrev a_c (a : AS) : Nat := a.2.2.2.2.1
abbrev a_n (a : AS) : Int := a.2.2.2.2.2.1
abbrev a_e (a : AS) : Int := a.2.2.2.2.2.2.1
abbrev a_f (a : AS) : Int := a.2.2.2.2.2.2.2.1
abbrev a_A (a : AS) : Int := a.2.2.2.2.2.2.2.2.1
abbrev a_F (a : AS) : Int := a.2.2.2.2.2.2.2.2.2.1
abbrev a_R (a : AS) : Int := a.2.2.2.2.2.2.2.2.2.2
/-- what the class holds -/
def CR (st : SS) (a : AS) : Prop :=
  s_cnt st = iI (a_c a : Int) ∧ s_nxt st = iI (a_n a) ∧ s_esc st = iI (a_e a) ∧ s_fal st = lI (a_f a) ∧ s_add st = lI (a_A a) ∧ s_fed st = lI (a_F a) ∧ s_rem st = lI (a_R a) ∧
  (∀ k, k < a_c a → s_ids st k = iI (a_I a k)) ∧ (∀ k, k < a_c a → s_vals st k = lI (a_V a k)) ∧ (∀ k, k < a_c a → s_scs st k = iI (a_S a k)) ∧ (∀ k, k < a_c a → s_mds st k = iI (a_M a k)) ∧
  (∀ k, k < 6 → 0 ≤ s_mds st k ∧ s_mds st k ≤ 65535)
/-- what the reference holds -/
def MR (mm : Nat → Int64) (a : AS) : Prop :=
  mm 0 = lI (a_c a : Int) ∧ mm 1 = lI (a_n a) ∧ mm 2 = lI (a_e a) ∧ mm 3 = lI (a_f a) ∧
  (∀ k, k < a_c a → mm (4 + 4 * k) = lI (a_I a k)) ∧ (∀ k, k < a_c a → mm (4 + 4 * k + 1) = lI (a_V a k)) ∧ (∀ k, k < a_c a → mm (4 + 4 * k + 2) = lI (a_S a k)) ∧ (∀ k, k < a_c a → mm (4 + 4 * k + 3) = lI (a_M a k))
/-- what always holds; B bounds what only grows -/
def OKA (B : Int) (a : AS) : Prop :=
  a_c a ≤ 6 ∧ 0 ≤ a_n a ∧ a_n a ≤ B ∧ 0 ≤ a_e a ∧ a_e a ≤ B ∧ B ≤ 1000000 ∧
  (∀ k, k < a_c a → 0 ≤ a_I a k ∧ a_I a k ≤ B) ∧ (∀ k, k < a_c a → 0 ≤ a_V a k ∧ a_V a k < 10000000000) ∧ (∀ k, k < a_c a → 0 ≤ a_S a k ∧ a_S a k ≤ 4) ∧ (∀ k, k < a_c a → md (a_M a k)) ∧ (∀ k, k < a_c a → a_V a k % stp (a_S a k) = 0) ∧
  sm (a_c a) (a_V a) = a_A a + a_F a + a_f a - a_R a - 10000000000 * a_e a
theorem md_bd {m : Int} (h : md m) : 0 ≤ m ∧ m ≤ 65535 := by
  rcases h with h|h|h|h|h <;> omega
theorem f11_at (k : Nat) : F_X11_at (iI (k : Int)) = some (iI (4 + 4 * (k : Int))) := by
  unfold F_X11_at
  rw [ii_L4, ii_mul, ii_add]
theorem f11_many {mm : Nat → Int64} {a : AS} (h : MR mm a) : F_X11_many mm = some (iI (a_c a : Int)) := by
  unfold F_X11_many
  show some (Int64.toInt32 (mm 0)) = _
  rw [h.1, ll_toI]
theorem st_g {k j : Nat} (hk : k < 6) (hj : j < 4) : ¬ (iI (4 + 4 * (k : Int) + (j : Int)) < 0 ∨ 28 ≤ (iI (4 + 4 * (k : Int) + (j : Int))).toNatClampNeg) := ii_gi (by omega) (by omega) (by omega)
theorem at_1 {k : Nat} (hk : k < 6) : (iI (4 + 4 * (k : Int)) + 1 < 0 ∨ 28 ≤ (iI (4 + 4 * (k : Int)) + 1).toNatClampNeg) = False := by rw [ii_L1, ii_add]; exact eq_false (ii_gi (by omega) (by omega) (by omega))
theorem at_2 {k : Nat} (hk : k < 6) : (iI (4 + 4 * (k : Int)) + 2 < 0 ∨ 28 ≤ (iI (4 + 4 * (k : Int)) + 2).toNatClampNeg) = False := by rw [ii_L2, ii_add]; exact eq_false (ii_gi (by omega) (by omega) (by omega))
theorem at_3 {k : Nat} (hk : k < 6) : (iI (4 + 4 * (k : Int)) + 3 < 0 ∨ 28 ≤ (iI (4 + 4 * (k : Int)) + 3).toNatClampNeg) = False := by rw [ii_L3, ii_add]; exact eq_false (ii_gi (by omega) (by omega) (by omega))
theorem at_0 {k : Nat} (hk : k < 6) : (iI (4 + 4 * (k : Int)) < 0 ∨ 28 ≤ (iI (4 + 4 * (k : Int))).toNatClampNeg) = False := eq_false (ii_gi (by omega) (by omega) (by omega))
theorem at_n0 {k : Nat} (hk : k < 6) : (iI (4 + 4 * (k : Int))).toNatClampNeg = 4 + 4 * k := by rw [ii_nat (by omega) (by omega), tn_0]
theorem at_n1 {k : Nat} (hk : k < 6) : (iI (4 + 4 * (k : Int)) + 1).toNatClampNeg = 4 + 4 * k + 1 := by rw [ii_L1, ii_add, ii_nat (by omega) (by omega), tn_1]
theorem at_n2 {k : Nat} (hk : k < 6) : (iI (4 + 4 * (k : Int)) + 2).toNatClampNeg = 4 + 4 * k + 2 := by rw [ii_L2, ii_add, ii_nat (by omega) (by omega), tn_2]
theorem at_n3 {k : Nat} (hk : k < 6) : (iI (4 + 4 * (k : Int)) + 3).toNatClampNeg = 4 + 4 * k + 3 := by rw [ii_L3, ii_add, ii_nat (by omega) (by omega), tn_3]
theorem at_0x {k : Nat} (hk : k < 6) : (iI (4 + 4 * (k : Int)) < 0 ∨ 28 ≤ 4 + 4 * k) = False := by
  have := at_0 hk
  rwa [at_n0 hk] at this
theorem at_1x {k : Nat} (hk : k < 6) : (iI (4 + 4 * (k : Int)) + 1 < 0 ∨ 28 ≤ 4 + 4 * k + 1) = False := by
  have := at_1 hk
  rwa [at_n1 hk] at this
theorem at_2x {k : Nat} (hk : k < 6) : (iI (4 + 4 * (k : Int)) + 2 < 0 ∨ 28 ≤ 4 + 4 * k + 2) = False := by
  have := at_2 hk
  rwa [at_n2 hk] at this
theorem at_3x {k : Nat} (hk : k < 6) : (iI (4 + 4 * (k : Int)) + 3 < 0 ∨ 28 ≤ 4 + 4 * k + 3) = False := by
  have := at_3 hk
  rwa [at_n3 hk] at this
theorem ms_0 {mm : Nat → Int64} {a : AS} (g : MR mm a) {k : Nat} (hk : k < a_c a) (hc : a_c a ≤ 6) : mm ((iI (4 + 4 * (k : Int))).toNatClampNeg) = lI (a_I a k) := by rw [at_n0 (by omega)]; exact g.2.2.2.2.1 k hk
theorem ms_1 {mm : Nat → Int64} {a : AS} (g : MR mm a) {k : Nat} (hk : k < a_c a) (hc : a_c a ≤ 6) : mm ((iI (4 + 4 * (k : Int)) + 1).toNatClampNeg) = lI (a_V a k) := by rw [at_n1 (by omega)]; exact g.2.2.2.2.2.1 k hk
theorem ms_2 {mm : Nat → Int64} {a : AS} (g : MR mm a) {k : Nat} (hk : k < a_c a) (hc : a_c a ≤ 6) : mm ((iI (4 + 4 * (k : Int)) + 2).toNatClampNeg) = lI (a_S a k) := by rw [at_n2 (by omega)]; exact g.2.2.2.2.2.2.1 k hk
theorem ms_3 {mm : Nat → Int64} {a : AS} (g : MR mm a) {k : Nat} (hk : k < a_c a) (hc : a_c a ≤ 6) : mm ((iI (4 + 4 * (k : Int)) + 3).toNatClampNeg) = lI (a_M a k) := by rw [at_n3 (by omega)]; exact g.2.2.2.2.2.2.2 k hk
theorem cs_I {st : SS} {a : AS} (h : CR st a) {k : Nat} (hk : k < a_c a) (hc : a_c a ≤ 6) : s_ids st ((iI (k : Int)).toNatClampNeg) = iI (a_I a k) := by rw [ii_nc k (by omega)]; exact h.2.2.2.2.2.2.2.1 k hk
theorem cs_V {st : SS} {a : AS} (h : CR st a) {k : Nat} (hk : k < a_c a) (hc : a_c a ≤ 6) : s_vals st ((iI (k : Int)).toNatClampNeg) = lI (a_V a k) := by rw [ii_nc k (by omega)]; exact h.2.2.2.2.2.2.2.2.1 k hk
theorem cs_S {st : SS} {a : AS} (h : CR st a) {k : Nat} (hk : k < a_c a) (hc : a_c a ≤ 6) : s_scs st ((iI (k : Int)).toNatClampNeg) = iI (a_S a k) := by rw [ii_nc k (by omega)]; exact h.2.2.2.2.2.2.2.2.2.1 k hk
theorem cs_M {st : SS} {a : AS} (h : CR st a) {k : Nat} (hk : k < a_c a) (hc : a_c a ≤ 6) : s_mds st ((iI (k : Int)).toNatClampNeg) = iI (a_M a k) := by rw [ii_nc k (by omega)]; exact h.2.2.2.2.2.2.2.2.2.2.1 k hk
theorem f11_throw (t p : Int32) : F_X11_throwing t p = some (-1, p) := rfl
theorem f_find2 {fu : Nat} {st : SS} {mm : Nat → Int64} {a : AS} {p : Int} (h : CR st a) (g : MR mm a) (ha : a_c a ≤ 6) (hI : ∀ k, k < a_c a → 0 ≤ a_I a k ∧ a_I a k ≤ 1000000) (hp : r32 p) : ∀ (n k : Nat), k ≤ a_c a → a_c a < n + k →
    (∃ j, j < a_c a ∧ F_X10_requirePosition_2 fu n st (iI p) (iI (k : Int)) = some (.ok (iI (j : Int))) ∧ F_X11_find_2 fu n mm (iI p) (iI (k : Int)) = some (iI (j : Int)) ∧ a_I a j = p) ∨
    (F_X10_requirePosition_2 fu n st (iI p) (iI (k : Int)) = some (.error (3, ())) ∧ F_X11_find_2 fu n mm (iI p) (iI (k : Int)) = some (iI (-1))) := by
  obtain ⟨p1, p2⟩ := hp
  intro n
  induction n with
  | zero => intro k _ _; omega
  | succ n ih =>
    intro k hk hn
    unfold F_X10_requirePosition_2 F_X11_find_2
    rw [h.1, f11_many g, zb_some]
    by_cases hc : k = a_c a
    · right
      rw [if_pos (by rw [hc]; exact Int32.le_refl _), if_pos (by rw [hc]; exact Int32.le_refl _)]
      exact ⟨rfl, rfl⟩
    · have hlt : k < a_c a := by omega
      have hnle : ¬ iI (a_c a : Int) ≤ iI (k : Int) := by rw [ii_le (by omega) (by omega) (by omega) (by omega)]; omega
      have e1 : s_ids st ((iI (k : Int)).toNatClampNeg) = iI (a_I a k) := by rw [ii_nc k (by omega)]; exact h.2.2.2.2.2.2.2.1 k hlt
      have e2 : mm ((iI (4 + 4 * (k : Int))).toNatClampNeg) = lI (a_I a k) := by rw [ii_nat (by omega) (by omega), tn_0]; exact g.2.2.2.2.1 k hlt
      obtain ⟨i1, i2⟩ := hI k hlt
      rw [if_neg hnle, if_neg hnle, if_neg (ii_gd (by omega) (by omega)), f11_at, zb_some, if_neg (ii_gi (by omega) (by omega) (by omega)), e1, e2, ii_toL p1 p2, ti_eq (by omega) (by omega) (by omega) (by omega), tl_eq (by omega) (by omega) (by omega) (by omega)]
      by_cases he : a_I a k = p
      · left
        rw [if_pos he, if_pos he]
        exact ⟨k, hlt, rfl, rfl, he⟩
      · rw [if_neg he, if_neg he, zl_eq, zl_eq, ii_L1, ii_add, ii_nx]
        exact ih (k + 1) (by omega) (by omega)
theorem f_find {fu : Nat} (hf : 10 ≤ fu) {st : SS} {mm : Nat → Int64} {a : AS} {B p : Int} (h : CR st a) (g : MR mm a) (ho : OKA B a) (hp : r32 p) :
    (∃ j, j < a_c a ∧ F_X10_requirePosition fu st (iI p) = some (.ok (iI (j : Int))) ∧ F_X11_find fu mm (iI p) = some (iI (j : Int)) ∧ a_I a j = p) ∨
    (F_X10_requirePosition fu st (iI p) = some (.error (3, ())) ∧ F_X11_find fu mm (iI p) = some (iI (-1))) :=
  f_find2 h g ho.1 (fun k hk => by have := ho.2.2.2.2.2.2.1 k hk; have := ho.2.2.2.2.2.1; omega) hp fu 0 (by omega) (by have := ho.1; omega)
/-- one number takes its rounded sum -/
def bec (a : AS) (k : Nat) (s r : Int) : AS := (a_I a, up (a_V a) k (if r < 10000000000 then r else r - 10000000000), a_S a, a_M a, a_c a, a_n a, (if r < 10000000000 then a_e a else a_e a + 1), a_f a + (r - s), a_A a, a_F a, a_R a)
theorem up_C {α : Type} {f : Nat → α} {F : Int → α} {g : Nat → Int} {c j : Nat} {x : Int} (h : ∀ k, k < c → f k = F (g k)) : ∀ k, k < c → (if k = j then F x else f k) = F (up g j x k) := by
  intro k hk
  by_cases e : k = j
  · rw [if_pos e, e, up_s]
  · rw [if_neg e, up_n e]; exact h k hk
theorem up_CL {f : Nat → Int64} {g : Nat → Int} {c j : Nat} {x : Int} (h : ∀ k, k < c → f k = lI (g k)) : ∀ k, k < c → vp_updL f j (lI x) k = lI (up g j x k) := up_C h
theorem up_CI {f : Nat → Int32} {g : Nat → Int} {c j : Nat} {x : Int} (h : ∀ k, k < c → f k = iI (g k)) : ∀ k, k < c → upd f j (iI x) k = iI (up g j x k) := up_C h
theorem f8_become {st : SS} {a : AS} (h : CR st a) (hc : a_c a ≤ 6) {k : Nat} (hk : k < a_c a) {s r : Int} (hr : 0 ≤ r) (hr' : r < 4000000000000) : ∃ st', F_X8_become st (iI (k : Int)) (lI s) (lI r) = some st' ∧ CR st' (bec a k s r) := by
  obtain ⟨h1, h2, h3, h4, h5, h6, h7, h8, h9, h10, h11, h12⟩ := h
  unfold F_X8_become bec
  rw [if_neg (ii_gd (by omega) (by omega)), ii_nc k (by omega), h3, h4, ll_L10000000000, tl_lt (by omega) (by omega) (by omega) (by omega)]
  by_cases hw : r < 10000000000
  · rw [if_pos hw, if_pos hw, if_pos hw, ll_sub, ll_add]
    exact ⟨_, rfl, h1, h2, rfl, rfl, h5, h6, h7, h8, up_CL h9, h10, h11, h12⟩
  · rw [if_neg hw, if_neg hw, if_neg hw, if_neg (ii_gx (show k < 6 by omega)), ll_sub, ll_sub, ll_add, ii_L1, ii_add]
    refine ⟨_, rfl, h1, h2, rfl, rfl, h5, h6, h7, h8, ?_, h10, h11, h12⟩
    intro j hj
    show vp_updL (vp_updL (s_vals st) k (lI r)) k (lI (r - 10000000000)) j = lI (up (a_V a) k (r - 10000000000) j)
    by_cases e : j = k
    · rw [up_L, if_pos e, e, up_s]
    · rw [up_L, if_neg e, up_L, if_neg e, up_n e]; exact h9 j hj
theorem f8_becomeR {st : SS} {a : AS} (h : CR st a) (hc : a_c a ≤ 6) {k : Nat} (hk : k < a_c a) {s : Int} (hs : 0 ≤ s) (hs' : s < 400000000000) (hS : 0 ≤ a_S a k ∧ a_S a k ≤ 4) (hM : md (a_M a k)) : ∃ st', F_X8_becomeRounded st (iI (k : Int)) (lI s) = some (lI (a_V (bec a k s (rd s (a_S a k) (a_M a k))) k), st') ∧ CR st' (bec a k s (rd s (a_S a k) (a_M a k))) := by
  obtain ⟨b1, b2, b3⟩ := rd_bd (a_S a k) (a_M a k) hs
  obtain ⟨p1, p2⟩ := stp_bd (a_S a k)
  obtain ⟨st', e, h'⟩ := f8_become h hc hk (s := s) b1 (by omega)
  refine ⟨st', ?_, h'⟩
  unfold F_X8_becomeRounded
  rw [if_neg (ii_gd (by omega) (by omega)), if_neg (ii_gd (by omega) (by omega)), ii_nc k (by omega), h.2.2.2.2.2.2.2.2.2.1 k hk, h.2.2.2.2.2.2.2.2.2.2.1 k hk, f7_sum hM hS.1 hS.2 hs (by omega), zb_some, e, zb_some, if_neg (ii_gx (show k < 6 by omega)), h'.2.2.2.2.2.2.2.2.1 k hk]
/-- the reference's numbers put at their places -/
theorem MR_f {mm : Nat → Int64} {a : AS} (h : MR mm a) (x : Int) : MR (vp_updL mm 3 (lI x)) (a_I a, a_V a, a_S a, a_M a, a_c a, a_n a, a_e a, x, a_A a, a_F a, a_R a) := by
  obtain ⟨h1, h2, h3, h4, h5, h6, h7, h8⟩ := h
  refine ⟨?_, ?_, ?_, ?_, fun k hk => ?_, fun k hk => ?_, fun k hk => ?_, fun k hk => ?_⟩ <;> simp (disch := omega) only [up_L, if_pos, if_neg] <;> first | rfl | assumption | (exact h5 k hk) | (exact h6 k hk) | (exact h7 k hk) | (exact h8 k hk)
theorem MR_e {mm : Nat → Int64} {a : AS} (h : MR mm a) (x : Int) : MR (vp_updL mm 2 (lI x)) (a_I a, a_V a, a_S a, a_M a, a_c a, a_n a, x, a_f a, a_A a, a_F a, a_R a) := by
  obtain ⟨h1, h2, h3, h4, h5, h6, h7, h8⟩ := h
  refine ⟨?_, ?_, ?_, ?_, fun k hk => ?_, fun k hk => ?_, fun k hk => ?_, fun k hk => ?_⟩ <;> simp (disch := omega) only [up_L, if_pos, if_neg] <;> first | rfl | assumption | (exact h5 k hk) | (exact h6 k hk) | (exact h7 k hk) | (exact h8 k hk)
theorem MR_V {mm : Nat → Int64} {a : AS} (h : MR mm a) (j : Nat) (x : Int) : MR (vp_updL mm (4 + 4 * j + 1) (lI x)) (a_I a, up (a_V a) j x, a_S a, a_M a, a_c a, a_n a, a_e a, a_f a, a_A a, a_F a, a_R a) := by
  obtain ⟨h1, h2, h3, h4, h5, h6, h7, h8⟩ := h
  refine ⟨?_, ?_, ?_, ?_, fun k hk => ?_, fun k hk => ?_, fun k hk => ?_, fun k hk => ?_⟩
  · rw [up_L, if_neg (by omega)]; exact h1
  · rw [up_L, if_neg (by omega)]; exact h2
  · rw [up_L, if_neg (by omega)]; exact h3
  · rw [up_L, if_neg (by omega)]; exact h4
  · rw [up_L, if_neg (by omega)]; exact h5 k hk
  · by_cases e : k = j
    · rw [up_L, if_pos (by omega), e]; show lI x = lI (up (a_V a) j x j); rw [up_s]
    · rw [up_L, if_neg (by omega), h6 k hk]; show lI (a_V a k) = lI (up (a_V a) j x k); rw [up_n e]
  · rw [up_L, if_neg (by omega)]; exact h7 k hk
  · rw [up_L, if_neg (by omega)]; exact h8 k hk
theorem MR_S {mm : Nat → Int64} {a : AS} (h : MR mm a) (j : Nat) (x : Int) : MR (vp_updL mm (4 + 4 * j + 2) (lI x)) (a_I a, a_V a, up (a_S a) j x, a_M a, a_c a, a_n a, a_e a, a_f a, a_A a, a_F a, a_R a) := by
  obtain ⟨h1, h2, h3, h4, h5, h6, h7, h8⟩ := h
  refine ⟨?_, ?_, ?_, ?_, fun k hk => ?_, fun k hk => ?_, fun k hk => ?_, fun k hk => ?_⟩
  · rw [up_L, if_neg (by omega)]; exact h1
  · rw [up_L, if_neg (by omega)]; exact h2
  · rw [up_L, if_neg (by omega)]; exact h3
  · rw [up_L, if_neg (by omega)]; exact h4
  · rw [up_L, if_neg (by omega)]; exact h5 k hk
  · rw [up_L, if_neg (by omega)]; exact h6 k hk
  · by_cases e : k = j
    · rw [up_L, if_pos (by omega), e]; show lI x = lI (up (a_S a) j x j); rw [up_s]
    · rw [up_L, if_neg (by omega), h7 k hk]; show lI (a_S a k) = lI (up (a_S a) j x k); rw [up_n e]
  · rw [up_L, if_neg (by omega)]; exact h8 k hk
theorem MR_M {mm : Nat → Int64} {a : AS} (h : MR mm a) (j : Nat) (x : Int) : MR (vp_updL mm (4 + 4 * j + 3) (lI x)) (a_I a, a_V a, a_S a, up (a_M a) j x, a_c a, a_n a, a_e a, a_f a, a_A a, a_F a, a_R a) := by
  obtain ⟨h1, h2, h3, h4, h5, h6, h7, h8⟩ := h
  refine ⟨?_, ?_, ?_, ?_, fun k hk => ?_, fun k hk => ?_, fun k hk => ?_, fun k hk => ?_⟩
  · rw [up_L, if_neg (by omega)]; exact h1
  · rw [up_L, if_neg (by omega)]; exact h2
  · rw [up_L, if_neg (by omega)]; exact h3
  · rw [up_L, if_neg (by omega)]; exact h4
  · rw [up_L, if_neg (by omega)]; exact h5 k hk
  · rw [up_L, if_neg (by omega)]; exact h6 k hk
  · rw [up_L, if_neg (by omega)]; exact h7 k hk
  · by_cases e : k = j
    · rw [up_L, if_pos (by omega), e]; show lI x = lI (up (a_M a) j x j); rw [up_s]
    · rw [up_L, if_neg (by omega), h8 k hk]; show lI (a_M a k) = lI (up (a_M a) j x k); rw [up_n e]
theorem MR_bec {mm : Nat → Int64} {a : AS} (h : MR mm a) (k : Nat) (s r : Int) : MR (vp_updL (vp_updL (vp_updL mm 3 (lI (a_f a + (r - s)))) 2 (lI (if r < 10000000000 then a_e a else a_e a + 1))) (4 + 4 * k + 1) (lI (if r < 10000000000 then r else r - 10000000000))) (bec a k s r) :=
  MR_V (MR_e (MR_f h _) _) k _
theorem f11_becomes {fu : Nat} (hf : 6 ≤ fu) {mm : Nat → Int64} {a : AS} (h : MR mm a) (hc : a_c a ≤ 6) {k : Nat} (hk : k < a_c a) {s : Int} (hs : 0 ≤ s) (hs' : s < 400000000000) (hS : 0 ≤ a_S a k ∧ a_S a k ≤ 4) (hM : md (a_M a k)) : ∃ mm', F_X11_becomes fu mm (iI (k : Int)) (lI s) = some mm' ∧ MR mm' (bec a k s (rd s (a_S a k) (a_M a k))) := by
  obtain ⟨b1, b2, b3⟩ := rd_bd (a_S a k) (a_M a k) hs
  obtain ⟨p1, p2⟩ := stp_bd (a_S a k)
  obtain ⟨m1, m2⟩ := md_bd hM
  refine ⟨_, ?_, MR_bec h k s (rd s (a_S a k) (a_M a k))⟩
  have er := f11_round (fu := fu) hM hS.1 hS.2 hs (by omega) hf
  generalize rd s (a_S a k) (a_M a k) = r at *
  have t3 : Int32.toNatClampNeg 3 = 3 := by decide
  have t2 : Int32.toNatClampNeg 2 = 2 := by decide
  have g2 : ((2 : Int32) < 0 ∨ 28 ≤ 2) = False := by decide
  have e2 : vp_updL mm 3 (lI (a_f a + (r - s))) 2 = lI (a_e a) := h.2.2.1
  have d1 := ll_sub r s
  have d2 := ll_add (a_f a) (r - s)
  have d3 := ll_sub r 10000000000
  have d4 := ll_add (a_e a) 0
  have d5 := ll_add (a_e a) 1
  by_cases hw : r < 10000000000
  · have hl : lI r < 10000000000 := by rw [ll_L10000000000, ll_lt (by omega) (by omega) (by omega) (by omega)]; exact hw
    simp only [F_X11_becomes, F_X11_becomes_64, f11_at, zb_some, at_1 (show k < 6 by omega), at_2 (show k < 6 by omega), at_3 (show k < 6 by omega), if_false, ms_2 h hk hc, ms_3 h hk hc, ll_toI, er, if_pos hl, if_pos hw, t3, t2, h.2.2.2.1, d1, d2, g2, at_n1 (show k < 6 by omega), at_1x (show k < 6 by omega), e2, ll_L0, d4, zi_z]
  · have hl' : ¬ lI r < lI 10000000000 := by rw [ll_lt (by omega) (by omega) (by omega) (by omega)]; exact hw
    have hl : ¬ lI r < 10000000000 := by rw [ll_L10000000000, ll_lt (by omega) (by omega) (by omega) (by omega)]; exact hw
    simp only [F_X11_becomes, F_X11_becomes_64, f11_at, zb_some, at_1 (show k < 6 by omega), at_2 (show k < 6 by omega), at_3 (show k < 6 by omega), if_false, ms_2 h hk hc, ms_3 h hk hc, ll_toI, er, if_neg hl, if_neg hw, t3, t2, h.2.2.2.1, d1, d2, g2, at_n1 (show k < 6 by omega), at_1x (show k < 6 by omega), e2, ll_L1, d5, ll_L10000000000, if_neg hl', d3]
