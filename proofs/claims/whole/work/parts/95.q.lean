-- the queries about numbers
def QH {T : Type} (L : List (Nat × Int)) (x : Option (Except (Nat × Unit) T)) (y : Option (T × Int32)) : Prop :=
  (∃ r, x = some (.ok r) ∧ y = some (r, iI 0)) ∨ ∃ e k q, (e, k) ∈ L ∧ x = some (.error (e, ())) ∧ y = some (q, iI k)
def QW {T W : Type} (L : List (Nat × Int)) (x : Option (Except (Nat × Unit) T)) (y : Option (T × Int32 × W)) : Prop :=
  (∃ r w, x = some (.ok r) ∧ y = some (r, iI 0, w)) ∨ ∃ e k q w, (e, k) ∈ L ∧ x = some (.error (e, ())) ∧ y = some (q, iI k, w)
theorem q_numAt {fu : Nat} (hf : 30 ≤ fu) {st : SS} {mm : Nat → Int64} {a : AS} {B : Int} (h : CR st a) (g : MR mm a) (ho : OKA B a) (t : Int32) {p : Int} (hp : r32 p) : QH [(4, 1)] (F_X10_numberAt st (iI p)) (F_X11_numberAt mm t (iI p)) := by
  have hc := ho.1
  have a1 := hp.1; have a2 := hp.2
  have hin : F_X11_in (Int32.toInt64 (iI p)) 0 (Int32.toInt64 (iI (a_c a : Int) - 1)) = some (iI (if 0 ≤ p ∧ p ≤ (a_c a : Int) - 1 then 1 else 0)) := by
    rw [ii_L1, ii_sub, ii_toL a1 a2, ii_toL (by omega) (by omega), ll_L0, f_in (by omega) (by omega) (by omega) (by omega) (by omega) (by omega)]
  have ht0 : (iI p < 0) = (p < 0) := by rw [ii_L0, ii_lt (by omega) (by omega) (by omega) (by omega)]
  have htc : (iI p < iI (a_c a : Int)) = (p < a_c a) := by rw [ii_lt (by omega) (by omega) (by omega) (by omega)]
  unfold F_X10_numberAt F_X11_numberAt
  rw [f11_many g, zb_some, hin, zb_some]
  by_cases e : 0 ≤ p ∧ p < a_c a
  · obtain ⟨k, rfl⟩ : ∃ k : Nat, p = k := ⟨p.toNat, by omega⟩
    have hk : k < a_c a := by omega
    refine Or.inl ⟨iI (a_I a k), ?_, ?_⟩
    · rw [if_neg (by rw [ht0]; omega), h.1, if_pos (by rw [htc]; omega), if_neg (ii_gd (by omega) (by omega)), cs_I h hk hc]
    · rw [if_pos (show 0 ≤ (k : Int) ∧ (k : Int) ≤ (a_c a : Int) - 1 by omega), if_neg (by decide), f11_at, zb_some, if_neg (of_eq_false (at_0 (show k < 6 by omega))), ms_0 g hk hc, ll_toI]; rfl
  · refine Or.inr ⟨4, 1, -1, by simp, ?_, ?_⟩
    · by_cases e0 : p < 0
      · rw [if_pos (by rw [ht0]; exact e0)]
      · rw [if_neg (by rw [ht0]; exact e0), h.1, if_neg (by rw [htc]; omega)]
    · rw [if_neg (show ¬ (0 ≤ p ∧ p ≤ (a_c a : Int) - 1) by omega), if_pos (by decide)]; rfl
theorem of_1 {fu : Nat} {mm : Nat → Int64} {a : AS} {p : Int} {t : Int32} (g : MR mm a) (hc : a_c a ≤ 6) {j : Nat} (hj : j < a_c a) (e2 : F_X11_find fu mm (iI p) = some (iI (j : Int))) : F_X11_ofNumber fu mm t (iI p) 1 = some (lI (a_V a j), 0) := by
  unfold F_X11_ofNumber
  rw [e2, zb_some, if_neg (of_eq_false (ik_m (show j < 1000 by omega))), zb_some, f11_at, zb_some, if_neg (of_eq_false (at_1 (show j < 6 by omega))), ms_1 g hj hc]
theorem of_2 {fu : Nat} {mm : Nat → Int64} {a : AS} {p : Int} {t : Int32} (g : MR mm a) (hc : a_c a ≤ 6) {j : Nat} (hj : j < a_c a) (e2 : F_X11_find fu mm (iI p) = some (iI (j : Int))) : F_X11_ofNumber fu mm t (iI p) 2 = some (lI (a_S a j), 0) := by
  unfold F_X11_ofNumber
  rw [e2, zb_some, if_neg (of_eq_false (ik_m (show j < 1000 by omega))), zb_some, f11_at, zb_some, if_neg (of_eq_false (at_2 (show j < 6 by omega))), ms_2 g hj hc]
theorem of_3 {fu : Nat} {mm : Nat → Int64} {a : AS} {p : Int} {t : Int32} (g : MR mm a) (hc : a_c a ≤ 6) {j : Nat} (hj : j < a_c a) (e2 : F_X11_find fu mm (iI p) = some (iI (j : Int))) : F_X11_ofNumber fu mm t (iI p) 3 = some (lI (a_M a j), 0) := by
  unfold F_X11_ofNumber
  rw [e2, zb_some, if_neg (of_eq_false (ik_m (show j < 1000 by omega))), zb_some, f11_at, zb_some, if_neg (of_eq_false (at_3 (show j < 6 by omega))), ms_3 g hj hc]
theorem of_n {fu : Nat} {mm : Nat → Int64} {p : Int} {t w : Int32} (e2 : F_X11_find fu mm (iI p) = some (iI (-1))) : F_X11_ofNumber fu mm t (iI p) w = some (Int32.toInt64 (-1), 1) := by
  unfold F_X11_ofNumber
  rw [e2, zb_some, if_pos (by decide), f11_throw, zb_some]
theorem q_value {fu : Nat} (hf : 30 ≤ fu) {st : SS} {mm : Nat → Int64} {a : AS} {B : Int} (h : CR st a) (g : MR mm a) (ho : OKA B a) (t : Int32) {p : Int} (hp : r32 p) : QH [(3, 1)] (F_X10_value fu st (iI p)) (F_X11_value fu mm t (iI p)) := by
  have hc := ho.1
  unfold F_X10_value F_X11_value
  rcases f_find (fu := fu) (by omega) h g ho hp with ⟨j, hj, e1, e2, _⟩ | ⟨e1, e2⟩
  · rw [e1, zb_some, zc_ok, if_neg (ii_gd (by omega) (by omega)), cs_V h hj hc, of_1 g hc hj e2, zb_some]
    exact Or.inl ⟨_, rfl, rfl⟩
  · rw [e1, zb_some, zc_err, of_n e2, zb_some]
    exact Or.inr ⟨3, 1, _, by simp, rfl, rfl⟩
theorem q_scale {fu : Nat} (hf : 30 ≤ fu) {st : SS} {mm : Nat → Int64} {a : AS} {B : Int} (h : CR st a) (g : MR mm a) (ho : OKA B a) (t : Int32) {p : Int} (hp : r32 p) : QH [(3, 1)] (F_X10_scale fu st (iI p)) (F_X11_scale fu mm t (iI p)) := by
  have hc := ho.1
  unfold F_X10_scale F_X11_scale
  rcases f_find (fu := fu) (by omega) h g ho hp with ⟨j, hj, e1, e2, _⟩ | ⟨e1, e2⟩
  · rw [e1, zb_some, zc_ok, if_neg (ii_gd (by omega) (by omega)), cs_S h hj hc, of_2 g hc hj e2, zb_some, ll_toI]
    exact Or.inl ⟨_, rfl, rfl⟩
  · rw [e1, zb_some, zc_err, of_n e2, zb_some]
    exact Or.inr ⟨3, 1, _, by simp, rfl, rfl⟩
theorem q_mode {fu : Nat} (hf : 30 ≤ fu) {st : SS} {mm : Nat → Int64} {a : AS} {B : Int} (h : CR st a) (g : MR mm a) (ho : OKA B a) (t : Int32) {p : Int} (hp : r32 p) : QH [(3, 1)] (F_X10_mode fu st (iI p)) (F_X11_mode fu mm t (iI p)) := by
  have hc := ho.1
  unfold F_X10_mode F_X11_mode
  rcases f_find (fu := fu) (by omega) h g ho hp with ⟨j, hj, e1, e2, _⟩ | ⟨e1, e2⟩
  · have hm := md_bd (ho.2.2.2.2.2.2.2.2.2.1 j hj)
    have hf' := ch_fit hm.1 hm.2
    rw [e1, zb_some, zc_ok, if_neg (ii_gd (by omega) (by omega)), cs_M h hj hc, if_neg (fun n => n hf'), of_3 g hc hj e2, zb_some, ll_toI]
    show QH _ _ (if ¬ (0 ≤ zchar (iI (a_M a j)) ∧ zchar (iI (a_M a j)) ≤ 65535) then none else some (zchar (iI (a_M a j)), 0))
    rw [zc_id hm.1 hm.2, if_neg (fun n => n hf')]
    exact Or.inl ⟨_, rfl, rfl⟩
  · rw [e1, zb_some, zc_err, of_n e2, zb_some]
    show QH _ _ (if ¬ (0 ≤ zchar (Int64.toInt32 (Int32.toInt64 (-1))) ∧ zchar (Int64.toInt32 (Int32.toInt64 (-1))) ≤ 65535) then none else some (zchar (Int64.toInt32 (Int32.toInt64 (-1))), 1))
    rw [if_neg (by decide)]
    exact Or.inr ⟨3, 1, _, by simp, rfl, rfl⟩
theorem q_digit {fu : Nat} (hf : 30 ≤ fu) {st : SS} {mm : Nat → Int64} {a : AS} {B : Int} (h : CR st a) (g : MR mm a) (ho : OKA B a) (t : Int32) {p w : Int} (hp : r32 p) (hw : r32 w) : QH [(3, 1), (4, 2)] (F_X10_digit fu st (iI p) (iI w)) (F_X11_digit fu mm t (iI p) (iI w)) := by
  have hc := ho.1
  have a1 := hw.1; have a2 := hw.2
  unfold F_X10_digit F_X11_digit
  rcases f_find (fu := fu) (by omega) h g ho hp with ⟨j, hj, e1, e2, _⟩ | ⟨e1, e2⟩
  · have hv := ho.2.2.2.2.2.2.2.1 j hj
    have hin : F_X11_in (Int32.toInt64 (iI w)) (-4) 5 = some (iI (if -4 ≤ w ∧ w ≤ 5 then 1 else 0)) := by
      rw [ii_toL a1 a2, ll_L4, ll_neg, ll_L5, f_in (by omega) (by omega) (by omega) (by omega) (by omega) (by omega)]
    have t1 : (iI w < -4) = (w < -4) := by rw [ii_L4, ii_neg, ii_lt (by omega) (by omega) (by omega) (by omega)]
    have t2 : (iI w < 6) = (w < 6) := by rw [ii_L6, ii_lt (by omega) (by omega) (by omega) (by omega)]
    rw [e1, zb_some, zc_ok, of_1 g hc hj e2, zb_some]
    by_cases hr : -4 ≤ w ∧ w ≤ 5
    · obtain ⟨k, rfl⟩ : ∃ k : Nat, w = (k : Int) - 4 := ⟨(w + 4).toNat, by omega⟩
      refine Or.inl ⟨iI (dv k (a_V a j) % 10), ?_, ?_⟩
      · rw [if_neg (by rw [t1]; omega), if_pos (by rw [t2]; omega), if_neg (ii_gd (by omega) (by omega)), cs_V h hj hc, ii_L4, ii_add, show (k : Int) - 4 + 4 = k from by omega, f10_dig hv.1 (by omega) (by omega) (by omega), zb_some]
      · show (if (0 : Int32) ≤ 0 then _ else _) = _
        rw [if_pos (by decide), hin, zb_some, if_pos hr, if_neg (by decide)]
        show zbind (F_X11_digitAt fu (lI (a_V a j)) (iI ((k : Int) - 4))) _ = _
        rw [f11_dig hv.1 (by omega) (by omega) (by omega), zb_some]; rfl
    · refine Or.inr ⟨4, 2, -1, by simp, ?_, ?_⟩
      · by_cases h4 : w < -4
        · rw [if_pos (by rw [t1]; exact h4)]
        · rw [if_neg (by rw [t1]; exact h4), if_neg (by rw [t2]; omega)]
      · show (if (0 : Int32) ≤ 0 then _ else _) = _
        rw [if_pos (by decide), hin, zb_some, if_neg hr, if_pos (by decide)]; rfl
  · rw [e1, zb_some, zc_err, of_n e2, zb_some]
    exact Or.inr ⟨3, 1, _, by simp, rfl, rfl⟩
/-- the sum of the first digits -/
def dsum (n : Nat) (v : Int) : Int := sm n (fun i => dv i v % 10)
theorem dsum_bd (n : Nat) (v : Int) : 0 ≤ dsum n v ∧ dsum n v ≤ n * 9 := sm_bd (fun k _ => by show 0 ≤ dv k v % 10 ∧ dv k v % 10 ≤ 9; omega)
theorem f10_dsum4 {fu : Nat} {v : Int} (h0 : 0 ≤ v) (h1 : v < 4000000000000000000) (hf : 30 ≤ fu) : ∀ (n i : Nat), i ≤ 11 → 11 < n + i → F_X10_sumOfDigits_4 fu n (lI v) (iI (dsum i v)) (iI (i : Int)) = some (iI (dsum 11 v)) := by
  intro n
  induction n with
  | zero => intro i _ _; omega
  | succ n ih =>
    intro i hi hn
    unfold F_X10_sumOfDigits_4
    rw [ii_L10, ti_lt (by omega) (by omega) (by omega) (by omega)]
    by_cases e : (10 : Int) < (i : Int)
    · rw [if_pos e, show i = 11 from by omega]
    · rw [if_neg e, f10_dig h0 h1 (by omega) (by omega), zb_some, zl_eq, zl_eq, ii_add, ii_L1, ii_add, ii_nx]
      exact ih (i + 1) (by omega) (by omega)
theorem f10_dsum {fu : Nat} {v : Int} (h0 : 0 ≤ v) (h1 : v < 4000000000000000000) (hf : 30 ≤ fu) : F_X10_sumOfDigits fu (lI v) = some (iI (dsum 11 v)) := f10_dsum4 h0 h1 hf fu 0 (by omega) (by omega)
theorem dv_10 {v : Int} (h0 : 0 ≤ v) (h1 : v < 10000000000) : dv 10 v = 0 := by
  show v / 10 / 10 / 10 / 10 / 10 / 10 / 10 / 10 / 10 / 10 = 0
  omega
theorem dsum_11 {v : Int} (h0 : 0 ≤ v) (h1 : v < 10000000000) : dsum 11 v = dsum 10 v := by
  show dsum 10 v + dv 10 v % 10 = dsum 10 v
  rw [dv_10 h0 h1]; omega
theorem f11_dsum25 {fu : Nat} {mm : Nat → Int64} {v : Int} (h0 : 0 ≤ v) (h1 : v < 4000000000000000000) (hf : 30 ≤ fu) : ∀ (n i : Nat), i ≤ 10 → 10 < n + i → F_X11_digitSum_25 fu n mm 0 (lI v) (iI (dsum i v)) (iI ((i : Int) - 4)) = some (iI (dsum 10 v), 0) := by
  intro n
  induction n with
  | zero => intro i _ _; omega
  | succ n ih =>
    intro i hi hn
    unfold F_X11_digitSum_25
    rw [ii_L5, ti_lt (by omega) (by omega) (by omega) (by omega)]
    by_cases e : (5 : Int) < (i : Int) - 4
    · rw [if_pos e, show i = 10 from by omega]
    · rw [if_neg e, if_pos rfl, f11_dig h0 h1 (by omega) (by omega), zb_some, zl_eq, zl_eq, ii_add, ii_L1, ii_add, show (i : Int) - 4 + 1 = ((i + 1 : Nat) : Int) - 4 from by omega]
      exact ih (i + 1) (by omega) (by omega)
theorem q_dsum {fu : Nat} (hf : 30 ≤ fu) {st : SS} {mm : Nat → Int64} {a : AS} {B : Int} (h : CR st a) (g : MR mm a) (ho : OKA B a) (t : Int32) {p : Int} (hp : r32 p) : QH [(3, 1)] (F_X10_digitSum fu st (iI p)) (F_X11_digitSum fu mm t (iI p)) := by
  have hc := ho.1
  unfold F_X10_digitSum F_X11_digitSum
  rcases f_find (fu := fu) (by omega) h g ho hp with ⟨j, hj, e1, e2, _⟩ | ⟨e1, e2⟩
  · have hv := ho.2.2.2.2.2.2.2.1 j hj
    have := f11_dsum25 (fu := fu) (mm := mm) hv.1 (by omega) hf fu 0 (by omega) (by omega)
    rw [e1, zb_some, zc_ok, if_neg (ii_gd (by omega) (by omega)), cs_V h hj hc, f10_dsum hv.1 (by omega) hf, zb_some, dsum_11 hv.1 hv.2, of_1 g hc hj e2, zb_some]
    refine Or.inl ⟨_, rfl, ?_⟩
    exact this
  · rw [e1, zb_some, zc_err, of_n e2, zb_some]
    refine Or.inr ⟨3, 1, -1, by simp, rfl, ?_⟩
    obtain ⟨n, rfl⟩ : ∃ n, fu = n + 1 := ⟨fu - 1, by omega⟩
    show F_X11_digitSum_25 (n + 1) (n + 1) mm 1 (Int32.toInt64 (-1)) (-1) (-4) = _
    unfold F_X11_digitSum_25
    rw [if_neg (by decide), if_neg (by decide)]
    rfl
/-- who is ranked ahead -/
def ah (a : AS) (i j : Nat) : Prop := a_V a j < a_V a i ∨ (a_V a i = a_V a j ∧ (a_S a j < a_S a i ∨ (a_S a i = a_S a j ∧ i < j)))
theorem f8_ahead {st : SS} {a : AS} {B : Int} (h : CR st a) (ho : OKA B a) {i j : Nat} (hi : i < a_c a) (hj : j < a_c a) : (F_X8_isAhead st (iI (i : Int)) (iI (j : Int)) = some 1 ∧ ah a i j) ∨ (F_X8_isAhead st (iI (i : Int)) (iI (j : Int)) = some 0 ∧ ¬ ah a i j) := by
  have hc := ho.1
  have v1 := ho.2.2.2.2.2.2.2.1 i hi
  have v2 := ho.2.2.2.2.2.2.2.1 j hj
  have s1 := ho.2.2.2.2.2.2.2.2.1 i hi
  have s2 := ho.2.2.2.2.2.2.2.2.1 j hj
  unfold F_X8_isAhead ah
  rw [if_neg (ii_gd (by omega) (by omega)), if_neg (ii_gd (by omega) (by omega)), cs_V h hi hc, cs_V h hj hc, tl_eq (by omega) (by omega) (by omega) (by omega), if_neg (ii_gd (by omega) (by omega)), if_neg (ii_gd (by omega) (by omega)), cs_S h hi hc, cs_S h hj hc, ti_eq (by omega) (by omega) (by omega) (by omega), ti_le (by omega) (by omega) (by omega) (by omega), if_neg (ii_gd (by omega) (by omega)), if_neg (ii_gd (by omega) (by omega)), ti_le (by omega) (by omega) (by omega) (by omega), if_neg (ii_gd (by omega) (by omega)), if_neg (ii_gd (by omega) (by omega)), tl_lt (by omega) (by omega) (by omega) (by omega)]
  repeat' split
  all_goals first | exact Or.inl ⟨rfl, by omega⟩ | exact Or.inr ⟨rfl, by omega⟩
theorem f11_ahead {mm : Nat → Int64} {a : AS} {B : Int} (g : MR mm a) (ho : OKA B a) {i j : Nat} (hi : i < a_c a) (hj : j < a_c a) : (F_X11_isAhead mm (iI (i : Int)) (iI (j : Int)) = some 1 ∧ ah a i j) ∨ (F_X11_isAhead mm (iI (i : Int)) (iI (j : Int)) = some 0 ∧ ¬ ah a i j) := by
  have hc := ho.1
  have v1 := ho.2.2.2.2.2.2.2.1 i hi
  have v2 := ho.2.2.2.2.2.2.2.1 j hj
  have s1 := ho.2.2.2.2.2.2.2.2.1 i hi
  have s2 := ho.2.2.2.2.2.2.2.2.1 j hj
  unfold F_X11_isAhead F_X11_isAhead_57 ah
  rw [f11_at, zb_some, if_neg (of_eq_false (at_1 (show i < 6 by omega))), f11_at, zb_some, if_neg (of_eq_false (at_1 (show j < 6 by omega))), zl_eq, zb_some, if_neg (of_eq_false (at_2 (show i < 6 by omega))), zb_some, if_neg (of_eq_false (at_2 (show j < 6 by omega))), ms_1 g hi hc, ms_1 g hj hc, ms_2 g hi hc, ms_2 g hj hc, ll_sub, ll_sub, ll_L0, tl_eq (by omega) (by omega) (by omega) (by omega), tl_lt (by omega) (by omega) (by omega) (by omega), tl_eq (by omega) (by omega) (by omega) (by omega), ti_le (by omega) (by omega) (by omega) (by omega), tl_lt (by omega) (by omega) (by omega) (by omega)]
  simp (disch := omega) only [tl_eq, ti_le, tl_lt]
  repeat' split
  all_goals first | exact Or.inl ⟨rfl, by omega⟩ | exact Or.inr ⟨rfl, by omega⟩
noncomputable def rk (a : AS) (k n : Nat) : Int := sm n (fun i => @ite Int (ah a i k) (Classical.propDecidable _) 1 0)
theorem rk_y {a : AS} {k n : Nat} (h : ah a n k) : rk a k (n + 1) = rk a k n + 1 := by
  show rk a k n + @ite Int (ah a n k) (Classical.propDecidable _) 1 0 = _
  rw [if_pos h]
theorem rk_n {a : AS} {k n : Nat} (h : ¬ ah a n k) : rk a k (n + 1) = rk a k n := by
  show rk a k n + @ite Int (ah a n k) (Classical.propDecidable _) 1 0 = _
  rw [if_neg h]; omega
theorem rk_bd (a : AS) (k : Nat) : ∀ n : Nat, 0 ≤ rk a k n ∧ rk a k n ≤ n := by
  intro n
  induction n with
  | zero => exact ⟨Int.le_refl _, Int.le_refl _⟩
  | succ n ih =>
    by_cases h : ah a n k
    · rw [rk_y h]; omega
    · rw [rk_n h]; omega
theorem f8_rank4 {fu : Nat} {st : SS} {a : AS} {B : Int} (h : CR st a) (ho : OKA B a) {k : Nat} (hk : k < a_c a) : ∀ (n i : Nat), i ≤ a_c a → a_c a < n + i → F_X8_rankOf_4 fu n st (iI (k : Int)) (iI (rk a k i)) (iI (i : Int)) = some (iI (rk a k (a_c a))) := by
  have hc := ho.1
  intro n
  induction n with
  | zero => intro i _ _; omega
  | succ n ih =>
    intro i hi hn
    unfold F_X8_rankOf_4
    rw [h.1, ti_le (by omega) (by omega) (by omega) (by omega)]
    by_cases e : (a_c a : Int) ≤ (i : Int)
    · rw [if_pos e, show i = a_c a from by omega]
    · rw [if_neg e]
      rcases f8_ahead h ho (show i < a_c a by omega) hk with ⟨e1, e2⟩ | ⟨e1, e2⟩
      · rw [e1, zb_some, if_neg (by decide), zl_eq, zl_eq, ii_L1, ii_add, ← rk_y e2, ii_add, ii_nx]
        exact ih (i + 1) (by omega) (by omega)
      · rw [e1, zb_some, if_pos rfl, zl_eq, ii_L1, ii_add, ii_nx, ← rk_n e2]
        exact ih (i + 1) (by omega) (by omega)
theorem f10_rank2 {fu : Nat} (hf : 30 ≤ fu) {st : SS} {mm : Nat → Int64} {a : AS} {B : Int} (h : CR st a) (g : MR mm a) (ho : OKA B a) {p : Int} (hp : r32 p) : ∀ (n k : Nat), k ≤ a_c a → a_c a < n + k →
    QH [(4, 1)] (F_X10_numberAtRank_2 fu n st (iI p) (iI (k : Int))) (F_X11_numberAtRank_7 fu n mm 0 (iI p) (iI (k : Int))) := by
  have hc := ho.1
  have a1 := hp.1; have a2 := hp.2
  intro n
  induction n with
  | zero => intro k _ _; omega
  | succ n ih =>
    intro k hk hn
    unfold F_X10_numberAtRank_2 F_X11_numberAtRank_7
    rw [h.1, f11_many g, zb_some, ti_le (by omega) (by omega) (by omega) (by omega)]
    by_cases e : (a_c a : Int) ≤ (k : Int)
    · rw [if_pos e, ti_le (by omega) (by omega) (by omega) (by omega), if_pos e, f11_throw, zb_some]
      exact Or.inr ⟨4, 1, _, by simp, rfl, rfl⟩
    · have hlt : k < a_c a := by omega
      have hr := rk_bd a k (a_c a)
      have e1 : F_X8_rankOf fu st (iI (k : Int)) = some (iI (rk a k (a_c a))) := f8_rank4 (fu := fu) h ho hlt fu 0 (by omega) (by omega)
      -- the reference's inner loop
      have key : ∀ (K : (Nat → Int64) → Int32 → Int32 → Int32 → Option (Int32 × Int32)) (m i : Nat), i ≤ a_c a → a_c a < m + i → F_X11_numberAtRank_20 K fu m mm 0 (iI p) (iI (k : Int)) (iI (rk a k i)) (iI (i : Int)) = if rk a k (a_c a) = p then some (iI (a_I a k), 0) else K mm 0 (iI p) (iI ((k + 1 : Nat) : Int)) := by
        intro K m
        induction m with
        | zero => intro i _ _; omega
        | succ m ihm =>
          intro i hi hm
          have hri := rk_bd a k i
          unfold F_X11_numberAtRank_20
          rw [f11_many g, zb_some, ti_le (by omega) (by omega) (by omega) (by omega)]
          by_cases e : (a_c a : Int) ≤ (i : Int)
          · obtain rfl : i = a_c a := by omega
            rw [if_pos e, ti_eq (by omega) (by omega) (by omega) (by omega), f11_at, zb_some, if_neg (of_eq_false (at_0 (show k < 6 by omega))), ms_0 g hlt hc, ll_toI, zl_eq, ii_L1, ii_add, ii_nx]
          · rw [if_neg e]
            rcases f11_ahead g ho (show i < a_c a by omega) hlt with ⟨e1, e2⟩ | ⟨e1, e2⟩
            · rw [e1, zb_some, if_neg (by decide), zl_eq, zl_eq, ii_L1, ii_add, ← rk_y e2, ii_add, ii_nx]
              exact ihm (i + 1) (by omega) (by omega)
            · rw [e1, zb_some, if_pos rfl, zl_eq, zl_eq, ii_L0, ii_add, zi_z, ii_L1, ii_add, ii_nx, ← rk_n e2]
              exact ihm (i + 1) (by omega) (by omega)
      have e2 : F_X11_numberAtRank_20 (F_X11_numberAtRank_7 fu n) fu fu mm 0 (iI p) (iI (k : Int)) 0 0 = if rk a k (a_c a) = p then some (iI (a_I a k), 0) else F_X11_numberAtRank_7 fu n mm 0 (iI p) (iI ((k + 1 : Nat) : Int)) := key (F_X11_numberAtRank_7 fu n) fu 0 (by omega) (by omega)
      rw [if_neg e, ti_le (by omega) (by omega) (by omega) (by omega), if_neg e, e1, zb_some, e2, ti_eq (by omega) (by omega) (by omega) (by omega)]
      by_cases hz : rk a k (a_c a) = p
      · rw [if_pos hz, if_pos hz, if_neg (ii_gd (by omega) (by omega)), cs_I h hlt hc]
        exact Or.inl ⟨_, rfl, rfl⟩
      · rw [if_neg hz, if_neg hz, zl_eq, ii_L1, ii_add, ii_nx]
        exact ih (k + 1) (by omega) (by omega)
theorem q_rank {fu : Nat} (hf : 30 ≤ fu) {st : SS} {mm : Nat → Int64} {a : AS} {B : Int} (h : CR st a) (g : MR mm a) (ho : OKA B a) (t : Int32) {p : Int} (hp : r32 p) : QH [(4, 1)] (F_X10_numberAtRank fu st (iI p)) (F_X11_numberAtRank fu mm t (iI p)) :=
  f10_rank2 (fu := fu) hf h g ho hp fu 0 (by omega) (by have := ho.1; omega)
theorem q_rounded {fu : Nat} (hf : 30 ≤ fu) {st : SS} {mm : Nat → Int64} {a : AS} {B : Int} (h : CR st a) (g : MR mm a) (ho : OKA B a) (t : Int32) {p s m : Int} (hp : r32 p) (hs : r32 s) (hm : 0 ≤ m ∧ m ≤ 65535) : QH [(3, 1), (0, 2)] (F_X10_rounded fu st (iI p) (iI s) (iI m)) (F_X11_rounded fu mm t (iI p) (iI s) (iI m)) := by
  have hm' : r32 m := ⟨by omega, by omega⟩
  have hc := ho.1
  unfold F_X10_rounded F_X11_rounded
  rcases f_find (fu := fu) (by omega) h g ho hp with ⟨j, hj, e1, e2, _⟩ | ⟨e1, e2⟩
  · have hv := ho.2.2.2.2.2.2.2.1 j hj
    rw [e1, zb_some, zc_ok, of_1 g hc hj e2, zb_some]
    have m0 : ∀ {X Y : Option (Int64 × Int32)}, (if ((lI (a_V a j), (0 : Int32)) : Int64 × Int32).2 ≤ 0 then X else Y) = X := fun {X Y} => if_pos (show (0 : Int32) ≤ 0 by decide)
    rw [m0]
    by_cases hS : scl s
    · rw [f10_scl hs hS, f11_scl hs hS, zb_some, zc_ok, zb_some, if_neg (of_eq_false i1_0)]
      by_cases hM : md m
      · rw [f10_mdY hM (by omega), f11_mdY hM, zb_some, zc_ok, zb_some, if_neg (of_eq_false i1_0), if_neg (ii_gd (by omega) (by omega)), cs_V h hj hc, f7_sum hM hS.1 hS.2 hv.1 (by omega), zb_some]
        rw [f11_round hM hS.1 hS.2 hv.1 (by omega) (by omega), zb_some]
        exact Or.inl ⟨_, rfl, rfl⟩
      · rw [f10_mdN hm' hM (by omega), f11_mdN hm' hM, zb_some, zc_err, zb_some, if_pos (of_eq_true i0_0), f11_throw, zb_some]
        exact Or.inr ⟨0, 2, _, by simp, rfl, rfl⟩
    · rw [f10_sclN hs hS, f11_sclN hs hS, zb_some, zc_err, zb_some, if_pos (of_eq_true i0_0), f11_throw, zb_some]
      exact Or.inr ⟨0, 2, _, by simp, rfl, rfl⟩
  · rw [e1, zb_some, zc_err, of_n e2, zb_some]
    exact Or.inr ⟨3, 1, _, by simp, rfl, rfl⟩
theorem q_part {fu : Nat} (hf : 30 ≤ fu) {st : SS} {mm : Nat → Int64} {a : AS} {B : Int} (h : CR st a) (g : MR mm a) (ho : OKA B a) (t : Int32) {p n i : Int} (hp : r32 p) (hn : r32 n) (hi : r32 i) : QH [(3, 1), (0, 2), (4, 3)] (F_X10_part fu st (iI p) (iI n) (iI i)) (F_X11_part fu mm t (iI p) (iI n) (iI i)) := by
  have hc := ho.1
  have n1 := hn.1; have n2 := hn.2; have i1 := hi.1; have i2 := hi.2
  unfold F_X10_part F_X11_part
  rcases f_find (fu := fu) (by omega) h g ho hp with ⟨j, hj, e1, e2, _⟩ | ⟨e1, e2⟩
  · have hv := ho.2.2.2.2.2.2.2.1 j hj
    have hS := ho.2.2.2.2.2.2.2.2.1 j hj
    have hst := stp_bd (a_S a j)
    have hin : F_X11_in (Int32.toInt64 (iI n)) 1 9 = some (iI (if 1 ≤ n ∧ n ≤ 9 then 1 else 0)) := by
      rw [ii_toL n1 n2, ll_L1, ll_L9, f_in (by omega) (by omega) (by omega) (by omega) (by omega) (by omega)]
    have t1 : (iI n < 1) = (n < 1) := by rw [ii_L1, ii_lt (by omega) (by omega) (by omega) (by omega)]
    have t2 : (iI n ≤ 9) = (n ≤ 9) := by rw [ii_L9, ii_le (by omega) (by omega) (by omega) (by omega)]
    have t3 : (iI i < 0) = (i < 0) := by rw [ii_L0, ii_lt (by omega) (by omega) (by omega) (by omega)]
    have t4 : (iI i < iI n) = (i < n) := by rw [ii_lt (by omega) (by omega) (by omega) (by omega)]
    rw [e1, zb_some, zc_ok, of_1 g hc hj e2, zb_some]
    have m0 : ∀ {X Y : Option (Int64 × Int32)}, (if ((lI (a_V a j), (0 : Int32)) : Int64 × Int32).2 ≤ 0 then X else Y) = X := fun {X Y} => if_pos (show (0 : Int32) ≤ 0 by decide)
    rw [m0]
    by_cases hr : 1 ≤ n ∧ n ≤ 9
    · have hin2 : F_X11_in (Int32.toInt64 (iI i)) 0 (Int32.toInt64 (iI n - 1)) = some (iI (if 0 ≤ i ∧ i ≤ n - 1 then 1 else 0)) := by
        rw [ii_L1, ii_sub, ii_toL i1 i2, ii_toL (by omega) (by omega), ll_L0, f_in (by omega) (by omega) (by omega) (by omega) (by omega) (by omega)]
      by_cases hr2 : 0 ≤ i ∧ i ≤ n - 1
      · have q1 : 0 ≤ a_V a j / stp (a_S a j) := Int.ediv_nonneg hv.1 (by omega)
        have q2 : a_V a j / stp (a_S a j) ≤ a_V a j := Int.ediv_le_self _ hv.1
        have q3 : 0 ≤ a_V a j / stp (a_S a j) % n := Int.emod_nonneg _ (by omega)
        have q4 : a_V a j / stp (a_S a j) % n < n := Int.emod_lt_of_pos _ (by omega)
        have hnz : ¬ lI n = 0 := by rw [ll_L0, ll_eq (by omega) (by omega) (by omega) (by omega)]; omega
        have ed := ll_div (a := a_V a j) (b := stp (a_S a j)) hv.1 (by omega) (by omega) (by omega)
        have ed2 := ll_div (a := a_V a j / stp (a_S a j)) (b := n) q1 (by omega) (by omega) (by omega)
        have em : lI (a_V a j / stp (a_S a j)) - lI (a_V a j / stp (a_S a j) / n) * lI n = lI (a_V a j / stp (a_S a j) % n) := by rw [ll_mul, ll_sub, md_eq]
        have en : Int32.toInt64 (iI n) = lI n := ii_toL n1 n2
        have ei : Int32.toInt64 (iI i) = lI i := ii_toL i1 i2
        have e1' : Int32.toInt64 1 = lI 1 := by decide
        have e0' : Int32.toInt64 0 = lI 0 := by decide
        have tl : (lI i < lI (a_V a j / stp (a_S a j) % n)) = (i < a_V a j / stp (a_S a j) % n) := ll_lt (by omega) (by omega) (by omega) (by omega)
        refine Or.inl ⟨lI ((a_V a j / stp (a_S a j) / n + (if i < a_V a j / stp (a_S a j) % n then 1 else 0)) * stp (a_S a j)), ?_, ?_⟩
        · rw [if_neg (by rw [t1]; omega), if_pos (by rw [t2]; omega), if_neg (by rw [t3]; omega), if_pos (by rw [t4]; omega), if_neg (ii_gd (by omega) (by omega)), cs_S h hj hc, f7_step hS.1 hS.2, zb_some, if_neg (ii_gd (by omega) (by omega)), if_neg (of_eq_false (stp_nz _)), zl_eq, cs_V h hj hc, ed, en, if_neg hnz, zl_eq, if_neg hnz, ed2, em, ei, e1', e0', ll_add, ll_add, ll_mul, ll_mul]
          by_cases hlt : i < a_V a j / stp (a_S a j) % n
          · rw [if_pos (by rw [tl]; exact hlt), if_pos hlt]
          · rw [if_neg (by rw [tl]; exact hlt), if_neg hlt]
        · rw [hin, zb_some, if_pos hr, if_neg (by decide), hin2, zb_some, if_pos hr2, if_neg (by decide), e2, zb_some, f11_at, zb_some, if_neg (of_eq_false (at_2 (show j < 6 by omega))), ms_2 g hj hc, ll_toI, f11_step hS.1 hS.2 (by omega), zb_some, if_neg (of_eq_false (stp_nz _)), zl_eq, en, if_neg hnz, if_neg hnz]
          show (if Int32.toInt64 (iI i) < lI (a_V a j) / lI (stp (a_S a j)) - lI (a_V a j) / lI (stp (a_S a j)) / lI n * lI n then some (lI (stp (a_S a j)) * (lI (a_V a j) / lI (stp (a_S a j)) / lI n + Int32.toInt64 1), (0 : Int32)) else some (lI (stp (a_S a j)) * (lI (a_V a j) / lI (stp (a_S a j)) / lI n + Int32.toInt64 0), (0 : Int32))) = _
          rw [ed, ed2, em, ei, e1', e0', ll_add, ll_add, ll_mul, ll_mul]
          by_cases hlt : i < a_V a j / stp (a_S a j) % n
          · rw [if_pos (by rw [tl]; exact hlt), if_pos hlt, Int.mul_comm]; rfl
          · rw [if_neg (by rw [tl]; exact hlt), if_neg hlt, Int.mul_comm]; rfl
      · refine Or.inr ⟨4, 3, Int32.toInt64 (-1), by simp, ?_, ?_⟩
        · rw [if_neg (by rw [t1]; omega), if_pos (by rw [t2]; omega)]
          by_cases h4 : i < 0
          · rw [if_pos (by rw [t3]; exact h4)]
          · rw [if_neg (by rw [t3]; exact h4), if_neg (by rw [t4]; omega)]
        · rw [hin, zb_some, if_pos hr, if_neg (by decide), hin2, zb_some, if_neg hr2, if_pos (by decide)]; rfl
    · refine Or.inr ⟨0, 2, Int32.toInt64 (-1), by simp, ?_, ?_⟩
      · by_cases h4 : n < 1
        · rw [if_pos (by rw [t1]; exact h4)]
        · rw [if_neg (by rw [t1]; exact h4), if_neg (by rw [t2]; omega)]
      · rw [hin, zb_some, if_neg hr, if_pos (by decide)]; rfl
  · rw [e1, zb_some, zc_err, of_n e2, zb_some]
    exact Or.inr ⟨3, 1, _, by simp, rfl, rfl⟩
/-- rounding together asked -/
theorem f11_terr30 {fu : Nat} (hf : 30 ≤ fu) {mm : Nat → Int64} {a : AS} {B s : Int} {mUp : Nat → Int32} {u : Nat → Bool} (g : MR mm a) (ho : OKA B a) (hs : 0 ≤ s) (hs' : s ≤ 4) (hU : UR mUp u (a_c a)) : ∀ (n k : Nat), k ≤ a_c a → a_c a < n + k → F_X11_togetherError_30 fu n mm 0 mUp (iI s) (lI (er (rs a s) (stp s) u k)) (iI (k : Int)) = some (lI (er (rs a s) (stp s) u (a_c a)), 0, mUp) := by
  have hc := ho.1
  intro n
  induction n with
  | zero => intro k _ _; omega
  | succ n ih =>
    intro k hk hn
    unfold F_X11_togetherError_30
    rw [f11_many g, zb_some, ti_le (by omega) (by omega) (by omega) (by omega)]
    by_cases e : (a_c a : Int) ≤ (k : Int)
    · rw [if_pos e, show k = a_c a from by omega]
    · have hlt : k < a_c a := by omega
      rw [if_neg e, if_neg (ii_gd (by omega) (by omega)), ii_nc k (by omega), hU k hlt, tb_0, f11_rest (by omega) g ho hlt hs hs', zb_some, f11_step hs hs' (by omega), zb_some, zb_some, zl_eq, zl_eq, zl_eq, zl_eq, ll_sub, ll_add, ll_add, ii_L1, ii_add, ii_nx]
      have e2 : er (rs a s) (stp s) u (k + 1) = er (rs a s) (stp s) u k + (if u k = true then stp s - rs a s k else rs a s k) := rfl
      cases huk : u k with
      | true =>
        rw [if_neg (by decide)]
        rw [huk, if_pos rfl] at e2
        rw [← e2]
        exact ih (k + 1) (by omega) (by omega)
      | false =>
        rw [if_pos rfl]
        rw [huk, if_neg (by decide)] at e2
        rw [← e2]
        exact ih (k + 1) (by omega) (by omega)
theorem f11_terr {fu : Nat} (hf : 30 ≤ fu) {st : SS} {mm : Nat → Int64} {a : AS} {B : Int} (h : CR st a) (g : MR mm a) (ho : OKA B a) (t : Int32) (mUp : Nat → Int32) {s : Int} (hs : r32 s) : (scl s → ∃ w, F_X11_togetherError fu mm t mUp (iI s) = some (lI (bst a s), 0, w)) ∧ (¬ scl s → ∃ q w, F_X11_togetherError fu mm t mUp (iI s) = some (q, 1, w)) := by
  refine ⟨fun hS => ?_, fun hS => ?_⟩
  · obtain ⟨mUp', e1, hU⟩ := f11_chooses (fu := fu) (by omega) g ho hS.1 hS.2 mUp
    have := f11_terr30 hf g ho hS.1 hS.2 hU fu 0 (by omega) (by have := ho.1; omega)
    unfold F_X11_togetherError
    rw [f11_scl hs hS, zb_some, if_neg (by decide), e1, zb_some]
    exact ⟨mUp', this⟩
  · unfold F_X11_togetherError
    rw [f11_sclN hs hS, zb_some, if_pos (by decide), f11_throw, zb_some]
    exact ⟨_, mUp, rfl⟩
theorem q_terr {fu : Nat} (hf : 30 ≤ fu) {st : SS} {mm : Nat → Int64} {a : AS} {B : Int} (h : CR st a) (g : MR mm a) (ho : OKA B a) (t : Int32) (mUp : Nat → Int32) {s : Int} (hs : r32 s) : QW [(0, 1)] (F_X10_togetherError fu st (iI s)) (F_X11_togetherError fu mm t mUp (iI s)) := by
  have hT := f11_terr hf h g ho t mUp hs
  unfold F_X10_togetherError
  by_cases hS : scl s
  · obtain ⟨w, e⟩ := hT.1 hS
    rw [f10_scl hs hS, zb_some, zc_ok, f9_best (by omega) h ho hS.1 hS.2, zb_some, f9_err (by omega) h ho hS.1 hS.2, zb_some, e]
    exact Or.inl ⟨_, w, rfl, rfl⟩
  · obtain ⟨q, w, e⟩ := hT.2 hS
    rw [f10_sclN hs hS, zb_some, zc_err, e]
    exact Or.inr ⟨0, 1, q, w, by simp, rfl, rfl⟩
theorem q_tset {fu : Nat} (hf : 30 ≤ fu) {st : SS} {mm : Nat → Int64} {a : AS} {B : Int} (h : CR st a) (g : MR mm a) (ho : OKA B a) (t : Int32) (hf2 : 100 ≤ fu) (mUp : Nat → Int32) {s : Int} (hs : r32 s) : QW [(0, 1)] (F_X10_togetherErrorBySets fu st (iI s)) (F_X11_togetherErrorBySets fu mm t mUp (iI s)) := by
  have hT := f11_terr hf h g ho t mUp hs
  unfold F_X10_togetherErrorBySets F_X11_togetherErrorBySets
  by_cases hS : scl s
  · obtain ⟨w, e⟩ := hT.1 hS
    rw [f10_scl hs hS, zb_some, zc_ok, f9_least hf2 h ho hS.1 hS.2, zb_some, e, zb_some]
    exact Or.inl ⟨_, w, rfl, rfl⟩
  · obtain ⟨q, w, e⟩ := hT.2 hS
    rw [f10_sclN hs hS, zb_some, zc_err, e, zb_some]
    exact Or.inr ⟨0, 1, q, w, by simp, rfl, rfl⟩
theorem q_goes {fu : Nat} (hf : 30 ≤ fu) {st : SS} {mm : Nat → Int64} {a : AS} {B : Int} (h : CR st a) (g : MR mm a) (ho : OKA B a) (t : Int32) (mUp : Nat → Int32) {p s : Int} (hp : r32 p) (hs : r32 s) : QW [(3, 1), (0, 2)] (F_X10_goesUp fu st (iI p) (iI s)) (F_X11_goesUp fu mm t mUp (iI p) (iI s)) := by
  have hc := ho.1
  unfold F_X10_goesUp F_X11_goesUp
  rcases f_find (fu := fu) (by omega) h g ho hp with ⟨j, hj, e1, e2, _⟩ | ⟨e1, e2⟩
  · rw [e1, zb_some, zc_ok, e2, zb_some, if_neg (of_eq_false (ik_m (show j < 1000 by omega)))]
    by_cases hS : scl s
    · obtain ⟨mUp', e3, hU⟩ := f11_chooses (fu := fu) (by omega) g ho hS.1 hS.2 mUp
      rw [f10_scl hs hS, f11_scl hs hS, zb_some, zc_ok, zb_some, if_neg (by decide), f9_best (by omega) h ho hS.1 hS.2, zb_some, f9_isUp _ (show j < 6 by omega), zb_some, e3, zb_some]
      show QW _ _ (F_X11_goesUp_45 fu mm 0 mUp' (iI p))
      unfold F_X11_goesUp_45
      rw [if_pos rfl, e2, zb_some, if_neg (ii_gd (by omega) (by omega)), ii_nc j (by omega), hU j hj, tb_0]
      cases gs (rs a s) (a_c a) (due a s).toNat j with
      | true =>
        rw [if_neg (by decide), if_neg (by decide)]
        exact Or.inl ⟨_, mUp', rfl, rfl⟩
      | false =>
        rw [if_neg (by decide), if_pos rfl]
        exact Or.inl ⟨_, mUp', rfl, rfl⟩
    · rw [f10_sclN hs hS, f11_sclN hs hS, zb_some, zc_err, zb_some, if_pos (by decide), f11_throw, zb_some]
      exact Or.inr ⟨0, 2, _, mUp, by simp, rfl, rfl⟩
  · rw [e1, zb_some, zc_err, e2, zb_some, if_pos (by decide), f11_throw, zb_some]
    exact Or.inr ⟨3, 1, _, mUp, by simp, rfl, rfl⟩
