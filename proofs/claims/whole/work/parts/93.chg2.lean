-- the eight changes
theorem stp_nz (s : Int) : (lI (stp s) = 0) = False := by
  have := stp_bd s
  rw [ll_L0, ll_eq (by omega) (by omega) (by omega) (by omega)]
  exact eq_false (by omega)
/-- a rest is zero, or not, on both sides -/
theorem ll_mod {v s : Int} (h : 0 ≤ v) (h' : v < 4000000000000000000) : lI v - lI v / lI (stp s) * lI (stp s) = lI (v % stp s) := by
  have := stp_bd s
  rw [ll_div h (by omega) (by omega) (by omega), ll_mul, ll_sub, md_eq]
theorem ll_is0 {v s : Int} : (lI (v % stp s) = 0) = (v % stp s = 0) := by
  have := stp_bd s
  have h3 : 0 ≤ v % stp s := Int.emod_nonneg v (by omega)
  have h4 : v % stp s < stp s := Int.emod_lt_of_pos v (by omega)
  rw [ll_L0, ll_eq (by omega) (by omega) (by omega) (by omega)]
theorem ll_pos {v s : Int} : ((0 : Int64) < lI (v % stp s)) = ¬ (v % stp s = 0) := by
  have := stp_bd s
  have h3 : 0 ≤ v % stp s := Int.emod_nonneg v (by omega)
  have h4 : v % stp s < stp s := Int.emod_lt_of_pos v (by omega)
  rw [ll_L0, ll_lt (by omega) (by omega) (by omega) (by omega)]
  exact propext ⟨fun _ => by omega, fun _ => by omega⟩
theorem ie_6 {c : Nat} (h : c ≤ 6) : (iI (c : Int) = 6) = (c = 6) := by
  rw [ii_L6, ii_eq (by omega) (by omega) (by omega) (by omega)]
  exact propext ⟨fun _ => by omega, fun _ => by omega⟩
theorem f10_room {st : SS} {a : AS} (h : CR st a) (hc : a_c a ≤ 6) : F_X10_requireRoom st = if a_c a = 6 then some (.error (1, ())) else some (.ok ()) := by
  unfold F_X10_requireRoom
  rw [h.1, ii_L6, ti_lt (by omega) (by omega) (by omega) (by omega)]
  by_cases e : a_c a = 6
  · rw [if_neg (by omega), if_pos e]
  · rw [if_pos (by omega), if_neg e]
theorem v_top {v s : Int} (h0 : 0 ≤ v) (h1 : v < 10000000000) (hd : v % stp s = 0) : v + stp s ≤ 10000000000 := by
  have hst := stp_bd s
  have q := (stp_dv s).1
  have e := Int.emod_def 10000000000 (stp s)
  have e' := Int.emod_def v (stp s)
  have : v / stp s < 10000000000 / stp s := by
    apply Classical.byContradiction
    intro hn
    have := Int.mul_le_mul_of_nonneg_left (show 10000000000 / stp s ≤ v / stp s by omega) (show 0 ≤ stp s by omega)
    omega
  have := Int.mul_le_mul_of_nonneg_left (show v / stp s + 1 ≤ 10000000000 / stp s by omega) (show 0 ≤ stp s by omega)
  rw [Int.mul_add, Int.mul_one] at this
  omega
theorem oka_feed {B : Int} {a : AS} (ho : OKA B a) (hB : B + 10 ≤ 1000000) {j : Nat} (hj : j < a_c a) {x : Int} (hx : 0 ≤ x) (hx' : x < 10000000000) : OKA (B + 10) (bec (a_I a, a_V a, a_S a, a_M a, a_c a, a_n a, a_e a, a_f a, a_A a, a_F a + x, a_R a) j (a_V a j + x) (rd (a_V a j + x) (a_S a j) (a_M a j))) := by
  obtain ⟨o1, o2, o3, o4, o5, o6, o7, o8, o9, o10, o11, o12⟩ := ho
  have hv := o8 j hj
  have hb := rd_bd (a_S a j) (a_M a j) (show 0 ≤ a_V a j + x by omega)
  have ht := v_top hv.1 hv.2 (o11 j hj)
  have e : sm (a_c a) (a_V a) + (a_V a j + x - a_V a j) = a_A a + (a_F a + x) + a_f a - a_R a - 10000000000 * a_e a := by omega
  have := oka_bec (B := B) (a := (a_I a, a_V a, a_S a, a_M a, a_c a, a_n a, a_e a, a_f a, a_A a, a_F a + x, a_R a)) (k := j) (s := a_V a j + x) (r := rd (a_V a j + x) (a_S a j) (a_M a j)) hj o1 o2 o3 o4 o5 (by omega) o7 (fun i hi _ => o8 i hi) o9 o10 (fun i hi _ => o11 i hi) e hb.1 (by omega) (rd_md _ _ _)
  exact this.mono (by omega) hB
theorem oka_trd {B : Int} {a : AS} (ho : OKA B a) (hB : B + 10 ≤ 1000000) {j k : Nat} (hj : j < a_c a) (hk : k < a_c a) (hjk : j ≠ k) {x : Int} (hx : 0 ≤ x) (hx' : x ≤ a_V a j) (hz : x % stp (a_S a j) = 0) : OKA (B + 10) (bec (a_I a, up (a_V a) j (a_V a j - x), a_S a, a_M a, a_c a, a_n a, a_e a, a_f a, a_A a, a_F a, a_R a) k (a_V a k + x) (rd (a_V a k + x) (a_S a k) (a_M a k))) := by
  obtain ⟨o1, o2, o3, o4, o5, o6, o7, o8, o9, o10, o11, o12⟩ := ho
  have hv := o8 j hj
  have hv' := o8 k hk
  have hb := rd_bd (a_S a k) (a_M a k) (show 0 ≤ a_V a k + x by omega)
  have ht := v_top hv'.1 hv'.2 (o11 k hk)
  have ev : up (a_V a) j (a_V a j - x) k = a_V a k := up_n (by omega)
  have e : sm (a_c a) (up (a_V a) j (a_V a j - x)) + (a_V a k + x - up (a_V a) j (a_V a j - x) k) = a_A a + a_F a + a_f a - a_R a - 10000000000 * a_e a := by
    rw [ev, sm_up hj]; omega
  have q8 : ∀ i, i < a_c a → i ≠ k → 0 ≤ up (a_V a) j (a_V a j - x) i ∧ up (a_V a) j (a_V a j - x) i < 10000000000 := by
    intro i hi _
    by_cases e : i = j
    · rw [e, up_s]; omega
    · rw [up_n e]; exact o8 i hi
  have q11 : ∀ i, i < a_c a → i ≠ k → up (a_V a) j (a_V a j - x) i % stp (a_S a i) = 0 := by
    intro i hi _
    by_cases e : i = j
    · rw [e, up_s]
      exact Int.emod_eq_zero_of_dvd (Int.dvd_sub (Int.dvd_of_emod_eq_zero (o11 j hj)) (Int.dvd_of_emod_eq_zero hz))
    · rw [up_n e]; exact o11 i hi
  have := oka_bec (B := B) (a := (a_I a, up (a_V a) j (a_V a j - x), a_S a, a_M a, a_c a, a_n a, a_e a, a_f a, a_A a, a_F a, a_R a)) (k := k) (s := a_V a k + x) (r := rd (a_V a k + x) (a_S a k) (a_M a k)) hk o1 o2 o3 o4 o5 (by omega) o7 q8 o9 o10 q11 e hb.1 (by omega) (rd_md _ _ _)
  exact this.mono (by omega) hB
theorem oka_scl {B : Int} {a : AS} (ho : OKA B a) (hB : B + 10 ≤ 1000000) {j : Nat} (hj : j < a_c a) {s : Int} (hs : scl s) : OKA (B + 10) (bec (a_I a, a_V a, up (a_S a) j s, a_M a, a_c a, a_n a, a_e a, a_f a, a_A a, a_F a, a_R a) j (a_V a j) (rd (a_V a j) s (a_M a j))) := by
  obtain ⟨o1, o2, o3, o4, o5, o6, o7, o8, o9, o10, o11, o12⟩ := ho
  have hv := o8 j hj
  have hst := stp_bd s
  have hb := rd_bd s (a_M a j) hv.1
  have es : up (a_S a) j s j = s := up_s _ _ _
  have q9 : ∀ i, i < a_c a → 0 ≤ up (a_S a) j s i ∧ up (a_S a) j s i ≤ 4 := by
    intro i hi
    by_cases e : i = j
    · rw [e, up_s]; exact hs
    · rw [up_n e]; exact o9 i hi
  have q11 : ∀ i, i < a_c a → i ≠ j → a_V a i % stp (up (a_S a) j s i) = 0 := by
    intro i hi hne
    rw [up_n hne]; exact o11 i hi
  have e : sm (a_c a) (a_V a) + (a_V a j - a_V a j) = a_A a + a_F a + a_f a - a_R a - 10000000000 * a_e a := by omega
  have := oka_bec (B := B) (a := (a_I a, a_V a, up (a_S a) j s, a_M a, a_c a, a_n a, a_e a, a_f a, a_A a, a_F a, a_R a)) (k := j) (s := a_V a j) (r := rd (a_V a j) s (a_M a j)) hj o1 o2 o3 o4 o5 (by omega) o7 (fun i hi _ => o8 i hi) q9 o10 q11 e hb.1 (by omega) (by show rd (a_V a j) s (a_M a j) % stp (up (a_S a) j s j) = 0; rw [es]; exact rd_md _ _ _)
  exact this.mono (by omega) hB
theorem c_add {fu : Nat} (hf : 30 ≤ fu) {st : SS} {mm : Nat → Int64} {a : AS} {B : Int} (h : CR st a) (g : MR mm a) (ho : OKA B a) (hB : B + 10 ≤ 1000000) (t : Int32) {w f s m : Int} (hw : r32 w) (hr : r32 f) (hs : r32 s) (hm : 0 ≤ m ∧ m ≤ 65535) : CH [(0, 1), (1, 2), (2, 3)] B st mm t (F_X10_enterNumber fu st (iI w) (iI f) (iI s) (iI m)) (F_X11_addIt fu mm t (iI w) (iI f) (iI s) (iI m)) := by
  have hm' : r32 m := ⟨by omega, by omega⟩
  have hc := ho.1
  unfold F_X10_enterNumber F_X11_addIt
  by_cases hA : amt w f
  · simp only [zb_some, zc_ok, zc_err, zl_eq, f11_throw, i1_0, i0_0, im_m, if_true, if_false, not_true_eq_false, not_false_eq_true, f10_amt hw hr hA, f11_amtY hw hr hA]
    by_cases hS : scl s
    · simp only [zb_some, zc_ok, zc_err, zl_eq, f11_throw, i1_0, i0_0, im_m, if_true, if_false, not_true_eq_false, not_false_eq_true, f10_scl hs hS, f11_scl hs hS]
      by_cases hM : md m
      · simp only [zb_some, zc_ok, zc_err, zl_eq, f11_throw, i1_0, i0_0, im_m, if_true, if_false, not_true_eq_false, not_false_eq_true, f10_mdY hM (show 10 ≤ fu by omega), f11_mdY hM, f11_many g, f10_room h hc, ie_6 hc]
        by_cases h6 : a_c a = 6
        · simp only [zb_some, zc_ok, zc_err, zl_eq, f11_throw, i1_0, i0_0, im_m, if_true, if_false, not_true_eq_false, not_false_eq_true, if_pos h6]
          exact Or.inl ⟨1, 2, _, by simp, rfl, rfl⟩
        · obtain ⟨A1, A2, A3, A4⟩ := hA
          have hv : 0 ≤ 10000 * w + f ∧ 10000 * w + f < 10000000000 := by omega
          simp only [zb_some, zc_ok, zc_err, zl_eq, f11_throw, i1_0, i0_0, im_m, if_true, if_false, not_true_eq_false, not_false_eq_true, if_neg h6, f10_uni hw hr, f11_uni hw hr, f7_step hS.1 hS.2, f11_step hS.1 hS.2 (show 6 ≤ fu by omega), stp_nz, ll_mod hv.1 (show 10000 * w + f < 4000000000000000000 by omega), ll_is0, ll_pos]
          by_cases hd : (10000 * w + f) % stp s = 0
          · obtain ⟨st', e1, c1⟩ := f8_enter h (show a_c a < 6 by omega) (v := 10000 * w + f) (s := s) hm
            obtain ⟨mm', e2, c2⟩ := f11_takesIn g (show a_c a < 6 by omega) (v := 10000 * w + f) hs hm'
            simp only [zb_some, zc_ok, zc_err, zl_eq, f11_throw, i1_0, i0_0, im_m, if_true, if_false, not_true_eq_false, not_false_eq_true, if_pos hd, hd, e1, e2]
            exact Or.inr ⟨_, st', mm', _, rfl, rfl, c1, c2, oka_ent ho hB (by omega) hv hS hM hd⟩
          · simp only [zb_some, zc_ok, zc_err, zl_eq, f11_throw, i1_0, i0_0, im_m, if_true, if_false, not_true_eq_false, not_false_eq_true, if_neg hd, if_pos hd]
            exact Or.inl ⟨2, 3, _, by simp, rfl, rfl⟩
      · simp only [zb_some, zc_ok, zc_err, zl_eq, f11_throw, i1_0, i0_0, im_m, if_true, if_false, not_true_eq_false, not_false_eq_true, f10_mdN hm' hM (show 10 ≤ fu by omega), f11_mdN hm' hM]
        exact Or.inl ⟨0, 1, _, by simp, rfl, rfl⟩
    · simp only [zb_some, zc_ok, zc_err, zl_eq, f11_throw, i1_0, i0_0, im_m, if_true, if_false, not_true_eq_false, not_false_eq_true, f10_sclN hs hS, f11_sclN hs hS]
      exact Or.inl ⟨0, 1, _, by simp, rfl, rfl⟩
  · simp only [zb_some, zc_ok, zc_err, zl_eq, f11_throw, i1_0, i0_0, im_m, if_true, if_false, not_true_eq_false, not_false_eq_true, f10_amtN hw hr hA, f11_amtN hw hr hA]
    exact Or.inl ⟨0, 1, _, by simp, rfl, rfl⟩
theorem c_over {fu : Nat} (hf : 30 ≤ fu) {st : SS} {mm : Nat → Int64} {a : AS} {B : Int} (h : CR st a) (g : MR mm a) (ho : OKA B a) (hB : B + 10 ≤ 1000000) (t : Int32) {x y s m : Int} (hx : r32 x) (hy : r32 y) (hs : r32 s) (hm : 0 ≤ m ∧ m ≤ 65535) : CH [(0, 1), (1, 2)] B st mm t (F_X10_enterQuotient fu st (iI x) (iI y) (iI s) (iI m)) (F_X11_overIt fu mm t (iI x) (iI y) (iI s) (iI m)) := by
  have hm' : r32 m := ⟨by omega, by omega⟩
  have hc := ho.1
  have i1 : F_X11_in (Int32.toInt64 (iI x)) 0 9999 = some (iI (if 0 ≤ x ∧ x ≤ 9999 then 1 else 0)) := by
    rw [ii_toL hx.1 hx.2, ll_L0, ll_L9999, f_in (by have := hx.1; omega) (by have := hx.2; omega) (by omega) (by omega) (by omega) (by omega)]
  have i2 : F_X11_in (Int32.toInt64 (iI y)) 1 999 = some (iI (if 1 ≤ y ∧ y ≤ 999 then 1 else 0)) := by
    rw [ii_toL hy.1 hy.2, ll_L1, ll_L999, f_in (by have := hy.1; omega) (by have := hy.2; omega) (by omega) (by omega) (by omega) (by omega)]
  unfold F_X10_enterQuotient F_X11_overIt
  by_cases hQ : quo x y
  · obtain ⟨Q1, Q2, Q3, Q4⟩ := hQ
    simp only [zb_some, zc_ok, zc_err, zl_eq, f11_throw, i1_0, i0_0, im_m, if_true, if_false, not_true_eq_false, not_false_eq_true, f10_quo hx hy ⟨Q1, Q2, Q3, Q4⟩, i1, i2, if_pos (show 0 ≤ x ∧ x ≤ 9999 from ⟨Q1, Q2⟩), if_pos (show 1 ≤ y ∧ y ≤ 999 from ⟨Q3, Q4⟩)]
    by_cases hS : scl s
    · simp only [zb_some, zc_ok, zc_err, zl_eq, f11_throw, i1_0, i0_0, im_m, if_true, if_false, not_true_eq_false, not_false_eq_true, f10_scl hs hS, f11_scl hs hS]
      by_cases hM : md m
      · simp only [zb_some, zc_ok, zc_err, zl_eq, f11_throw, i1_0, i0_0, im_m, if_true, if_false, not_true_eq_false, not_false_eq_true, f10_mdY hM (show 10 ≤ fu by omega), f11_mdY hM, f11_many g, f10_room h hc, ie_6 hc]
        by_cases h6 : a_c a = 6
        · simp only [zb_some, zc_ok, zc_err, zl_eq, f11_throw, i1_0, i0_0, im_m, if_true, if_false, not_true_eq_false, not_false_eq_true, if_pos h6]
          exact Or.inl ⟨1, 2, _, by simp, rfl, rfl⟩
        · obtain ⟨p1, p2⟩ := stp_bd s
          have hp : stp s ≤ y * stp s := by have := Int.mul_le_mul_of_nonneg_right Q3 (show 0 ≤ stp s by omega); omega
          have hp' : y * stp s ≤ 999 * stp s := Int.mul_le_mul_of_nonneg_right Q4 (by omega)
          have hb := rq_bd s m Q1 Q2 Q3
          have em : lI 10000 * lI x = lI (10000 * x) := ll_mul _ _
          have ey : lI y * lI (stp s) = lI (y * stp s) := ll_mul _ _
          have et := f11_times (v := 10000 * x) (p := y * stp s) hM (by omega) (by omega) (by omega) (by omega)
          have er : lI (stp s) * lI (10000 * x / (y * stp s) + gu (10000 * x / (y * stp s)) (10000 * x % (y * stp s)) (y * stp s) m) = lI (rq x y s m) := by
            rw [ll_mul, Int.mul_comm]; rfl
          have hd : rq x y s m % stp s = 0 := Int.mul_emod_left _ _
          obtain ⟨st', e1, c1⟩ := f8_enter h (show a_c a < 6 by omega) (v := rq x y s m) (s := s) hm
          obtain ⟨mm', e2, c2⟩ := f11_takesIn g (show a_c a < 6 by omega) (v := rq x y s m) hs hm'
          simp only [zb_some, zc_ok, zc_err, zl_eq, f11_throw, i1_0, i0_0, im_m, if_true, if_false, not_true_eq_false, not_false_eq_true, if_neg h6, f7_quo hM hS.1 hS.2 Q1 Q2 Q3 Q4, f11_step hS.1 hS.2 (show 6 ≤ fu by omega), ii_toL hx.1 hx.2, ii_toL hy.1 hy.2, ll_L10000, em, ey, et, er, e1, e2]
          exact Or.inr ⟨_, st', mm', _, rfl, rfl, c1, c2, oka_ent ho hB (by omega) hb hS hM hd⟩
      · simp only [zb_some, zc_ok, zc_err, zl_eq, f11_throw, i1_0, i0_0, im_m, if_true, if_false, not_true_eq_false, not_false_eq_true, f10_mdN hm' hM (show 10 ≤ fu by omega), f11_mdN hm' hM]
        exact Or.inl ⟨0, 1, _, by simp, rfl, rfl⟩
    · simp only [zb_some, zc_ok, zc_err, zl_eq, f11_throw, i1_0, i0_0, im_m, if_true, if_false, not_true_eq_false, not_false_eq_true, f10_sclN hs hS, f11_sclN hs hS]
      exact Or.inl ⟨0, 1, _, by simp, rfl, rfl⟩
  · simp only [zb_some, zc_ok, zc_err, zl_eq, f11_throw, i1_0, i0_0, im_m, if_true, if_false, not_true_eq_false, not_false_eq_true, f10_quoN hx hy hQ, i1, i2]
    by_cases hq : 0 ≤ x ∧ x ≤ 9999
    · by_cases hq' : 1 ≤ y ∧ y ≤ 999
      · exact absurd ⟨hq.1, hq.2, hq'.1, hq'.2⟩ hQ
      · simp only [zb_some, zc_ok, zc_err, zl_eq, f11_throw, i1_0, i0_0, im_m, if_true, if_false, not_true_eq_false, not_false_eq_true, if_pos hq, if_neg hq']
        exact Or.inl ⟨0, 1, _, by simp, rfl, rfl⟩
    · simp only [zb_some, zc_ok, zc_err, zl_eq, f11_throw, i1_0, i0_0, im_m, if_true, if_false, not_true_eq_false, not_false_eq_true, if_neg hq]
      exact Or.inl ⟨0, 1, _, by simp, rfl, rfl⟩
theorem c_free {fu : Nat} (hf : 30 ≤ fu) {st : SS} {mm : Nat → Int64} {a : AS} {B : Int} (h : CR st a) (g : MR mm a) (ho : OKA B a) (hB : B + 10 ≤ 1000000) (t : Int32) {p : Int} (hp : r32 p) : CH [(3, 1)] B st mm t (F_X10_releaseNumber fu st (iI p)) (F_X11_freeIt fu mm t (iI p)) := by
  have hc := ho.1
  unfold F_X10_releaseNumber F_X11_freeIt
  rcases f_find (fu := fu) (by omega) h g ho hp with ⟨j, hj, e1, e2, _⟩ | ⟨e1, e2⟩
  · obtain ⟨st', e3, c3⟩ := f8_takeOut (fu := fu) (by omega) h hc hj (fun i hi => md_bd (ho.2.2.2.2.2.2.2.2.2.1 i hi))
    obtain ⟨mm', e4, c4⟩ := f11_free (fu := fu) (by omega) g hc hj (t := t) (x := lI (a_V a j))
    simp only [zb_some, zc_ok, zc_err, zl_eq, f11_throw, i1_0, i0_0, im_m, if_true, if_false, not_true_eq_false, not_false_eq_true, e1, e2, e3, ik_m (show j < 1000 by omega), f11_at, at_1 (show j < 6 by omega), ms_1 g hj hc, e4]
    exact Or.inr ⟨_, st', mm', _, rfl, rfl, c3, c4, oka_tak ho hB hj⟩
  · simp only [zb_some, zc_ok, zc_err, zl_eq, f11_throw, i1_0, i0_0, im_m, if_true, if_false, not_true_eq_false, not_false_eq_true, e1, e2]
    exact Or.inl ⟨3, 1, _, by simp, rfl, rfl⟩
theorem c_feed {fu : Nat} (hf : 30 ≤ fu) {st : SS} {mm : Nat → Int64} {a : AS} {B : Int} (h : CR st a) (g : MR mm a) (ho : OKA B a) (hB : B + 10 ≤ 1000000) (t : Int32) {p w f : Int} (hp : r32 p) (hw : r32 w) (hr : r32 f) : CH [(3, 1), (0, 2)] B st mm t (F_X10_feedNumber fu st (iI p) (iI w) (iI f)) (F_X11_feedIt fu mm t (iI p) (iI w) (iI f)) := by
  have hc := ho.1
  unfold F_X10_feedNumber F_X11_feedIt
  rcases f_find (fu := fu) (by omega) h g ho hp with ⟨j, hj, e1, e2, _⟩ | ⟨e1, e2⟩
  · by_cases hA : amt w f
    · obtain ⟨A1, A2, A3, A4⟩ := hA
      have hv := ho.2.2.2.2.2.2.2.1 j hj
      have hS := ho.2.2.2.2.2.2.2.2.1 j hj
      have hM := ho.2.2.2.2.2.2.2.2.2.1 j hj
      have hd := ho.2.2.2.2.2.2.2.2.2.2.1 j hj
      have hst := stp_bd (a_S a j)
      have hsum := ll_add (a_V a j) (10000 * w + f)
      obtain ⟨h1, h2, h3, h4, h5, h6, h7, h8, h9, h10, h11, h12⟩ := h
      have h' : CR (s_ids st, s_vals st, s_scs st, s_mds st, s_cnt st, s_nxt st, s_esc st, s_fal st, s_add st, lI (a_F a + (10000 * w + f)), s_rem st) (a_I a, a_V a, a_S a, a_M a, a_c a, a_n a, a_e a, a_f a, a_A a, a_F a + (10000 * w + f), a_R a) := ⟨h1, h2, h3, h4, h5, rfl, h7, h8, h9, h10, h11, h12⟩
      obtain ⟨st', e3, c3⟩ := f8_becomeR h' hc hj (s := a_V a j + (10000 * w + f)) (by omega) (by omega) hS hM
      obtain ⟨mm', e4, c4⟩ := f11_becomes (fu := fu) (by omega) g hc hj (s := a_V a j + (10000 * w + f)) (by omega) (by omega) hS hM
      have hF := ll_add (a_F a) (10000 * w + f)
      have hc1 : CR st a := ⟨h1, h2, h3, h4, h5, h6, h7, h8, h9, h10, h11, h12⟩
      have hb := rd_bd (a_S a j) (a_M a j) (show 0 ≤ a_V a j + (10000 * w + f) by omega)
      simp only [zb_some, zc_ok, zc_err, zl_eq, f11_throw, i1_0, i0_0, im_m, if_true, if_false, not_true_eq_false, not_false_eq_true, e1, e2, f10_amt hw hr ⟨A1, A2, A3, A4⟩, f11_amtY hw hr ⟨A1, A2, A3, A4⟩, f10_uni hw hr, f11_uni hw hr, ik_m (show j < 1000 by omega), ik_g (show j < 6 by omega) (show 6 < 2147483648 by omega), ik_gx (show j < 6 by omega) (show 6 < 2147483648 by omega), cs_V hc1 hj hc, h6, hF, hsum, e3, f11_at, at_1 (show j < 6 by omega), ms_1 g hj hc, e4, ms_1 c4 hj hc]
      exact Or.inr ⟨_, st', mm', _, rfl, rfl, c3, c4, oka_feed ho hB hj (by omega) (by omega)⟩
    · simp only [zb_some, zc_ok, zc_err, zl_eq, f11_throw, i1_0, i0_0, im_m, if_true, if_false, not_true_eq_false, not_false_eq_true, e1, e2, f10_amtN hw hr hA, f11_amtN hw hr hA, ik_m (show j < 1000 by omega)]
      exact Or.inl ⟨0, 2, _, by simp, rfl, rfl⟩
  · simp only [zb_some, zc_ok, zc_err, zl_eq, f11_throw, i1_0, i0_0, im_m, if_true, if_false, not_true_eq_false, not_false_eq_true, e1, e2]
    exact Or.inl ⟨3, 1, _, by simp, rfl, rfl⟩
theorem c_trade {fu : Nat} (hf : 30 ≤ fu) {st : SS} {mm : Nat → Int64} {a : AS} {B : Int} (h : CR st a) (g : MR mm a) (ho : OKA B a) (hB : B + 10 ≤ 1000000) (t : Int32) {p q w f : Int} (hp : r32 p) (hq : r32 q) (hw : r32 w) (hr : r32 f) : CH [(3, 1), (0, 2), (1, 3), (2, 4)] B st mm t (F_X10_tradeAmount fu st (iI p) (iI q) (iI w) (iI f)) (F_X11_tradeIt fu mm t (iI p) (iI q) (iI w) (iI f)) := by
  have hc := ho.1
  unfold F_X10_tradeAmount F_X11_tradeIt
  rcases f_find (fu := fu) (by omega) h g ho hp with ⟨j, hj, e1, e2, _⟩ | ⟨e1, e2⟩
  · rcases f_find (fu := fu) (by omega) h g ho hq with ⟨k, hk, e3, e4, _⟩ | ⟨e3, e4⟩
    · have hjk : (iI (j : Int) = iI (k : Int)) = (j = k) := by
        rw [ii_eq (by omega) (by omega) (by omega) (by omega)]
        exact propext ⟨fun _ => by omega, fun _ => by omega⟩
      simp only [zb_some, zc_ok, zc_err, zl_eq, f11_throw, i1_0, i0_0, im_m, if_true, if_false, not_true_eq_false, not_false_eq_true, e1, e2, e3, e4, ik_m (show j < 1000 by omega), ik_m (show k < 1000 by omega), hjk]
      by_cases ejk : j = k
      · simp only [zb_some, zc_ok, zc_err, zl_eq, f11_throw, i1_0, i0_0, im_m, if_true, if_false, not_true_eq_false, not_false_eq_true, if_pos ejk]
        exact Or.inl ⟨0, 2, _, by simp, rfl, rfl⟩
      · by_cases hA : amt w f
        · obtain ⟨A1, A2, A3, A4⟩ := hA
          have hv := ho.2.2.2.2.2.2.2.1 j hj
          have hv' := ho.2.2.2.2.2.2.2.1 k hk
          have hS := ho.2.2.2.2.2.2.2.2.1 k hk
          have hSj := ho.2.2.2.2.2.2.2.2.1 j hj
          have hM := ho.2.2.2.2.2.2.2.2.2.1 k hk
          have hd := ho.2.2.2.2.2.2.2.2.2.2.1 j hj
          have hd' := ho.2.2.2.2.2.2.2.2.2.2.1 k hk
          have hst := stp_bd (a_S a k)
          have hlt : (lI (a_V a j) < lI (10000 * w + f)) = (a_V a j < 10000 * w + f) := ll_lt (by omega) (by omega) (by omega) (by omega)
          simp only [zb_some, zc_ok, zc_err, zl_eq, f11_throw, i1_0, i0_0, im_m, if_true, if_false, not_true_eq_false, not_false_eq_true, if_neg ejk, f10_amt hw hr ⟨A1, A2, A3, A4⟩, f11_amtY hw hr ⟨A1, A2, A3, A4⟩, f10_uni hw hr, f11_uni hw hr, ik_g (show j < 6 by omega) (show 6 < 2147483648 by omega), ik_gx (show j < 6 by omega) (show 6 < 2147483648 by omega), ik_g (show k < 6 by omega) (show 6 < 2147483648 by omega), ik_gx (show k < 6 by omega) (show 6 < 2147483648 by omega), cs_V h hj hc, cs_S h hj hc, f11_at, at_1 (show j < 6 by omega), at_1 (show k < 6 by omega), at_2 (show j < 6 by omega), ms_1 g hj hc, ms_2 g hj hc, hlt]
          by_cases hl : a_V a j < 10000 * w + f
          · simp only [zb_some, zc_ok, zc_err, zl_eq, f11_throw, i1_0, i0_0, im_m, if_true, if_false, not_true_eq_false, not_false_eq_true, if_pos hl]
            exact Or.inl ⟨1, 3, _, by simp, rfl, rfl⟩
          · simp only [zb_some, zc_ok, zc_err, zl_eq, f11_throw, i1_0, i0_0, im_m, if_true, if_false, not_true_eq_false, not_false_eq_true, if_neg hl, ll_toI, f7_step hSj.1 hSj.2, f11_step hSj.1 hSj.2 (show 6 ≤ fu by omega), stp_nz, ll_mod (show 0 ≤ 10000 * w + f by omega) (show 10000 * w + f < 4000000000000000000 by omega), ll_is0, ll_pos]
            by_cases hz : (10000 * w + f) % stp (a_S a j) = 0
            · have hsub := ll_sub (a_V a j) (10000 * w + f)
              obtain ⟨h1, h2, h3, h4, h5, h6, h7, h8, h9, h10, h11, h12⟩ := h
              have h' : CR (s_ids st, vp_updL (s_vals st) j (lI (a_V a j - (10000 * w + f))), s_scs st, s_mds st, s_cnt st, s_nxt st, s_esc st, s_fal st, s_add st, s_fed st, s_rem st) (a_I a, up (a_V a) j (a_V a j - (10000 * w + f)), a_S a, a_M a, a_c a, a_n a, a_e a, a_f a, a_A a, a_F a, a_R a) := ⟨h1, h2, h3, h4, h5, h6, h7, h8, up_CL h9, h10, h11, h12⟩
              have g' := MR_V g j (a_V a j - (10000 * w + f))
              have ev : up (a_V a) j (a_V a j - (10000 * w + f)) k = a_V a k := up_n (by omega)
              obtain ⟨st', e5, c5⟩ := f8_becomeR h' hc hk (s := a_V a k + (10000 * w + f)) (by omega) (by omega) hS hM
              obtain ⟨mm', e6, c6⟩ := f11_becomes (fu := fu) (by omega) g' hc hk (s := a_V a k + (10000 * w + f)) (by omega) (by omega) hS hM
              have hb := rd_bd (a_S a k) (a_M a k) (show 0 ≤ a_V a k + (10000 * w + f) by omega)
              have x1 : vp_updL (s_vals st) j (lI (a_V a j - (10000 * w + f))) ((iI (k : Int)).toNatClampNeg) = lI (a_V a k) := by rw [ii_nc k (by omega), up_L, if_neg (by omega)]; exact h9 k hk
              have x2 : vp_updL mm (4 + 4 * j + 1) (lI (a_V a j - (10000 * w + f))) ((iI (4 + 4 * (k : Int)) + 1).toNatClampNeg) = lI (a_V a k) := by rw [at_n1 (by omega), up_L, if_neg (by omega)]; exact g.2.2.2.2.2.1 k hk
              have x3 := ll_add (a_V a k) (10000 * w + f)
              simp only [zb_some, zc_ok, zc_err, zl_eq, f11_throw, i1_0, i0_0, im_m, if_true, if_false, not_true_eq_false, not_false_eq_true, if_pos hz, if_neg (show ¬ ¬ (10000 * w + f) % stp (a_S a j) = 0 from fun n => n hz), hsub, ii_nc j (show j < 2147483648 by omega), x1, at_n1 (show j < 6 by omega), at_1x (show j < 6 by omega), x2, x3, e5, e6, ms_1 c6 hk hc]
              exact Or.inr ⟨_, st', mm', _, rfl, rfl, c5, c6, oka_trd ho hB hj hk ejk (by omega) (by omega) hz⟩
            · simp only [zb_some, zc_ok, zc_err, zl_eq, f11_throw, i1_0, i0_0, im_m, if_true, if_false, not_true_eq_false, not_false_eq_true, if_neg hz, if_pos hz]
              exact Or.inl ⟨2, 4, _, by simp, rfl, rfl⟩
        · simp only [zb_some, zc_ok, zc_err, zl_eq, f11_throw, i1_0, i0_0, im_m, if_true, if_false, not_true_eq_false, not_false_eq_true, if_neg ejk, f10_amtN hw hr hA, f11_amtN hw hr hA]
          exact Or.inl ⟨0, 2, _, by simp, rfl, rfl⟩
    · simp only [zb_some, zc_ok, zc_err, zl_eq, f11_throw, i1_0, i0_0, im_m, if_true, if_false, not_true_eq_false, not_false_eq_true, e1, e2, e3, e4, ik_m (show j < 1000 by omega)]
      exact Or.inl ⟨3, 1, _, by simp, rfl, rfl⟩
  · rcases f_find (fu := fu) (by omega) h g ho hq with ⟨k, hk, e3, e4, _⟩ | ⟨e3, e4⟩
    · simp only [zb_some, zc_ok, zc_err, zl_eq, f11_throw, i1_0, i0_0, im_m, if_true, if_false, not_true_eq_false, not_false_eq_true, e1, e2, e3, e4]
      exact Or.inl ⟨3, 1, _, by simp, rfl, rfl⟩
    · simp only [zb_some, zc_ok, zc_err, zl_eq, f11_throw, i1_0, i0_0, im_m, if_true, if_false, not_true_eq_false, not_false_eq_true, e1, e2, e3, e4]
      exact Or.inl ⟨3, 1, _, by simp, rfl, rfl⟩
theorem c_scl_x {fu : Nat} {st st' : SS} {a : AS} {p s : Int} {o : Int64} (h : CR st a) (hc : a_c a ≤ 6) {j : Nat} (hj : j < a_c a) (hs : r32 s) (hS : scl s) (e1 : F_X10_requirePosition fu st (iI p) = some (.ok (iI (j : Int)))) (e5 : F_X8_becomeRounded (s_ids st, s_vals st, upd (s_scs st) j (iI s), s_mds st, s_cnt st, s_nxt st, s_esc st, s_fal st, s_add st, s_fed st, s_rem st) (iI (j : Int)) (lI (a_V a j)) = some (o, st')) : F_X10_changeScale fu st (iI p) (iI s) = some (.ok (iI (a_S a j), st')) := by
  unfold F_X10_changeScale
  rw [e1, zb_some, zc_ok, f10_scl hs hS, zb_some, zc_ok, if_neg (ii_gd (by omega) (by omega)), zl_eq, if_neg (ii_gd (by omega) (by omega)), if_neg (ii_gd (by omega) (by omega)), cs_S h hj hc, cs_V h hj hc, ii_nc j (by omega), e5, zb_some]
theorem c_scl_y {fu : Nat} {mm mm' : Nat → Int64} {a : AS} {p s : Int} {t : Int32} (g : MR mm a) (hc : a_c a ≤ 6) {j : Nat} (hj : j < a_c a) (hs : r32 s) (hS : scl s) (e2 : F_X11_find fu mm (iI p) = some (iI (j : Int))) (e6 : F_X11_becomes fu (vp_updL mm (4 + 4 * j + 2) (lI s)) (iI (j : Int)) (lI (a_V a j)) = some mm') : F_X11_scaleIt fu mm t (iI p) (iI s) = some (iI (a_S a j), mm', t) := by
  have x2 : vp_updL mm (4 + 4 * j + 2) (lI s) ((iI (4 + 4 * (j : Int)) + 1).toNatClampNeg) = lI (a_V a j) := by rw [at_n1 (by omega), up_L, if_neg (by omega)]; exact g.2.2.2.2.2.1 j hj
  unfold F_X11_scaleIt
  rw [e2, zb_some, if_neg (of_eq_false (ik_m (show j < 1000 by omega))), f11_scl hs hS, zb_some, if_neg (of_eq_false i1_0), f11_at, zb_some, if_neg (of_eq_false (at_2 (show j < 6 by omega))), zl_eq, zb_some, if_neg (of_eq_false (at_2 (show j < 6 by omega))), zb_some, if_neg (of_eq_false (at_1 (show j < 6 by omega))), ms_2 g hj hc, ll_toI, at_n2 (show j < 6 by omega), ii_toL hs.1 hs.2, x2, e6, zb_some]
theorem c_scale {fu : Nat} (hf : 30 ≤ fu) {st : SS} {mm : Nat → Int64} {a : AS} {B : Int} (h : CR st a) (g : MR mm a) (ho : OKA B a) (hB : B + 10 ≤ 1000000) (t : Int32) {p s : Int} (hp : r32 p) (hs : r32 s) : CH [(3, 1), (0, 2)] B st mm t (F_X10_changeScale fu st (iI p) (iI s)) (F_X11_scaleIt fu mm t (iI p) (iI s)) := by
  have hc := ho.1
  rcases f_find (fu := fu) (by omega) h g ho hp with ⟨j, hj, e1, e2, _⟩ | ⟨e1, e2⟩
  · by_cases hS : scl s
    · have hv := ho.2.2.2.2.2.2.2.1 j hj
      have hM := ho.2.2.2.2.2.2.2.2.2.1 j hj
      have hh := h
      obtain ⟨h1, h2, h3, h4, h5, h6, h7, h8, h9, h10, h11, h12⟩ := h
      have h' : CR (s_ids st, s_vals st, upd (s_scs st) j (iI s), s_mds st, s_cnt st, s_nxt st, s_esc st, s_fal st, s_add st, s_fed st, s_rem st) (a_I a, a_V a, up (a_S a) j s, a_M a, a_c a, a_n a, a_e a, a_f a, a_A a, a_F a, a_R a) := ⟨h1, h2, h3, h4, h5, h6, h7, h8, h9, up_CI h10, h11, h12⟩
      have g' := MR_S g j s
      have es : up (a_S a) j s j = s := up_s _ _ _
      have hSj : 0 ≤ up (a_S a) j s j ∧ up (a_S a) j s j ≤ 4 := by rw [es]; exact hS
      obtain ⟨st', e5, c5⟩ := f8_becomeR h' hc hj (s := a_V a j) hv.1 (by omega) hSj hM
      obtain ⟨mm', e6, c6⟩ := f11_becomes (fu := fu) (by omega) g' hc hj (s := a_V a j) hv.1 (by omega) hSj hM
      have q : OKA (B + 10) (bec (a_I a, a_V a, up (a_S a) j s, a_M a, a_c a, a_n a, a_e a, a_f a, a_A a, a_F a, a_R a) j (a_V a j) (rd (a_V a j) (up (a_S a) j s j) (a_M a j))) := by
        rw [es]; exact oka_scl ho hB hj hS
      exact Or.inr ⟨_, st', mm', _, c_scl_x hh hc hj hs hS e1 e5, c_scl_y g hc hj hs hS e2 e6, c5, c6, q⟩
    · unfold F_X10_changeScale F_X11_scaleIt
      simp only [zb_some, zc_ok, zc_err, zl_eq, f11_throw, i1_0, i0_0, im_m, if_true, if_false, not_true_eq_false, not_false_eq_true, e1, e2, f10_sclN hs hS, f11_sclN hs hS, ik_m (show j < 1000 by omega)]
      exact Or.inl ⟨0, 2, _, by simp, rfl, rfl⟩
  · unfold F_X10_changeScale F_X11_scaleIt
    simp only [zb_some, zc_ok, zc_err, zl_eq, f11_throw, i1_0, i0_0, im_m, if_true, if_false, not_true_eq_false, not_false_eq_true, e1, e2]
    exact Or.inl ⟨3, 1, _, by simp, rfl, rfl⟩
theorem c_mode {fu : Nat} (hf : 30 ≤ fu) {st : SS} {mm : Nat → Int64} {a : AS} {B : Int} (h : CR st a) (g : MR mm a) (ho : OKA B a) (hB : B + 10 ≤ 1000000) (t : Int32) {p m : Int} (hp : r32 p) (hm : 0 ≤ m ∧ m ≤ 65535) : CH [(3, 1), (0, 2)] B st mm t (F_X10_changeMode fu st (iI p) (iI m)) (F_X11_modeIt fu mm t (iI p) (iI m)) := by
  have hm' : r32 m := ⟨by omega, by omega⟩
  have hc := ho.1
  unfold F_X10_changeMode F_X11_modeIt
  rcases f_find (fu := fu) (by omega) h g ho hp with ⟨j, hj, e1, e2, _⟩ | ⟨e1, e2⟩
  · by_cases hM : md m
    · have hMj := md_bd (ho.2.2.2.2.2.2.2.2.2.1 j hj)
      have hh := h
      obtain ⟨h1, h2, h3, h4, h5, h6, h7, h8, h9, h10, h11, h12⟩ := h
      have hfit : (¬ (0 ≤ iI (a_M a j) ∧ iI (a_M a j) ≤ 65535)) = False := eq_false (fun n => n (ch_fit hMj.1 hMj.2))
      simp only [zb_some, zc_ok, zc_err, zl_eq, f11_throw, i1_0, i0_0, im_m, if_true, if_false, not_true_eq_false, not_false_eq_true, e1, e2, f10_mdY hM (show 10 ≤ fu by omega), f11_mdY hM, ik_m (show j < 1000 by omega), ik_g (show j < 6 by omega) (show 6 < 2147483648 by omega), ik_gx (show j < 6 by omega) (show 6 < 2147483648 by omega), cs_M hh hj hc, ii_nc j (show j < 2147483648 by omega), h11 j hj, f11_at, at_3 (show j < 6 by omega), ms_3 g hj hc, ll_toI, at_n3 (show j < 6 by omega), at_3x (show j < 6 by omega), ii_toL hm'.1 hm'.2, g.2.2.2.2.2.2.2 j hj, nr_id hm.1 hm.2]
      rw [if_neg (fun n => n (ch_fit hMj.1 hMj.2))]
      refine Or.inr ⟨_, _, _, (a_I a, a_V a, a_S a, up (a_M a) j m, a_c a, a_n a, a_e a, a_f a, a_A a, a_F a, a_R a), rfl, rfl, ⟨h1, h2, h3, h4, h5, h6, h7, h8, h9, h10, up_CI h11, ?_⟩, MR_M g j m, ?_⟩
      · intro k hk
        show 0 ≤ upd (s_mds st) j (iI m) k ∧ upd (s_mds st) j (iI m) k ≤ 65535
        by_cases e : k = j
        · rw [up_I, if_pos e]; exact ch_fit hm.1 hm.2
        · rw [up_I, if_neg e]; exact h12 k hk
      · obtain ⟨o1, o2, o3, o4, o5, o6, o7, o8, o9, o10, o11, o12⟩ := ho
        refine OKA.mono (B := B) ⟨o1, o2, o3, o4, o5, o6, o7, o8, o9, fun i hi => ?_, o11, o12⟩ (by omega) hB
        show md (up (a_M a) j m i)
        by_cases e : i = j
        · rw [e, up_s]; exact hM
        · rw [up_n e]; exact o10 i hi
    · simp only [zb_some, zc_ok, zc_err, zl_eq, f11_throw, i1_0, i0_0, im_m, if_true, if_false, not_true_eq_false, not_false_eq_true, e1, e2, f10_mdN hm' hM (show 10 ≤ fu by omega), f11_mdN hm' hM, ik_m (show j < 1000 by omega)]
      exact Or.inl ⟨0, 2, _, by simp, rfl, rfl⟩
  · simp only [zb_some, zc_ok, zc_err, zl_eq, f11_throw, i1_0, i0_0, im_m, if_true, if_false, not_true_eq_false, not_false_eq_true, e1, e2]
    exact Or.inl ⟨3, 1, _, by simp, rfl, rfl⟩
