-- quotients on both sides
theorem f11_quoI {x y : Int} (hx : r32 x) (hy : r32 y) (h : quo x y) : F_X11_isQuotient (iI x) (iI y) = some (iI 1) := by
  obtain ⟨a1, a2⟩ := hx; obtain ⟨b1, b2⟩ := hy; obtain ⟨q1, q2, q3, q4⟩ := h
  unfold F_X11_isQuotient
  rw [ii_toL a1 a2, ll_L0, ll_L9999, f_in (by omega) (by omega) (by omega) (by omega) (by omega) (by omega), zb_some, if_pos (show 0 ≤ x ∧ x ≤ 9999 from ⟨q1, q2⟩), if_neg (by decide), ii_toL b1 b2, ll_L1, ll_L999, f_in (by omega) (by omega) (by omega) (by omega) (by omega) (by omega), zb_some, if_pos (show 1 ≤ y ∧ y ≤ 999 from ⟨q3, q4⟩), if_neg (by decide)]
  rfl
theorem f11_quoN {x y : Int} (hx : r32 x) (hy : r32 y) (h : ¬ quo x y) : F_X11_isQuotient (iI x) (iI y) = some (iI 0) := by
  obtain ⟨a1, a2⟩ := hx; obtain ⟨b1, b2⟩ := hy
  unfold F_X11_isQuotient
  rw [ii_toL a1 a2, ll_L0, ll_L9999, f_in (by omega) (by omega) (by omega) (by omega) (by omega) (by omega), zb_some]
  by_cases c1 : 0 ≤ x ∧ x ≤ 9999
  · rw [if_pos c1, if_neg (by decide), ii_toL b1 b2, ll_L1, ll_L999, f_in (by omega) (by omega) (by omega) (by omega) (by omega) (by omega), zb_some, if_neg (show ¬ (1 ≤ y ∧ y ≤ 999) from fun c2 => h ⟨c1.1, c1.2, c2.1, c2.2⟩), if_pos (by decide)]
    rfl
  · rw [if_neg c1, if_pos (by decide)]
    rfl
theorem quo_nat {x y : Int} (h : quo x y) : ∃ a b : Nat, x = (a : Int) ∧ y = (b : Int) ∧ a ≤ 9999 ∧ 0 < b ∧ b ≤ 999 := by
  obtain ⟨q1, q2, q3, q4⟩ := h
  exact ⟨x.toNat, y.toNat, by omega, by omega, by omega, by omega, by omega⟩
/-- the digit at a position -/
def qd (a b i : Nat) : Nat := rr a b i * 10 / b
theorem qd_lt {a b : Nat} (hb : 0 < b) (i : Nat) : qd a b i ≤ 9 := by
  have := rr_lt (a := a) hb i
  unfold qd
  have h2 : rr a b i * 10 / b < 10 := (Nat.div_lt_iff_lt_mul hb).mpr (by omega)
  omega
theorem f10_qd {fu a b p : Nat} (hb : 0 < b) (hb' : b ≤ 999) (hp : 1 ≤ p) (hp' : p ≤ 9999) : ∀ (n j : Nat), j + 1 ≤ p → p < n + (j + 1) → F_X10_quotientDigit_35 fu n (iI (b : Int)) (iI (p : Int)) (iI (rr a b j : Int)) (iI ((j + 1 : Nat) : Int)) = some (.ok (iI (qd a b (p - 1) : Int))) := by
  intro n
  induction n with
  | zero => intro j _ _; omega
  | succ n ih =>
    intro j hj hn
    have hr := rr_lt (a := a) hb j
    unfold F_X10_quotientDigit_35
    rw [ti_le (by omega) (by omega) (by omega) (by omega)]
    by_cases e : (p : Int) ≤ ((j + 1 : Nat) : Int)
    · rw [if_pos e, if_neg (of_eq_false (ni_nz hb (by omega))), ni_m10, ni_dv (by omega) hb (by omega), show p - 1 = j from by omega]
      rfl
    · rw [if_neg e, if_neg (of_eq_false (ni_nz hb (by omega))), zl_eq, zl_eq, ni_m10, ni_md (by omega) hb (by omega), ← rr_s, ii_L1, ii_add, ii_nx]
      exact ih (j + 1) (by omega) (by omega)
theorem f11_qd7 {fu a b p : Nat} (hb : 0 < b) (hb' : b ≤ 999) (hp : 1 ≤ p) (hp' : p ≤ 9999) : ∀ (n j : Nat), j + 1 ≤ p → p < n + (j + 1) → F_X11_digitOf_7 fu n (iI (b : Int)) (iI (p : Int)) (iI (rr a b j : Int)) (iI ((j + 1 : Nat) : Int)) = some (iI (qd a b (p - 1) : Int)) := by
  intro n
  induction n with
  | zero => intro j _ _; omega
  | succ n ih =>
    intro j hj hn
    have hr := rr_lt (a := a) hb j
    unfold F_X11_digitOf_7
    rw [ti_le (by omega) (by omega) (by omega) (by omega)]
    by_cases e : (p : Int) ≤ ((j + 1 : Nat) : Int)
    · rw [if_pos e, if_neg (of_eq_false (ni_nz hb (by omega))), ni_10m, ni_dv (by omega) hb (by omega), show p - 1 = j from by omega]
      rfl
    · rw [if_neg e, if_neg (of_eq_false (ni_nz hb (by omega))), zl_eq, zl_eq, ni_10m, ni_md (by omega) hb (by omega), ← rr_s, ii_L1, ii_add, ii_nx]
      exact ih (j + 1) (by omega) (by omega)
theorem f11_qd {fu a b p : Nat} (hf : 10010 ≤ fu) (ha : a ≤ 9999) (hb : 0 < b) (hb' : b ≤ 999) (hp : 1 ≤ p) (hp' : p ≤ 9999) : F_X11_digitOf fu (iI (a : Int)) (iI (b : Int)) (iI (p : Int)) = some (iI (qd a b (p - 1) : Int)) := by
  unfold F_X11_digitOf
  rw [if_neg (of_eq_false (ni_nz hb (by omega))), zl_eq, ni_md (by omega) hb (by omega), ← rr_0]
  exact f11_qd7 hb hb' hp hp' fu 0 (by omega) (by omega)
theorem q_qdig {fu : Nat} (hf : 10010 ≤ fu) (t : Int32) {x y p : Int} (hx : r32 x) (hy : r32 y) (hp : r32 p) : QH [(0, 1), (4, 2)] (F_X10_quotientDigit fu (iI x) (iI y) (iI p)) (F_X11_quotientDigit fu t (iI x) (iI y) (iI p)) := by
  obtain ⟨p1, p2⟩ := hp
  unfold F_X10_quotientDigit F_X11_quotientDigit
  by_cases hQ : quo x y
  · rw [f10_quo hx hy hQ, zb_some, zc_ok, f11_quoI hx hy hQ, zb_some]
    obtain ⟨a, b, rfl, rfl, ha, hb, hb'⟩ := quo_nat hQ
    have hin : F_X11_in (Int32.toInt64 (iI p)) 1 9999 = some (iI (if 1 ≤ p ∧ p ≤ 9999 then 1 else 0)) := by
      rw [ii_toL p1 p2, ll_L1, ll_L9999, f_in (by omega) (by omega) (by omega) (by omega) (by omega) (by omega)]
    have t1 : (iI p < 1) = (p < 1) := by rw [ii_L1, ii_lt (by omega) (by omega) (by omega) (by omega)]
    have t2 : (iI p ≤ 9999) = (p ≤ 9999) := by rw [ii_L9999, ii_le (by omega) (by omega) (by omega) (by omega)]
    by_cases hr : 1 ≤ p ∧ p ≤ 9999
    · obtain ⟨k, rfl⟩ : ∃ k : Nat, p = k := ⟨p.toNat, by omega⟩
      refine Or.inl ⟨iI (qd a b (k - 1) : Int), ?_, ?_⟩
      · rw [if_neg (by rw [t1]; omega), if_pos (by rw [t2]; omega), if_neg (of_eq_false (ni_nz hb (by omega))), zl_eq, ni_md (by omega) hb (by omega), ← rr_0]
        exact f10_qd hb hb' (by omega) (by omega) fu 0 (by omega) (by omega)
      · rw [if_neg (by decide), hin, zb_some, if_pos hr, if_neg (by decide), f11_qd hf ha hb hb' (by omega) (by omega), zb_some]
        rfl
    · refine Or.inr ⟨4, 2, -1, by simp, ?_, ?_⟩
      · by_cases h1 : p < 1
        · rw [if_pos (by rw [t1]; exact h1)]
        · rw [if_neg (by rw [t1]; exact h1), if_neg (by rw [t2]; omega)]
      · rw [if_neg (by decide), hin, zb_some, if_neg hr, if_pos (by decide)]; rfl
  · rw [f10_quoN hx hy hQ, zb_some, zc_err, f11_quoN hx hy hQ, zb_some, if_pos (by decide)]
    exact Or.inr ⟨0, 1, -1, by simp, rfl, rfl⟩
/-- the class's division -/
theorem f7_fill5 {fu : Nat} : ∀ (n i : Nat) (seen : Nat → Int32), i ≤ 1000 → 1000 < n + i → (∀ k, k < i → seen k = iI (-1)) → ∃ seen', F_J7_fill_53178_5 fu n seen (-1) (iI (i : Int)) 1000 = some seen' ∧ ∀ k, k < 1000 → seen' k = iI (-1) := by
  intro n
  induction n with
  | zero => intro i seen _ _; omega
  | succ n ih =>
    intro i seen hi hn hs
    unfold F_J7_fill_53178_5
    rw [show (1000 : Int32) = iI ((1000 : Nat) : Int) from rfl, ti_le (by omega) (by omega) (by omega) (by omega)]
    by_cases e : ((1000 : Nat) : Int) ≤ (i : Int)
    · rw [if_pos e]
      exact ⟨seen, rfl, fun k hk => hs k (by omega)⟩
    · rw [if_neg e, if_neg (ii_gd (by omega) (by omega)), zl_eq, ii_nc i (by omega), ii_L1, ii_add, ii_nx]
      refine ih (i + 1) _ (by omega) (by omega) (fun k hk => ?_)
      rw [up_I]
      by_cases h : k = i
      · rw [if_pos h]; rfl
      · rw [if_neg h]; exact hs k (by omega)
theorem f5_div15 {fu a b u N : Nat} (hb : 0 < b) (hb' : b ≤ 999) (h : FR a b u N) (hN : N ≤ b) (dbef drec : Int32) : ∀ (n k : Nat) (seen : Nat → Int32), k ≤ N → N < n + k → (∀ i, i < k → seen (rr a b i) = iI (i : Int)) → (∀ r, r < 1000 → (∀ i, i < k → rr a b i ≠ r) → seen r = iI (-1)) →
    ∃ seen', F_X5_divide_15 fu n seen dbef drec (iI (b : Int)) (iI (rr a b k : Int)) (iI (k : Int)) = some (seen', iI (u : Int), iI ((N - u : Nat) : Int)) := by
  obtain ⟨f1, f2, f3⟩ := h
  intro n
  induction n with
  | zero => intro k seen _ _; omega
  | succ n ih =>
    intro k seen hk hn hs hs'
    have hr := rr_lt (a := a) hb k
    have hg : ¬ (iI (rr a b k : Int) < 0 ∨ 1000 ≤ (iI (rr a b k : Int)).toNatClampNeg) := ii_gd (by omega) (by omega)
    unfold F_X5_divide_15
    rw [ti_lt (by omega) (by omega) (by omega) (by omega), if_neg (show ¬ ((b : Int) < (k : Int)) by omega), if_neg hg, ii_nc _ (by omega)]
    by_cases e : k = N
    · subst e
      have hv : seen (rr a b k) = iI (u : Int) := by rw [← f2]; exact hs u f1
      rw [hv, if_neg (by rw [ii_L1, ii_neg, ii_eq (by omega) (by omega) (by omega) (by omega)]; omega)]
      unfold F_X5_divide_52
      rw [if_neg hg, ii_nc _ (by omega), hv, ii_sub]
      refine ⟨seen, ?_⟩
      rw [show ((k - u : Nat) : Int) = (k : Int) - (u : Int) from by omega]
    · have hv : seen (rr a b k) = iI (-1) := hs' _ (by omega) (fun i hi => f3 i k hi (by omega))
      rw [hv, if_pos (by decide), if_neg (ii_gx (show rr a b k < 1000 by omega)), if_neg (of_eq_false (ni_nz hb (by omega))), zl_eq, zl_eq, ni_m10, ni_md (by omega) hb (by omega), ← rr_s, ii_L1, ii_add, ii_nx]
      refine ih (k + 1) _ (by omega) (by omega) (fun i hi => ?_) (fun r hr1 hr2 => ?_)
      · rw [up_I]
        by_cases hik : i = k
        · rw [hik, if_pos rfl]
        · rw [if_neg (f3 i k (by omega) (by omega))]; exact hs i (by omega)
      · rw [up_I, if_neg (fun g => hr2 k (by omega) g.symm)]
        exact hs' r hr1 (fun i hi => hr2 i (by omega))
theorem f5_div {fu a b u N : Nat} (hf : 1100 ≤ fu) (ha : a ≤ 9999) (hb : 0 < b) (hb' : b ≤ 999) (h : FR a b u N) (hN : N ≤ b) (seen : Nat → Int32) (dbef drec : Int32) : ∃ seen', F_X5_divide fu seen dbef drec (iI (a : Int)) (iI (b : Int)) = some (seen', iI (u : Int), iI ((N - u : Nat) : Int)) := by
  obtain ⟨s1, e1, h1⟩ := f7_fill5 (fu := fu) fu 0 seen (by omega) (by omega) (fun k hk => by omega)
  unfold F_X5_divide F_J7_fill_53178
  rw [show F_J7_fill_53178_5 fu fu seen (-1) 0 1000 = some s1 from e1, zb_some, if_neg (of_eq_false (ni_nz hb (by omega))), zl_eq, ni_md (by omega) hb (by omega), ← rr_0]
  exact f5_div15 hb hb' h hN dbef drec fu 0 s1 (by omega) (by omega) (fun i hi => by omega) (fun r hr _ => h1 r hr)
/-- the reference's division -/
theorem f11_div27 {fu a b u N : Nat} (hb : 0 < b) (hb' : b ≤ 999) (h : FR a b u N) (hN : N ≤ b) (mahd magn : Int32) : ∀ (n k : Nat) (mcam : Nat → Int32), k ≤ N → N < n + k → (∀ i, i < k → mcam (rr a b i) = iI ((i + 1 : Nat) : Int)) → (∀ r, r < b → (∀ i, i < k → rr a b i ≠ r) → mcam r = iI 0) →
    ∃ mcam', F_X11_divides_27 fu n mcam mahd magn (iI (b : Int)) (iI (rr a b k : Int)) (iI ((k + 1 : Nat) : Int)) = some (mcam', iI (u : Int), iI ((N - u : Nat) : Int)) := by
  obtain ⟨f1, f2, f3⟩ := h
  intro n
  induction n with
  | zero => intro k mcam _ _; omega
  | succ n ih =>
    intro k mcam hk hn hs hs'
    have hr := rr_lt (a := a) hb k
    have hg : ¬ (iI (rr a b k : Int) < 0 ∨ 999 ≤ (iI (rr a b k : Int)).toNatClampNeg) := ii_gd (by omega) (by omega)
    unfold F_X11_divides_27
    rw [if_neg hg, ii_nc _ (by omega)]
    have hgx := ii_gx (show rr a b k < 999 by omega)
    by_cases e : k = N
    · subst e
      have hv : mcam (rr a b k) = iI ((u + 1 : Nat) : Int) := by rw [← f2]; exact hs u f1
      rw [hv, if_neg (of_eq_false (ni_nz (by omega) (by omega))), if_neg hgx, if_neg hgx, ii_L1, ii_sub, ii_sub]
      refine ⟨mcam, ?_⟩
      rw [show ((k - u : Nat) : Int) = ((k + 1 : Nat) : Int) - ((u + 1 : Nat) : Int) from by omega, show (u : Int) = ((u + 1 : Nat) : Int) - 1 from by omega]
    · have hv : mcam (rr a b k) = iI 0 := hs' _ hr (fun i hi => f3 i k hi (by omega))
      rw [hv, if_pos (by decide), if_neg hgx, if_neg (of_eq_false (ni_nz hb (by omega))), zl_eq, zl_eq, ni_10m, ni_md (by omega) hb (by omega), ← rr_s, ii_L1, ii_add, ii_nx]
      refine ih (k + 1) _ (by omega) (by omega) (fun i hi => ?_) (fun r hr1 hr2 => ?_)
      · rw [up_I]
        by_cases hik : i = k
        · rw [hik, if_pos rfl]
        · rw [if_neg (f3 i k (by omega) (by omega))]; exact hs i (by omega)
      · rw [up_I, if_neg (fun g => hr2 k (by omega) g.symm)]
        exact hs' r hr1 (fun i hi => hr2 i (by omega))
theorem f11_div2 {fu a b u N : Nat} (hf : 1100 ≤ fu) (ha : a ≤ 9999) (hb : 0 < b) (hb' : b ≤ 999) (h : FR a b u N) (hN : N ≤ b) (mahd magn : Int32) : ∀ (n i : Nat) (mcam : Nat → Int32), i ≤ b → b < n + i → (∀ k, k < i → mcam k = iI 0) → ∃ mcam', F_X11_divides_2 fu n mcam mahd magn (iI (a : Int)) (iI (b : Int)) (iI (i : Int)) = some (mcam', iI (u : Int), iI ((N - u : Nat) : Int)) := by
  intro n
  induction n with
  | zero => intro i mcam _ _; omega
  | succ n ih =>
    intro i mcam hi hn hs
    unfold F_X11_divides_2
    rw [ti_le (by omega) (by omega) (by omega) (by omega)]
    by_cases e : (b : Int) ≤ (i : Int)
    · rw [if_pos e, if_neg (of_eq_false (ni_nz hb (by omega))), zl_eq, ni_md (by omega) hb (by omega), ← rr_0]
      exact f11_div27 hb hb' h hN mahd magn fu 0 mcam (by omega) (by omega) (fun k hk => by omega) (fun r hr _ => hs r (by omega))
    · rw [if_neg e, if_neg (ii_gd (by omega) (by omega)), zl_eq, ii_nc i (by omega), ii_L1, ii_add, ii_nx]
      refine ih (i + 1) _ (by omega) (by omega) (fun k hk => ?_)
      rw [up_I]
      by_cases hki : k = i
      · rw [if_pos hki]; rfl
      · rw [if_neg hki]; exact hs k (by omega)
theorem f11_div {fu a b u N : Nat} (hf : 1100 ≤ fu) (ha : a ≤ 9999) (hb : 0 < b) (hb' : b ≤ 999) (h : FR a b u N) (hN : N ≤ b) (mcam : Nat → Int32) (mahd magn : Int32) : ∃ mcam', F_X11_divides fu mcam mahd magn (iI (a : Int)) (iI (b : Int)) = some (mcam', iI (u : Int), iI ((N - u : Nat) : Int)) :=
  f11_div2 hf ha hb hb' h hN mahd magn fu 0 mcam (by omega) (by omega) (fun k hk => by omega)
/-- a query that leaves its rows behind -/
def QD {S W : Type} (x : Option (Except (Nat × S) (Int32 × S))) (y : Option (Int32 × Int32 × W)) : Prop :=
  (∃ r s w, x = some (.ok (r, s)) ∧ y = some (r, iI 0, w)) ∨ ∃ s q w, x = some (.error (0, s)) ∧ y = some (q, iI 1, w)
section QDIV
variable {fu : Nat} {x y : Int}
theorem q_pre (hf : 1100 ≤ fu) (t : Int32) (seen : Nat → Int32) (dbef drec : Int32) (mcam : Nat → Int32) (mahd magn : Int32) (hx : r32 x) (hy : r32 y) : QD (F_X10_preperiod fu seen dbef drec (iI x) (iI y)) (F_X11_preperiod fu t mcam mahd magn (iI x) (iI y)) := by
  unfold F_X10_preperiod F_X11_preperiod
  by_cases hQ : quo x y
  · rw [f10_quo hx hy hQ, zb_some, zc_ok, f11_quoI hx hy hQ, zb_some, if_neg (by decide)]
    obtain ⟨a, b, rfl, rfl, ha, hb, hb'⟩ := quo_nat hQ
    obtain ⟨u, N, hF, hN⟩ := fr_ex (a := a) hb
    obtain ⟨s1, e1⟩ := f5_div hf ha hb hb' hF hN seen dbef drec
    obtain ⟨s2, e2⟩ := f11_div hf ha hb hb' hF hN mcam mahd magn
    rw [e1, zb_some, e2, zb_some]
    exact Or.inl ⟨_, _, _, rfl, rfl⟩
  · rw [f10_quoN hx hy hQ, zb_some, zc_err, f11_quoN hx hy hQ, zb_some, if_pos (by decide)]
    exact Or.inr ⟨_, _, _, rfl, rfl⟩
theorem q_per (hf : 1100 ≤ fu) (t : Int32) (seen : Nat → Int32) (dbef drec : Int32) (mcam : Nat → Int32) (mahd magn : Int32) (hx : r32 x) (hy : r32 y) : QD (F_X10_period fu seen dbef drec (iI x) (iI y)) (F_X11_period fu t mcam mahd magn (iI x) (iI y)) := by
  unfold F_X10_period F_X11_period
  by_cases hQ : quo x y
  · rw [f10_quo hx hy hQ, zb_some, zc_ok, f11_quoI hx hy hQ, zb_some, if_neg (by decide)]
    obtain ⟨a, b, rfl, rfl, ha, hb, hb'⟩ := quo_nat hQ
    obtain ⟨u, N, hF, hN⟩ := fr_ex (a := a) hb
    obtain ⟨s1, e1⟩ := f5_div hf ha hb hb' hF hN seen dbef drec
    obtain ⟨s2, e2⟩ := f11_div hf ha hb hb' hF hN mcam mahd magn
    rw [e1, zb_some, e2, zb_some]
    exact Or.inl ⟨_, _, _, rfl, rfl⟩
  · rw [f10_quoN hx hy hQ, zb_some, zc_err, f11_quoN hx hy hQ, zb_some, if_pos (by decide)]
    exact Or.inr ⟨_, _, _, rfl, rfl⟩
theorem q_pow (hf : 1100 ≤ fu) (t : Int32) (mcam : Nat → Int32) (mahd magn : Int32) (hx : r32 x) (hy : r32 y) : (∃ r w, F_X10_periodByPowers fu (iI x) (iI y) = some (.ok r) ∧ F_X11_periodByPowers fu t mcam mahd magn (iI x) (iI y) = some (r, iI 0, w)) ∨ ∃ q w, F_X10_periodByPowers fu (iI x) (iI y) = some (.error (0, ())) ∧ F_X11_periodByPowers fu t mcam mahd magn (iI x) (iI y) = some (q, iI 1, w) := by
  unfold F_X10_periodByPowers F_X11_periodByPowers F_X11_period
  by_cases hQ : quo x y
  · rw [f10_quo hx hy hQ, zb_some, zc_ok, f11_quoI hx hy hQ, zb_some, if_neg (by decide)]
    obtain ⟨a, b, rfl, rfl, ha, hb, hb'⟩ := quo_nat hQ
    obtain ⟨u, N, hF, hN⟩ := fr_ex (a := a) hb
    obtain ⟨s2, e2⟩ := f11_div hf ha hb hb' hF hN mcam mahd magn
    obtain ⟨m, q, e3, eb, hm, hq, hm0, hm'⟩ := f5_rec (fu := fu) (by omega) ha hb hb'
    obtain ⟨o1, o2, o3, o4, o5⟩ := ord_eq hb rfl eb hm hq hF
    have hlt : u < N := hF.1
    rw [e3, zb_some, f5_ord hf hm0 hm' (show 1 ≤ N - u by omega) o3 o1 o2, zb_some, e2, zb_some]
    exact Or.inl ⟨_, _, rfl, rfl⟩
  · rw [f10_quoN hx hy hQ, zb_some, zc_err, f11_quoN hx hy hQ, zb_some, if_pos (by decide)]
    exact Or.inr ⟨_, _, rfl, rfl⟩
end QDIV
