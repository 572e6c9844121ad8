-- writing a number, writing a quotient
theorem wn_loop {fu : Nat} (hf : 40 ≤ fu) {st : SS} {mm : Nat → Int64} {a : AS} {B : Int} (h : CR st a) (g : MR mm a) (ho : OKA B a) {j : Nat} (hj : j < a_c a) : ∀ (n k ln : Nat) (lch mlin : Nat → Int32) (llen mliM : Int32), (k : Int) ≤ a_S a j → 5 < n + k → ln + 5 ≤ 60 + k → LR ln lch llen mlin mliM →
    ∃ ln' : Nat, ∃ lch' llen' mlin' mliM', F_X10_writeNumber_78 fu n st lch llen (iI (j : Int)) (lI (a_V a j)) (iI ((k : Int) + 1)) = some (.ok (iI (ln' : Int), lch', llen')) ∧ F_X11_writeNumber_75 fu n mm 0 mlin mliM (lI (a_V a j)) (iI (4 + 4 * (j : Int))) (iI (k : Int)) = some (iI (ln' : Int), 0, mlin', mliM') ∧ LR ln' lch' llen' mlin' mliM' ∧ ln' ≤ 61 := by
  have hc := ho.1
  have hS := ho.2.2.2.2.2.2.2.2.1 j hj
  have hv := ho.2.2.2.2.2.2.2.1 j hj
  have hM := md_bd (ho.2.2.2.2.2.2.2.2.2.1 j hj)
  intro n
  induction n with
  | zero => intro k ln lch mlin llen mliM hk hn; omega
  | succ n ih =>
    intro k ln lch mlin llen mliM hk hn hl hL
    unfold F_X10_writeNumber_78 F_X11_writeNumber_75
    rw [if_neg (ii_gd (show j < 6 by omega) (by omega)), cs_S h hj hc, ti_lt (by omega) (by omega) (by omega) (by omega), if_neg (of_eq_false (at_2 (show j < 6 by omega))), ms_2 g hj hc, ii_toL (by omega) (by omega), tl_lt (by omega) (by omega) (by omega) (by omega)]
    by_cases e : (k : Int) < a_S a j
    · have hdb := dv_nn (3 - k) hv.1
      obtain ⟨x1, x2, x3, x4, p1, p2, p3⟩ := lr_dig hL (by omega) (d := dv (3 - k) (a_V a j) % 10) (by omega) (by omega)
      obtain ⟨ln', y1, y2, y3, y4, q1, q2, q3⟩ := ih (k + 1) (ln + 1) x1 x3 x2 x4 (by omega) (by omega) (by omega) p3
      refine ⟨ln', y1, y2, y3, y4, ?_, ?_, q3⟩
      · rw [if_neg (by omega), ii_L4, ii_sub, show (4 : Int) - ((k : Int) + 1) = ((3 - k : Nat) : Int) from by omega, f10_dig hv.1 (by omega) (by omega) (by omega), zb_some, p1, zb_some, zl_eq, ii_L1, ii_add]
        exact q1
      · rw [if_pos e, ii_L1, ii_neg, ii_sub, show (-1 : Int) - (k : Int) = ((3 - k : Nat) : Int) - 4 from by omega, f11_dig hv.1 (by omega) (by omega) (by omega), zb_some, p2, zb_some, zl_eq, ii_add]
        exact q2
    · obtain ⟨x1, x2, x3, x4, p1, p2, p3⟩ := lr_put hL (by omega) (c := a_M a j) hM.1 hM.2
      refine ⟨ln + 1, x1, x2, x3, x4, ?_, ?_, p3, by omega⟩
      · rw [if_pos (by omega), if_neg (ii_gd (show j < 6 by omega) (by omega)), cs_M h hj hc, p1, zb_some, p3.1]
      · rw [if_neg e, if_neg (of_eq_false (at_3 (show j < 6 by omega))), ms_3 g hj hc, ll_toI, p2, zb_some, p3.2.1]
/-- what is written by a call -/
def WR {S W : Type} (e0 : Nat) (x : Option (Except (Nat × S) (Int32 × S))) (y : Option (Int32 × Int32 × W)) (P : S → W → Prop) (s0 : S) (w0 : W) : Prop :=
  (∃ r s w, x = some (.ok (r, s)) ∧ y = some (r, iI 0, w) ∧ P s w) ∨ ∃ q, x = some (.error (e0, s0)) ∧ y = some (q, iI 1, w0)
def LRx (s : (Nat → Int32) × Int32) (w : (Nat → Int32) × Int32) : Prop := ∃ ln : Nat, ln ≤ 61 ∧ LR ln s.1 s.2 w.1 w.2
theorem w_num {fu : Nat} (hf : 30 ≤ fu) {st : SS} {mm : Nat → Int64} {a : AS} {B : Int} (h : CR st a) (g : MR mm a) (ho : OKA B a) (t : Int32) (hf4 : 40 ≤ fu) (lch mlin : Nat → Int32) (llen mliM : Int32) {p : Int} (hp : r32 p) : WR 3 (F_X10_writeNumber fu st lch llen (iI p)) (F_X11_writeNumber fu mm t mlin mliM (iI p)) LRx (lch, llen) (mlin, mliM) := by
  have hc := ho.1
  unfold F_X10_writeNumber F_X11_writeNumber
  rcases f_find (fu := fu) (by omega) h g ho hp with ⟨j, hj, e1, e2, eI⟩ | ⟨e1, e2⟩
  · left
    have hv := ho.2.2.2.2.2.2.2.1 j hj
    have hS := ho.2.2.2.2.2.2.2.2.1 j hj
    have hI := ho.2.2.2.2.2.2.1 j hj
    have hB := ho.2.2.2.2.2.1
    obtain ⟨v, rfl⟩ : ∃ v : Nat, p = v := ⟨p.toNat, by omega⟩
    obtain ⟨w, hw⟩ : ∃ w : Nat, a_V a j / 10000 = w := ⟨(a_V a j / 10000).toNat, by omega⟩
    have m0 : ∀ {X Y : Option (Int32 × Int32 × (Nat → Int32) × Int32)}, (if ((lI (a_V a j), (0 : Int32)) : Int64 × Int32).2 ≤ 0 then X else Y) = X := fun {X Y} => if_pos (show (0 : Int32) ≤ 0 by decide)
    have L0 : LR 0 lch (iI ((0 : Nat) : Int)) mlin (iI ((0 : Nat) : Int)) := ⟨rfl, rfl, fun i hi => by omega⟩
    obtain ⟨l1, x1, x2, x3, x4, p1, p2, p3, p4⟩ := wh_both (fu := fu) hf4 (v := v) (by omega) (by omega) L0
    obtain ⟨y1, y2, y3, y4, q1, q2, q3⟩ := lr_put p3 (by omega) (c := 58) (by omega) (by omega)
    obtain ⟨l2, z1, z2, z3, z4, r1, r2, r3, r4⟩ := wh_both (fu := fu) hf4 (v := w) (by omega) (by omega) q3
    obtain ⟨u1, u2, u3, u4, s1, s2, s3⟩ := lr_put r3 (by omega) (c := 46) (by omega) (by omega)
    have p1' : F_X4_putWhole fu lch 0 (lI (v : Int)) = some (x1, x2) := p1
    have p2' : F_X11_writesWhole fu mlin 0 (iI (v : Int)) = some (x3, x4) := p2
    have q1' : F_X4_put x1 x2 58 = some (y1, y2) := q1
    have q2' : F_X11_sign x3 x4 58 = some (y3, y4) := q2
    have s1' : F_X4_put z1 z2 46 = some (u1, u2) := s1
    have s2' : F_X11_sign z3 z4 46 = some (u3, u4) := s2
    have ev : lI (a_V a j) / 10000 = lI (w : Int) := by rw [ll_L10000, ll_div hv.1 (by omega) (by omega) (by omega), hw]
    have tS : (iI (a_S a j) ≤ 0) = (a_S a j ≤ 0) := by rw [ii_L0, ii_le (by omega) (by omega) (by omega) (by omega)]
    have tL : ((0 : Int64) < lI (a_S a j)) = (0 < a_S a j) := by rw [ll_L0, ll_lt (by omega) (by omega) (by omega) (by omega)]
    rw [e1, zb_some, zc_ok, if_neg (ii_gd (show j < 6 by omega) (by omega)), zl_eq, cs_V h hj hc, ii_toL hp.1 hp.2, p1', zb_some, q1', zb_some, ev, r1, zb_some, if_neg (ii_gd (show j < 6 by omega) (by omega)), cs_S h hj hc, of_1 g hc hj e2, zb_some, m0, e2, zb_some, f11_at, zb_some, p2', zb_some, q2', zb_some]
    have ev2 : Int64.toInt32 (((lI (a_V a j), (0 : Int32)) : Int64 × Int32).1 / 10000) = iI (w : Int) := by
      show Int64.toInt32 (lI (a_V a j) / 10000) = _
      rw [ev, ll_toI]
    rw [ev2, r2, zb_some, if_neg (of_eq_false (at_2 (show j < 6 by omega))), ms_2 g hj hc]
    by_cases hs0 : a_S a j ≤ 0
    · obtain ⟨ln', a1, a2, a3, a4, b1, b2, b3, b4⟩ := wn_loop hf4 h g ho hj fu 0 l2 z1 z3 z2 z4 (by omega) (by omega) (by omega) r3
      refine ⟨iI (ln' : Int), (a1, a2), (a3, a4), ?_, ?_, ⟨ln', b4, b3⟩⟩
      · rw [if_pos (by rw [tS]; exact hs0)]; exact b1
      · rw [if_neg (by rw [tL]; omega)]; exact b2
    · obtain ⟨ln', a1, a2, a3, a4, b1, b2, b3, b4⟩ := wn_loop hf4 h g ho hj fu 0 (l2 + 1) u1 u3 u2 u4 (by omega) (by omega) (by omega) s3
      refine ⟨iI (ln' : Int), (a1, a2), (a3, a4), ?_, ?_, ⟨ln', b4, b3⟩⟩
      · rw [if_neg (by rw [tS]; exact hs0), s1', zb_some]; exact b1
      · rw [if_pos (by rw [tL]; omega), s2', zb_some]; exact b2
  · right
    rw [e1, zb_some, zc_err, of_n e2, zb_some]
    exact ⟨-1, rfl, rfl⟩
theorem qd_md {a b i : Nat} (hb : 0 < b) (hb' : b ≤ 999) : iI ((rr a b i * 10 : Nat) : Int) - iI (qd a b i : Int) * iI (b : Int) = iI (rr a b (i + 1) : Int) := by
  have hr := rr_lt (a := a) hb i
  unfold qd
  rw [← ni_dv (by omega) hb (by omega), ni_md (by omega) hb (by omega), ← rr_s]
/-- digits ahead of the bracket -/
theorem wq_a {fu a b u M : Nat} {t : Int32} {mcam : Nat → Int32} {magn : Int32} (hf : 10010 ≤ fu) (ha : a ≤ 9999) (hb : 0 < b) (hb' : b ≤ 999) (hu : u ≤ 9) (hM : M ≤ 20) (hM1 : 1 ≤ M) (hmag : (if magn < 20 then magn else 20) = iI (M : Int)) : ∀ (d i n m ln : Nat) (lch mlin : Nat → Int32) (llen mliM : Int32), i + d = u → d < n → d < m → ln + d ≤ 60 → LR ln lch llen mlin mliM →
    ∃ lch' llen' mlin' mliM', F_X4_putQuotientDigits_6 fu n lch llen (iI (b : Int)) (iI (u : Int)) (iI (rr a b i : Int)) (iI (i : Int)) = some (iI (rr a b u : Int), lch', llen') ∧
      F_X11_writeQuotient_45 fu m t mcam (iI (u : Int)) magn mlin mliM (iI (a : Int)) (iI (b : Int)) (iI ((i : Int) + 1)) = F_X11_writeQuotient_45 fu (m - d) t mcam (iI (u : Int)) magn mlin' mliM' (iI (a : Int)) (iI (b : Int)) (iI ((u : Int) + 1)) ∧ LR (ln + d) lch' llen' mlin' mliM' := by
  intro d
  induction d with
  | zero =>
    intro i n m ln lch mlin llen mliM hi hn hm hl hL
    obtain ⟨n, rfl⟩ : ∃ n', n = n' + 1 := ⟨n - 1, by omega⟩
    obtain rfl : i = u := by omega
    refine ⟨lch, llen, mlin, mliM, ?_, rfl, hL⟩
    unfold F_X4_putQuotientDigits_6
    rw [if_pos (Int32.le_refl _)]
  | succ d ih =>
    intro i n m ln lch mlin llen mliM hi hn hm hl hL
    obtain ⟨n, rfl⟩ : ∃ n', n = n' + 1 := ⟨n - 1, by omega⟩
    obtain ⟨m, rfl⟩ : ∃ m', m = m' + 1 := ⟨m - 1, by omega⟩
    have hr := rr_lt (a := a) hb i
    have hq := qd_lt (a := a) hb i
    obtain ⟨x1, x2, x3, x4, p1, p2, p3⟩ := lr_dig hL (by omega) (d := (qd a b i : Int)) (by omega) (by omega)
    obtain ⟨y1, y2, y3, y4, q1, q2, q3⟩ := ih (i + 1) n m (ln + 1) x1 x3 x2 x4 (by omega) (by omega) (by omega) (by omega) p3
    refine ⟨y1, y2, y3, y4, ?_, ?_, ?_⟩
    · unfold F_X4_putQuotientDigits_6
      rw [ti_le (by omega) (by omega) (by omega) (by omega), if_neg (by omega), if_neg (of_eq_false (ni_nz hb (by omega))), ni_m10, ni_dv (by omega) hb (by omega), show ((rr a b i * 10 / b : Nat) : Int) = (qd a b i : Int) from rfl, p1, zb_some, if_neg (of_eq_false (ni_nz hb (by omega))), zl_eq, zl_eq, qd_md hb hb', ii_L1, ii_add, ii_nx]
      exact q1
    · conv => lhs; unfold F_X11_writeQuotient_45
      rw [hmag, ii_add, ti_lt (by omega) (by omega) (by omega) (by omega), if_neg (by omega), ii_L1, ii_add, ti_eq (by omega) (by omega) (by omega) (by omega), if_neg (by omega), show ((i : Int) + 1) = ((i + 1 : Nat) : Int) from rfl, f11_qd hf ha hb hb' (by omega) (by omega), zb_some, show i + 1 - 1 = i from rfl, p2, zb_some, zl_eq, ii_add, show m + 1 - (d + 1) = m - d from by omega]
      exact q2
    · rw [show ln + (d + 1) = ln + 1 + d from by omega]; exact q3
/-- digits inside the bracket, behind the first -/
theorem wq_b {fu a b u M : Nat} {t : Int32} {mcam : Nat → Int32} {magn : Int32} (hf : 10010 ≤ fu) (ha : a ≤ 9999) (hb : 0 < b) (hb' : b ≤ 999) (hu : u ≤ 9) (hM : M ≤ 20) (hmag : (if magn < 20 then magn else 20) = iI (M : Int)) : ∀ (d i n m ln : Nat) (lch mlin : Nat → Int32) (llen mliM : Int32), 1 ≤ i → i + d = M → d < n → d < m → ln + d + 1 ≤ 60 → LR ln lch llen mlin mliM →
    ∃ x lch' llen' mlin' mliM' lch2 llen2, F_X4_putQuotientDigits_6 fu n lch llen (iI (b : Int)) (iI (M : Int)) (iI (rr a b (u + i) : Int)) (iI (i : Int)) = some (x, lch', llen') ∧ F_X4_put lch' llen' 41 = some (lch2, llen2) ∧
      F_X11_writeQuotient_45 fu m t mcam (iI (u : Int)) magn mlin mliM (iI (a : Int)) (iI (b : Int)) (iI (((u + i : Nat) : Int) + 1)) = some (mliM', t, mcam, iI (u : Int), magn, mlin', mliM') ∧ LR (ln + d + 1) lch2 llen2 mlin' mliM' := by
  intro d
  induction d with
  | zero =>
    intro i n m ln lch mlin llen mliM h1 hi hn hm hl hL
    obtain ⟨n, rfl⟩ : ∃ n', n = n' + 1 := ⟨n - 1, by omega⟩
    obtain ⟨m, rfl⟩ : ∃ m', m = m' + 1 := ⟨m - 1, by omega⟩
    obtain rfl : i = M := by omega
    obtain ⟨y1, y2, y3, y4, q1, q2, q3⟩ := lr_put hL (by omega) (c := 41) (by omega) (by omega)
    refine ⟨iI (rr a b (u + i) : Int), lch, llen, y3, y4, y1, y2, ?_, q1, ?_, q3⟩
    · unfold F_X4_putQuotientDigits_6
      rw [if_pos (Int32.le_refl _)]
    · unfold F_X11_writeQuotient_45
      rw [hmag, ii_add, ti_lt (by omega) (by omega) (by omega) (by omega), if_pos (by omega), show F_X11_sign mlin mliM 41 = _ from q2, zb_some]
  | succ d ih =>
    intro i n m ln lch mlin llen mliM h1 hi hn hm hl hL
    obtain ⟨n, rfl⟩ : ∃ n', n = n' + 1 := ⟨n - 1, by omega⟩
    obtain ⟨m, rfl⟩ : ∃ m', m = m' + 1 := ⟨m - 1, by omega⟩
    have hr := rr_lt (a := a) hb (u + i)
    have hq := qd_lt (a := a) hb (u + i)
    obtain ⟨x1, x2, x3, x4, p1, p2, p3⟩ := lr_dig hL (by omega) (d := (qd a b (u + i) : Int)) (by omega) (by omega)
    obtain ⟨x, y1, y2, y3, y4, y5, y6, q1, q2, q3, q4⟩ := ih (i + 1) n m (ln + 1) x1 x3 x2 x4 (by omega) (by omega) (by omega) (by omega) (by omega) p3
    refine ⟨x, y1, y2, y3, y4, y5, y6, ?_, q2, ?_, ?_⟩
    · unfold F_X4_putQuotientDigits_6
      rw [ti_le (by omega) (by omega) (by omega) (by omega), if_neg (by omega), if_neg (of_eq_false (ni_nz hb (by omega))), ni_m10, ni_dv (by omega) hb (by omega), show ((rr a b (u + i) * 10 / b : Nat) : Int) = (qd a b (u + i) : Int) from rfl, p1, zb_some, if_neg (of_eq_false (ni_nz hb (by omega))), zl_eq, zl_eq, qd_md hb hb', ii_L1, ii_add, ii_nx]
      exact q1
    · unfold F_X11_writeQuotient_45
      rw [hmag, ii_add, ti_lt (by omega) (by omega) (by omega) (by omega), if_neg (by omega), ii_L1, ii_add, ti_eq (by omega) (by omega) (by omega) (by omega), if_neg (by omega), show (((u + i : Nat) : Int) + 1) = ((u + i + 1 : Nat) : Int) from rfl, f11_qd hf ha hb hb' (by omega) (by omega), zb_some, show u + i + 1 - 1 = u + i from rfl, p2, zb_some, zl_eq, ii_add]
      exact q3
    · rw [show ln + (d + 1) + 1 = ln + 1 + d + 1 from by omega]; exact q4
def LRq (s : (Nat → Int32) × Int32 × Int32 × (Nat → Int32) × Int32) (w : (Nat → Int32) × Int32 × Int32 × (Nat → Int32) × Int32) : Prop := LRx (s.2.2.2.1, s.2.2.2.2) (w.2.2.2.1, w.2.2.2.2)
theorem w_quo {fu : Nat} (hf : 10010 ≤ fu) (t : Int32) (seen : Nat → Int32) (dbef drec : Int32) (mcam : Nat → Int32) (mahd magn : Int32) (lch mlin : Nat → Int32) (llen mliM : Int32) {x y : Int} (hx : r32 x) (hy : r32 y) : WR 0 (F_X10_writeQuotient fu seen dbef drec lch llen (iI x) (iI y)) (F_X11_writeQuotient fu t mcam mahd magn mlin mliM (iI x) (iI y)) LRq (seen, dbef, drec, lch, llen) (mcam, mahd, magn, mlin, mliM) := by
  unfold F_X10_writeQuotient F_X11_writeQuotient
  by_cases hQ : quo x y
  · left
    obtain ⟨a, b, rfl, rfl, ha, hb, hb'⟩ := quo_nat hQ
    obtain ⟨u, N, hF, hN⟩ := fr_ex (a := a) hb
    obtain ⟨s1, e1⟩ := f5_div (fu := fu) (by omega) ha hb hb' hF hN seen dbef drec
    obtain ⟨s2, e2⟩ := f11_div (fu := fu) (by omega) ha hb hb' hF hN mcam mahd magn
    obtain ⟨m, q, _, eb, hm, hq, hm0, hm'⟩ := f5_rec (fu := fu) (by omega) ha hb hb'
    obtain ⟨_, _, _, hu9, _⟩ := ord_eq hb rfl eb hm hq hF
    have hlt : u < N := hF.1
    have hl20 : ∃ M : Nat, 1 ≤ M ∧ M ≤ 20 ∧ (if iI ((N - u : Nat) : Int) < 20 then iI ((N - u : Nat) : Int) else 20) = iI (M : Int) ∧ (if 20 < iI ((N - u : Nat) : Int) then 20 else iI ((N - u : Nat) : Int)) = iI (M : Int) := by
      rw [show (20 : Int32) = iI ((20 : Nat) : Int) from rfl, ti_lt (by omega) (by omega) (by omega) (by omega), ti_lt (by omega) (by omega) (by omega) (by omega)]
      by_cases h20 : N - u < 20
      · exact ⟨N - u, by omega, by omega, if_pos (by omega), if_neg (by omega)⟩
      · refine ⟨20, by omega, by omega, if_neg (by omega), ?_⟩
        by_cases h21 : 20 < N - u
        · exact if_pos (by omega)
        · rw [if_neg (by omega), show N - u = 20 from by omega]
    obtain ⟨M, hM1, hM, hg1, hg2⟩ := hl20
    have hd4 : a / b ≤ 9999 := Nat.le_trans (Nat.div_le_self a b) ha
    have hab : 0 ≤ ((a / b : Nat) : Int) := Int.natCast_nonneg _
    have L0 : LR 0 lch (iI ((0 : Nat) : Int)) mlin (iI ((0 : Nat) : Int)) := ⟨rfl, rfl, fun i hi => by omega⟩
    obtain ⟨l1, x1, x2, x3, x4, p1, p2, p3, p4⟩ := wh_both (fu := fu) (by omega) (v := a / b) (by omega) (by omega) L0
    obtain ⟨y1, y2, y3, y4, q1, q2, q3⟩ := lr_put p3 (by omega) (c := 46) (by omega) (by omega)
    obtain ⟨z1, z2, z3, z4, r1, r2, r3⟩ := wq_a (t := 0) (mcam := s2) (magn := iI ((N - u : Nat) : Int)) hf ha hb hb' hu9 hM hM1 hg1 u 0 fu fu (l1 + 1) y1 y3 y2 y4 (by omega) (by omega) (by omega) (by omega) q3
    obtain ⟨v1, v2, v3, v4, t1, t2, t3⟩ := lr_put r3 (by omega) (c := 40) (by omega) (by omega)
    have hru := rr_lt (a := a) hb u
    have hqu := qd_lt (a := a) hb u
    obtain ⟨w1, w2, w3, w4, k1, k2, k3⟩ := lr_dig t3 (by omega) (d := (qd a b u : Int)) (by omega) (by omega)
    obtain ⟨n, hn⟩ : ∃ n, fu = n + 1 := ⟨fu - 1, by omega⟩
    obtain ⟨m2, hm2⟩ : ∃ m2, fu - u = m2 + 1 := ⟨fu - u - 1, by omega⟩
    obtain ⟨xx, c1, c2, c3, c4, c5, c6, d1, d2, d3, d4⟩ := wq_b (t := 0) (mcam := s2) (magn := iI ((N - u : Nat) : Int)) hf ha hb hb' hu9 hM hg1 (M - 1) 1 n m2 (l1 + 1 + u + 1 + 1) w1 w3 w2 w4 (by omega) (by omega) (by omega) (by omega) (by omega) k3
    have p1' : F_X4_putWhole fu lch 0 (lI ((a / b : Nat) : Int)) = some (x1, x2) := p1
    have p2' : F_X11_writesWhole fu mlin 0 (iI ((a / b : Nat) : Int)) = some (x3, x4) := p2
    have q1' : F_X4_put x1 x2 46 = some (y1, y2) := q1
    have q2' : F_X11_sign x3 x4 46 = some (y3, y4) := q2
    have r1' : F_X4_putQuotientDigits fu y1 y2 (iI ((a % b : Nat) : Int)) (iI (b : Int)) (iI (u : Int)) = some (iI (rr a b u : Int), z1, z2) := by
      have := r1
      rw [rr_0] at this
      exact this
    have t1' : F_X4_put z1 z2 40 = some (v1, v2) := t1
    have first : F_X4_putQuotientDigits fu v1 v2 (iI (rr a b u : Int)) (iI (b : Int)) (iI (M : Int)) = some (xx, c1, c2) := by
      unfold F_X4_putQuotientDigits
      conv => lhs; rw [hn]
      unfold F_X4_putQuotientDigits_6
      rw [show (0 : Int32) = iI ((0 : Nat) : Int) from rfl, ti_le (by omega) (by omega) (by omega) (by omega), if_neg (by omega), if_neg (by exact of_eq_false (ni_nz hb (by omega))), ni_m10, ni_dv (by omega) hb (by omega), show ((rr a b u * 10 / b : Nat) : Int) = (qd a b u : Int) from rfl, k1, zb_some, if_neg (by exact of_eq_false (ni_nz hb (by omega))), zl_eq, zl_eq, qd_md hb hb', ii_L1, ii_add, ii_nx, ← hn]
      exact d1
    have second : F_X11_writeQuotient_45 fu (fu - u) 0 s2 (iI (u : Int)) (iI ((N - u : Nat) : Int)) z3 z4 (iI (a : Int)) (iI (b : Int)) (iI ((u : Int) + 1)) = some (c4, 0, s2, iI (u : Int), iI ((N - u : Nat) : Int), c3, c4) := by
      rw [hm2]
      unfold F_X11_writeQuotient_45
      rw [hg1, ii_add, ti_lt (by omega) (by omega) (by omega) (by omega), if_neg (by omega), ii_L1, ii_add, ti_eq (by omega) (by omega) (by omega) (by omega), if_pos rfl, show F_X11_sign z3 z4 40 = _ from t2, zb_some, show ((u : Int) + 1) = ((u + 1 : Nat) : Int) from rfl, f11_qd hf ha hb hb' (by omega) (by omega), zb_some, show u + 1 - 1 = u from rfl, k2, zb_some, zl_eq, ii_add]
      exact d3
    refine ⟨c6, (s1, iI (u : Int), iI ((N - u : Nat) : Int), c5, c6), (s2, iI (u : Int), iI ((N - u : Nat) : Int), c3, c4), ?_, ?_, ⟨l1 + 1 + u + 1 + 1 + (M - 1) + 1, by omega, d4⟩⟩
    · rw [f10_quo hx hy hQ, zb_some, zc_ok, e1, zb_some, if_neg (of_eq_false (ni_nz hb (by omega))), ni_dv (by omega) hb (by omega), ii_toL (by omega) (by omega), p1', zb_some, q1', zb_some, if_neg (of_eq_false (ni_nz hb (by omega))), ← ni_dv (by omega) hb (by omega), ni_md (by omega) hb (by omega), r1', zb_some, t1', zb_some, hg2, first, zb_some, d2, zb_some]
    · have e6 : c6 = c4 := by rw [d4.1, d4.2.1]
      rw [f11_quoI hx hy hQ, zb_some, if_neg (by decide), e2, zb_some, if_neg (of_eq_false (ni_nz hb (by omega))), ni_dv (by omega) hb (by omega), p2', zb_some, q2', zb_some]
      have q := r2.trans second
      rw [e6]
      exact q
  · right
    rw [f10_quoN hx hy hQ, zb_some, zc_err, f11_quoN hx hy hQ, zb_some, if_pos (by decide)]
    exact ⟨-1, rfl, rfl⟩
