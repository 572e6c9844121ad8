-- totals, means, shares, consistency
theorem q_mean {fu : Nat} (hf : 30 ≤ fu) {st : SS} {mm : Nat → Int64} {a : AS} {B : Int} (h : CR st a) (g : MR mm a) (ho : OKA B a) (t : Int32) : (∃ r, F_X10_meanValue fu st = some (.ok r) ∧ F_X11_meanValue fu mm t = some (r, 0) ∧ nn64 r) ∨ (F_X10_meanValue fu st = some (.error (5, ())) ∧ ∃ q, F_X11_meanValue fu mm t = some (q, 1)) := by
  have hc := ho.1
  unfold F_X10_meanValue F_X11_meanValue
  rw [h.1, f11_many g, zb_some]
  by_cases c0 : a_c a = 0
  · right
    have e0 : (iI (a_c a : Int) = 0) := by rw [c0]; rfl
    rw [if_pos e0, if_pos e0, f11_throw, zb_some]
    exact ⟨rfl, _, rfl⟩
  · left
    have e0 : ¬ (iI (a_c a : Int) = 0) := by rw [ii_L0, ii_eq (by omega) (by omega) (by omega) (by omega)]; omega
    have n1 : nn64 (FP.ddiv (FP.l2d (lI (sm (a_c a) (a_V a)))) (FP.i2d (iI (a_c a : Int)))) := nn_ddiv (nn_l2d _) (ct_d (by omega) hc)
    have n2 := nn_ddiv n1 tt_d
    rw [if_neg e0, if_neg e0, f8_sum (by omega) h hc, zb_some, if_neg (fun n => n (zn64_of n1)), if_neg (fun n => n (zn64_of n2)), f11_sum (by omega) g hc, zb_some, zb_some, if_neg (fun n => n (zn64_of n1)), if_neg (fun n => n (zn64_of n2))]
    exact ⟨_, rfl, rfl, n2⟩
theorem q_share {fu : Nat} (hf : 30 ≤ fu) {st : SS} {mm : Nat → Int64} {a : AS} {B : Int} (h : CR st a) (g : MR mm a) (ho : OKA B a) (t : Int32) {p : Int} (hp : r32 p) : (∃ r, F_X10_share fu st (iI p) = some (.ok r) ∧ F_X11_share fu mm t (iI p) = some (r, 0) ∧ nn32 r) ∨ ∃ e k q, (e, k) ∈ [((3 : Nat), (1 : Int)), (5, 2)] ∧ F_X10_share fu st (iI p) = some (.error (e, ())) ∧ F_X11_share fu mm t (iI p) = some (q, iI k) := by
  have hc := ho.1
  have hV := sm_V ho
  unfold F_X10_share F_X11_share
  rcases f_find (fu := fu) (by omega) h g ho hp with ⟨j, hj, e1, e2, _⟩ | ⟨e1, e2⟩
  · have m0 : ∀ {X Y : Option (UInt32 × Int32)}, (if ((lI (a_V a j), (0 : Int32)) : Int64 × Int32).2 = 0 then X else Y) = X := fun {X Y} => if_pos rfl
    have tz : (lI (sm (a_c a) (a_V a)) = 0) = (sm (a_c a) (a_V a) = 0) := by rw [ll_L0, ll_eq (by omega) (by omega) (by omega) (by omega)]
    rw [e1, zb_some, zc_ok, f8_sum (by omega) h hc, zb_some, of_1 g hc hj e2, zb_some, m0, f11_sum (by omega) g hc, zb_some]
    by_cases s0 : sm (a_c a) (a_V a) = 0
    · right
      rw [if_pos (by rw [tz]; exact s0), if_pos (by rw [tz]; exact s0), f11_throw, zb_some]
      refine ⟨5, 2, FP.fconst0, by simp, rfl, ?_⟩
      unfold F_X11_share_29
      rw [if_neg (show ¬ (((-1, 2) : Int32 × Int32).2 ≤ 0) by decide)]
      rfl
    · left
      have n1 := nn_fdiv (nn_l2f (lI (a_V a j))) (l2f_d (s := sm (a_c a) (a_V a)) (by omega) (by omega))
      have ns : ¬ lI (sm (a_c a) (a_V a)) = 0 := by rw [tz]; exact s0
      refine ⟨FP.fdiv (FP.l2f (lI (a_V a j))) (FP.l2f (lI (sm (a_c a) (a_V a)))), ?_, ?_, n1⟩
      · rw [if_neg ns, if_neg (ii_gd (by omega) (by omega)), cs_V h hj hc, if_neg (fun n => n (zn32_of n1))]
      rw [if_neg ns]
      unfold F_X11_share_29
      rw [if_pos (show ((lI (a_V a j), (0 : Int32)) : Int64 × Int32).2 ≤ 0 by show (0 : Int32) ≤ 0; decide), f11_sum (by omega) g hc, zb_some]
      show (if ¬ (zn32 (FP.fdiv (FP.l2f (lI (a_V a j))) (FP.l2f (lI (sm (a_c a) (a_V a)))))) then none else some (FP.fdiv (FP.l2f (lI (a_V a j))) (FP.l2f (lI (sm (a_c a) (a_V a)))), (0 : Int32))) = _
      rw [if_neg (fun n => n (zn32_of n1))]
  · right
    rw [e1, zb_some, zc_err, of_n e2, zb_some]
    refine ⟨3, 1, FP.fconst0, by simp, rfl, ?_⟩
    rw [if_neg (show ¬ (((Int32.toInt64 (-1), 1) : Int64 × Int32).2 = 0) by decide)]
    unfold F_X11_share_29
    rw [if_neg (show ¬ (((Int32.toInt64 (-1), 1) : Int64 × Int32).2 ≤ 0) by decide)]
    rfl
theorem f8_fits {fu : Nat} {st : SS} {a : AS} {B : Int} (h : CR st a) (ho : OKA B a) : ∀ (n k : Nat), k ≤ a_c a → a_c a < n + k → F_X8_fitsSteps_2 fu n st (iI (k : Int)) = some 1 := by
  have hc := ho.1
  intro n
  induction n with
  | zero => intro k _ _; omega
  | succ n ih =>
    intro k hk hn
    unfold F_X8_fitsSteps_2
    rw [h.1, ti_le (by omega) (by omega) (by omega) (by omega)]
    by_cases e : (a_c a : Int) ≤ (k : Int)
    · rw [if_pos e]
    · have hlt : k < a_c a := by omega
      have hv := ho.2.2.2.2.2.2.2.1 k hlt
      have hS := ho.2.2.2.2.2.2.2.2.1 k hlt
      have hd := ho.2.2.2.2.2.2.2.2.2.2.1 k hlt
      rw [if_neg e, if_neg (ii_gd (by omega) (by omega)), if_neg (ii_gd (by omega) (by omega)), cs_S h hlt hc, cs_V h hlt hc, f7_step hS.1 hS.2, zb_some, if_neg (of_eq_false (stp_nz _)), ll_mod hv.1 (by omega), if_pos (by rw [ll_is0]; exact hd), zl_eq, ii_L1, ii_add, ii_nx]
      exact ih (k + 1) (by omega) (by omega)
theorem f10_eag {fu : Nat} (hf : 100 ≤ fu) {st : SS} {a : AS} {B : Int} (h : CR st a) (ho : OKA B a) : ∀ (n k : Nat), k ≤ 5 → 5 < n + k → F_X10_errorsAgree_2 fu n st (iI (k : Int)) = some 1 := by
  intro n
  induction n with
  | zero => intro k _ _; omega
  | succ n ih =>
    intro k hk hn
    unfold F_X10_errorsAgree_2
    rw [ii_L4, ti_lt (by omega) (by omega) (by omega) (by omega)]
    by_cases e : (4 : Int) < (k : Int)
    · rw [if_pos e]
    · rw [if_neg e, f9_best (by omega) h ho (by omega) (by omega), zb_some, f9_err (by omega) h ho (by omega) (by omega), zb_some, f9_least hf h ho (by omega) (by omega), zb_some, if_pos (show lI (er (rs a k) (stp k) (gs (rs a k) (a_c a) (due a k).toNat) (a_c a)) = lI (bst a k) from rfl), zl_eq, ii_L1, ii_add, ii_nx]
      exact ih (k + 1) (by omega) (by omega)
theorem f10_cag {fu : Nat} (hf : 100 ≤ fu) {st : SS} {a : AS} {B : Int} (h : CR st a) (ho : OKA B a) : ∀ (n k : Nat), k ≤ a_c a → a_c a < n + k → F_X10_carriesAgree_10 fu n st (lI 19999) (iI (k : Int)) = some 1 := by
  have hc := ho.1
  intro n
  induction n with
  | zero => intro k _ _; omega
  | succ n ih =>
    intro k hk hn
    unfold F_X10_carriesAgree_10
    rw [h.1, ti_le (by omega) (by omega) (by omega) (by omega)]
    by_cases e : (a_c a : Int) ≤ (k : Int)
    · rw [if_pos e]
    · have hlt : k < a_c a := by omega
      have hv := ho.2.2.2.2.2.2.2.1 k hlt
      rw [if_neg e, if_neg (ii_gd (by omega) (by omega)), zl_eq, cs_V h hlt hc, f10_cp (by omega) hv.1 (by omega) (by omega) (by omega), zb_some, bmT_cnt, zb_some, ct_tk, f10_cds (by omega) hv.1 (by omega) (by omega) (by omega), zb_some, if_pos rfl, zl_eq, ii_L1, ii_add, ii_nx]
      exact ih (k + 1) (by omega) (by omega)
theorem q_cons {fu : Nat} (hf : 100 ≤ fu) {st : SS} {a : AS} {B : Int} (h : CR st a) (ho : OKA B a) : F_X10_isConsistent fu st = some 1 := by
  have hc := ho.1
  unfold F_X10_isConsistent F_X8_fitsSteps F_X10_errorsAgree F_X10_carriesAgree
  have e1 : F_X8_fitsSteps_2 fu fu st 0 = some 1 := f8_fits (fu := fu) h ho fu 0 (by omega) (by omega)
  have e2 : F_X10_errorsAgree_2 fu fu st 0 = some 1 := f10_eag hf h ho fu 0 (by omega) (by omega)
  have e3 : F_X10_carriesAgree_10 fu fu st (lI 19999) 0 = some 1 := f10_cag hf h ho fu 0 (by omega) (by omega)
  have e4 : F_X10_unitsOf 1 9999 = some (lI 19999) := by decide
  rw [f8_sum (by omega) h hc, zb_some, f8_acc h ho, zb_some, if_pos rfl, e1, zb_some, if_neg (by decide), e2, zb_some, if_neg (by decide), e4, zb_some, e3, zb_some, if_neg (by decide)]
