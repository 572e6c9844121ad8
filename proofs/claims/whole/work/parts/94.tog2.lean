-- rounding all together
theorem stp_dvd {x y : Int} (h0 : 0 ≤ x) (h1 : x ≤ y) (h2 : y ≤ 4) : stp y ∣ stp x := by
  have hx : x = 0 ∨ x = 1 ∨ x = 2 ∨ x = 3 ∨ x = 4 := by omega
  have hy : y = 0 ∨ y = 1 ∨ y = 2 ∨ y = 3 ∨ y = 4 := by omega
  rcases hx with e|e|e|e|e <;> rcases hy with e'|e'|e'|e'|e' <;> subst e <;> subst e' <;> first | omega | decide
/-- where number k goes to -/
def gt (a : AS) (s : Int) (u : Nat → Bool) (k : Nat) : Int := a_V a k - rs a s k + (if u k = true then stp s else 0)
def mn (a : AS) (s : Int) (k : Nat) : Int := if s < a_S a k then s else a_S a k
/-- the state when the first k numbers are rounded -/
def rst (a : AS) (s : Int) (u : Nat → Bool) : Nat → AS
  | 0 => a
  | k + 1 => bec (a_I (rst a s u k), a_V (rst a s u k), up (a_S (rst a s u k)) k (mn a s k), a_M (rst a s u k), a_c (rst a s u k), a_n (rst a s u k), a_e (rst a s u k), a_f (rst a s u k), a_A (rst a s u k), a_F (rst a s u k), a_R (rst a s u k)) k (a_V a k) (gt a s u k)
theorem rst_c (a : AS) (s : Int) (u : Nat → Bool) : ∀ k, a_c (rst a s u k) = a_c a := by
  intro k
  induction k with
  | zero => rfl
  | succ k ih => exact ih
theorem rst_V (a : AS) (s : Int) (u : Nat → Bool) : ∀ k i, k ≤ i → a_V (rst a s u k) i = a_V a i := by
  intro k
  induction k with
  | zero => intro i _; rfl
  | succ k ih =>
    intro i hi
    exact (up_n (show i ≠ k by omega)).trans (ih i (by omega))
theorem rst_S (a : AS) (s : Int) (u : Nat → Bool) : ∀ k i, k ≤ i → a_S (rst a s u k) i = a_S a i := by
  intro k
  induction k with
  | zero => intro i _; rfl
  | succ k ih =>
    intro i hi
    exact (up_n (show i ≠ k by omega)).trans (ih i (by omega))
theorem gt_bd {a : AS} {B s : Int} {u : Nat → Bool} (ho : OKA B a) {k : Nat} (hk : k < a_c a) : 0 ≤ gt a s u k ∧ gt a s u k < 20000000000 := by
  have hv := ho.2.2.2.2.2.2.2.1 k hk
  have p := stp_bd s
  have b := rs_bd (a := a) (s := s) k
  have : rs a s k ≤ a_V a k := by
    have e := Int.emod_def (a_V a k) (stp s)
    have := Int.mul_nonneg (show 0 ≤ stp s by omega) (Int.ediv_nonneg hv.1 (show 0 ≤ stp s by omega))
    unfold rs
    omega
  unfold gt
  split <;> omega
theorem gt_md {a : AS} {B s : Int} {u : Nat → Bool} (ho : OKA B a) (hs : 0 ≤ s) (hs' : s ≤ 4) (hu : ∀ i, u i = true → i < a_c a ∧ 0 < rs a s i) {k : Nat} (hk : k < a_c a) : gt a s u k % stp (mn a s k) = 0 := by
  have hS := ho.2.2.2.2.2.2.2.2.1 k hk
  have hd := ho.2.2.2.2.2.2.2.2.2.2.1 k hk
  have e := Int.emod_def (a_V a k) (stp s)
  by_cases h : s < a_S a k
  · have hm : mn a s k = s := if_pos h
    rw [hm]
    apply Int.emod_eq_zero_of_dvd
    unfold gt rs
    refine Int.dvd_add ?_ ?_
    · rw [show a_V a k - a_V a k % stp s = stp s * (a_V a k / stp s) from by omega]
      exact Int.dvd_mul_right _ _
    · split
      · exact Int.dvd_refl _
      · exact Int.dvd_zero _
  · have hm : mn a s k = a_S a k := if_neg h
    have hz : rs a s k = 0 := Int.emod_eq_zero_of_dvd (Int.dvd_trans (stp_dvd hS.1 (show a_S a k ≤ s by omega) hs') (Int.dvd_of_emod_eq_zero hd))
    have hun : ¬ u k = true := fun h' => by have := (hu k h').2; omega
    rw [hm]
    unfold gt
    rw [hz, if_neg hun, show a_V a k - 0 + 0 = a_V a k from by omega]
    exact hd
theorem rst_ok {a : AS} {B s : Int} {u : Nat → Bool} (ho : OKA B a) (hB : B + 10 ≤ 1000000) (hs : 0 ≤ s) (hs' : s ≤ 4) (hu : ∀ i, u i = true → i < a_c a ∧ 0 < rs a s i) : ∀ k, k ≤ a_c a → OKA (B + k) (rst a s u k) := by
  have hc := ho.1
  intro k
  induction k with
  | zero => intro _; rw [show B + ((0 : Nat) : Int) = B from by omega]; exact ho
  | succ k ih =>
    intro hk
    have hok := ih (by omega)
    have ec := rst_c a s u k
    have eV := rst_V a s u k k (by omega)
    have eS := rst_S a s u k k (by omega)
    have hS := ho.2.2.2.2.2.2.2.2.1 k (by omega)
    have hb := gt_bd (s := s) (u := u) ho (show k < a_c a by omega)
    have hm := gt_md ho hs hs' hu (show k < a_c a by omega)
    obtain ⟨o1, o2, o3, o4, o5, o6, o7, o8, o9, o10, o11, o12⟩ := hok
    have q9 : ∀ i, i < a_c (rst a s u k) → 0 ≤ up (a_S (rst a s u k)) k (mn a s k) i ∧ up (a_S (rst a s u k)) k (mn a s k) i ≤ 4 := by
      intro i hi
      by_cases e : i = k
      · rw [e, up_s]; unfold mn; split <;> omega
      · rw [up_n e]; exact o9 i hi
    have q11 : ∀ i, i < a_c (rst a s u k) → i ≠ k → a_V (rst a s u k) i % stp (up (a_S (rst a s u k)) k (mn a s k) i) = 0 := by
      intro i hi hne
      rw [up_n hne]; exact o11 i hi
    have e : sm (a_c (rst a s u k)) (a_V (rst a s u k)) + (a_V a k - a_V (rst a s u k) k) = a_A (rst a s u k) + a_F (rst a s u k) + a_f (rst a s u k) - a_R (rst a s u k) - 10000000000 * a_e (rst a s u k) := by
      rw [eV]; omega
    have hkc : k < a_c (rst a s u k) := by rw [ec]; omega
    have hmm : gt a s u k % stp (up (a_S (rst a s u k)) k (mn a s k) k) = 0 := by rw [up_s]; exact hm
    have := oka_bec (B := B + k) (a := (a_I (rst a s u k), a_V (rst a s u k), up (a_S (rst a s u k)) k (mn a s k), a_M (rst a s u k), a_c (rst a s u k), a_n (rst a s u k), a_e (rst a s u k), a_f (rst a s u k), a_A (rst a s u k), a_F (rst a s u k), a_R (rst a s u k))) (k := k) (s := a_V a k) (r := gt a s u k) hkc o1 o2 o3 o4 o5 (by omega) o7 (fun i hi _ => o8 i hi) q9 o10 q11 e hb.1 hb.2 hmm
    exact this.mono (by omega) (by omega)
theorem mn_iI {a : AS} {s : Int} {k : Nat} (hs : r32 s) (hS : 0 ≤ a_S a k ∧ a_S a k ≤ 4) : (if iI s < iI (a_S a k) then iI s else iI (a_S a k)) = iI (mn a s k) := by
  have a1 := hs.1; have a2 := hs.2
  rw [ti_lt (by omega) (by omega) (by omega) (by omega)]
  unfold mn
  split <;> rfl
theorem mn_lI {a : AS} {s : Int} {k : Nat} (hs : r32 s) (hS : 0 ≤ a_S a k ∧ a_S a k ≤ 4) : (if lI s < lI (a_S a k) then lI s else lI (a_S a k)) = lI (mn a s k) := by
  have a1 := hs.1; have a2 := hs.2
  rw [tl_lt (by omega) (by omega) (by omega) (by omega)]
  unfold mn
  split <;> rfl
theorem f10_rall {fu : Nat} {a : AS} {B s : Int} {u : Nat → Bool} (ho : OKA B a) (hB : B + 10 ≤ 1000000) (hs : 0 ≤ s) (hs' : s ≤ 4) (hu : ∀ i, u i = true → i < a_c a ∧ 0 < rs a s i) : ∀ (n k : Nat) (st : SS), k ≤ a_c a → a_c a < n + k → CR st (rst a s u k) →
    ∃ st', F_X10_roundAll_15 fu n st (iI s) (bm u) (iI (k : Int)) = some (.ok (iI (ct u 6), st')) ∧ CR st' (rst a s u (a_c a)) := by
  have hc := ho.1
  intro n
  induction n with
  | zero => intro k st _ _; omega
  | succ n ih =>
    intro k st hk hn h
    have ec := rst_c a s u k
    unfold F_X10_roundAll_15
    rw [h.1, ec, ti_le (by omega) (by omega) (by omega) (by omega)]
    by_cases e : (a_c a : Int) ≤ (k : Int)
    · obtain rfl : k = a_c a := by omega
      rw [if_pos e, f6_cnt, zb_some]
      exact ⟨st, rfl, h⟩
    · have hlt : k < a_c a := by omega
      have hlt' : k < a_c (rst a s u k) := by rw [ec]; exact hlt
      have hv := ho.2.2.2.2.2.2.2.1 k hlt
      have hS := ho.2.2.2.2.2.2.2.2.1 k hlt
      have hb := gt_bd (s := s) (u := u) ho hlt
      have eV : s_vals st ((iI (k : Int)).toNatClampNeg) = lI (a_V a k) := by rw [cs_V h hlt' (by rw [ec]; exact hc), rst_V a s u k k (by omega)]
      obtain ⟨st1, e1, c1⟩ := f8_become h (by rw [ec]; exact hc) hlt' (s := a_V a k) (r := gt a s u k) hb.1 (by omega)
      have hcc : a_c (bec (rst a s u k) k (a_V a k) (gt a s u k)) ≤ 6 := by show a_c (rst a s u k) ≤ 6; rw [ec]; exact hc
      have eS : s_scs st1 ((iI (k : Int)).toNatClampNeg) = iI (a_S a k) := (cs_S c1 (show k < a_c (bec (rst a s u k) k (a_V a k) (gt a s u k)) from hlt') hcc).trans (congrArg iI (rst_S a s u k k (by omega)))
      have er := f9_rounded (u := u) (k := k) (by omega) hv.1 (show a_V a k < 4000000000000 by omega) hs hs'
      have er' : F_X9_roundedBy (bm u) (iI (k : Int)) (lI (a_V a k)) (iI s) = some (lI (gt a s u k)) := er
      have hg := ii_gd (k := k) (N := 6) (by omega) (by omega)
      obtain ⟨g1, g2, g3, g4, g5, g6, g7, g8, g9, g10, g11, g12⟩ := c1
      have c2 : CR (s_ids st1, s_vals st1, upd (s_scs st1) k (iI (mn a s k)), s_mds st1, s_cnt st1, s_nxt st1, s_esc st1, s_fal st1, s_add st1, s_fed st1, s_rem st1) (rst a s u (k + 1)) := ⟨g1, g2, g3, g4, g5, g6, g7, g8, g9, up_CI g10, g11, g12⟩
      obtain ⟨st', e2, c3⟩ := ih (k + 1) _ (by omega) (by omega) c2
      refine ⟨st', ?_, c3⟩
      rw [if_neg e, if_neg hg, zl_eq, eV, er', zb_some, e1, zb_some, if_neg hg, zl_eq, if_neg hg, zl_eq, eS, mn_iI ⟨by omega, by omega⟩ hS, ii_nc k (by omega), ii_L1, ii_add, ii_nx]
      exact e2
theorem f11_tog21 {fu : Nat} (hf : 10 ≤ fu) {a : AS} {B s : Int} {u : Nat → Bool} {mUp : Nat → Int32} {t x2 : Int32} (ho : OKA B a) (hB : B + 10 ≤ 1000000) (hs : 0 ≤ s) (hs' : s ≤ 4) (hu : ∀ i, u i = true → i < a_c a ∧ 0 < rs a s i) (hU : UR mUp u (a_c a)) : ∀ (n k : Nat) (mm : Nat → Int64), k ≤ a_c a → a_c a < n + k → MR mm (rst a s u k) →
    ∃ mm', F_X11_togetherIt_21 fu n mm t mUp (iI s) x2 (iI (k : Int)) = some (x2, mm', t, mUp) ∧ MR mm' (rst a s u (a_c a)) := by
  have hc := ho.1
  intro n
  induction n with
  | zero => intro k mm _ _; omega
  | succ n ih =>
    intro k mm hk hn h
    have ec := rst_c a s u k
    unfold F_X11_togetherIt_21
    rw [f11_many h, zb_some, ec, ti_le (by omega) (by omega) (by omega) (by omega)]
    by_cases e : (a_c a : Int) ≤ (k : Int)
    · obtain rfl : k = a_c a := by omega
      rw [if_pos e]
      exact ⟨mm, rfl, h⟩
    · have hlt : k < a_c a := by omega
      have hlt' : k < a_c (rst a s u k) := by rw [ec]; exact hlt
      have hc' : a_c (rst a s u k) ≤ 6 := by rw [ec]; exact hc
      have hv := ho.2.2.2.2.2.2.2.1 k hlt
      have hS := ho.2.2.2.2.2.2.2.2.1 k hlt
      have hb := gt_bd (s := s) (u := u) ho hlt
      have hok := rst_ok (u := u) ho hB hs hs' hu k (by omega)
      have eV0 := rst_V a s u k k (by omega)
      have eS0 := rst_S a s u k k (by omega)
      have er : F_X11_rest fu mm (iI (k : Int)) (iI s) = some (lI (rs a s k)) := by
        rw [f11_rest (by omega) h hok hlt' hs hs']
        unfold rs; rw [eV0]
      have eV : mm ((iI (4 + 4 * (k : Int)) + 1).toNatClampNeg) = lI (a_V a k) := by rw [ms_1 h hlt' hc', eV0]
      have g' := MR_S (MR_bec h k (a_V a k) (gt a s u k)) k (mn a s k)
      obtain ⟨mm', e2, c3⟩ := ih (k + 1) _ (by omega) (by omega) g'
      refine ⟨mm', ?_, c3⟩
      rw [if_neg e, f11_at, zb_some, if_neg (of_eq_false (at_1 (show k < 6 by omega))), er, zb_some, if_neg (ii_gd (by omega) (by omega)), ii_nc k (by omega), hU k hlt, eV]
      have em : ∀ y : Int, a_V a k - rs a s k + y = gt a s u k → F_X11_togetherIt_64 (F_X11_togetherIt_21 fu n) fu mm t mUp (iI s) x2 (iI (k : Int)) (lI (a_V a k) - lI (rs a s k)) (lI y) = some (x2, mm', t, mUp) := by
        intro y hy
        have t3 : Int32.toNatClampNeg 3 = 3 := by decide
        have t2 : Int32.toNatClampNeg 2 = 2 := by decide
        have g2 : ((2 : Int32) < 0 ∨ 28 ≤ 2) = False := by decide
        have d0 : lI (a_V a k) - lI (rs a s k) + lI y = lI (gt a s u k) := by rw [ll_sub, ll_add, hy]
        have d1 := ll_sub (gt a s u k) (a_V a k)
        have d2 := ll_add (a_f (rst a s u k)) (gt a s u k - a_V a k)
        have d3 := ll_sub (gt a s u k) 10000000000
        have d4 := ll_add (a_e (rst a s u k)) 0
        have d5 := ll_add (a_e (rst a s u k)) 1
        have e3 : vp_updL mm 3 (lI (a_f (rst a s u k) + (gt a s u k - a_V a k))) 2 = lI (a_e (rst a s u k)) := h.2.2.1
        have eI : Int32.toInt64 (iI s) = lI s := ii_toL (by omega) (by omega)
        have eS : ∀ x : Int64, ∀ y : Int64, ∀ w : Int64, vp_updL (vp_updL (vp_updL mm 3 x) 2 y) (4 + 4 * k + 1) w (4 + 4 * k + 2) = lI (a_S a k) := by
          intro x y w
          rw [up_L, if_neg (by omega), up_L, if_neg (by omega), up_L, if_neg (by omega), h.2.2.2.2.2.2.1 k hlt', eS0]
        have hmn := mn_lI (a := a) (s := s) (k := k) ⟨by omega, by omega⟩ hS
        have hnx : iI (k : Int) + 1 = iI ((k + 1 : Nat) : Int) := by rw [ii_L1, ii_add]; rfl
        by_cases hw : gt a s u k < 10000000000
        · have hl : lI (gt a s u k) < 10000000000 := by rw [ll_L10000000000, ll_lt (by omega) (by omega) (by omega) (by omega)]; exact hw
          simp only [F_X11_togetherIt_64, F_X11_togetherIt_111, F_X11_togetherIt_143, zl_eq, f11_at, zb_some, at_1 (show k < 6 by omega), at_2 (show k < 6 by omega), at_1x (show k < 6 by omega), at_2x (show k < 6 by omega), if_false, eV, d0, d1, t3, t2, h.2.2.2.1, d2, g2, at_n1 (show k < 6 by omega), at_n2 (show k < 6 by omega), h.2.2.2.2.2.1 k hlt', eV0, if_pos hl, if_pos hw, e3, ll_L0, d4, zi_z, eI, eS, hmn, hnx]
          simp only [if_pos hw] at e2
          exact e2
        · have hl' : ¬ lI (gt a s u k) < lI 10000000000 := by rw [ll_lt (by omega) (by omega) (by omega) (by omega)]; exact hw
          have hl : ¬ lI (gt a s u k) < 10000000000 := by rw [ll_L10000000000]; exact hl'
          simp only [F_X11_togetherIt_64, F_X11_togetherIt_111, F_X11_togetherIt_143, zl_eq, f11_at, zb_some, at_1 (show k < 6 by omega), at_2 (show k < 6 by omega), at_1x (show k < 6 by omega), at_2x (show k < 6 by omega), if_false, eV, d0, d1, t3, t2, h.2.2.2.1, d2, g2, at_n1 (show k < 6 by omega), at_n2 (show k < 6 by omega), h.2.2.2.2.2.1 k hlt', eV0, if_neg hl, if_neg hl', if_neg hw, e3, ll_L1, d5, ll_L10000000000, d3, eI, eS, hmn, hnx]
          simp only [if_neg hw] at e2
          exact e2
      cases huk : u k with
      | true =>
        rw [if_neg (show ¬ iI (b2i true) = 0 by decide), f11_step hs hs' (by omega), zb_some]
        exact em (stp s) (by unfold gt; rw [if_pos huk])
      | false =>
        rw [if_pos (show iI (b2i false) = 0 by decide), ll_L0]
        exact em 0 (by unfold gt; rw [if_neg (by rw [huk]; decide)])
def CHT (L : List (Nat × Int)) (B : Int) (st : SS) (mm : Nat → Int64) (t : Int32) (x : Option (Except (Nat × SS) (Int32 × SS))) (y : Option (Int32 × (Nat → Int64) × Int32 × (Nat → Int32))) : Prop :=
  (∃ e k q w, (e, k) ∈ L ∧ x = some (.error (e, st)) ∧ y = some (q, mm, iI k, w)) ∨ ∃ r st' mm' a' w, x = some (.ok (r, st')) ∧ y = some (r, mm', t, w) ∧ CR st' a' ∧ MR mm' a' ∧ OKA (B + 10) a'
theorem c_tog {fu : Nat} (hf : 30 ≤ fu) {st : SS} {mm : Nat → Int64} {a : AS} {B : Int} (h : CR st a) (g : MR mm a) (ho : OKA B a) (hB : B + 10 ≤ 1000000) (t : Int32) (mUp : Nat → Int32) {s : Int} (hs : r32 s) : CHT [(0, 1)] B st mm t (F_X10_roundAll fu st (iI s)) (F_X11_togetherIt fu mm t mUp (iI s)) := by
  have hc := ho.1
  unfold F_X10_roundAll F_X11_togetherIt
  by_cases hS : scl s
  · obtain ⟨mUp', e1, hU⟩ := f11_chooses (fu := fu) (by omega) g ho hS.1 hS.2 mUp
    have hg := gs_due a s
    have hu : ∀ i, gs (rs a s) (a_c a) (due a s).toNat i = true → i < a_c a ∧ 0 < rs a s i := hg.2.1
    obtain ⟨st', e2, c2⟩ := f10_rall (fu := fu) ho hB hS.1 hS.2 hu fu 0 st (by omega) (by omega) h
    obtain ⟨mm', e3, c3⟩ := f11_tog21 (fu := fu) (by omega) (t := t) (x2 := iI (due a s)) ho hB hS.1 hS.2 hu hU fu 0 mm (by omega) (by omega) g
    have hct : ct (gs (rs a s) (a_c a) (due a s).toNat) 6 = due a s := by
      have hd := due_bd (a := a) (s := s)
      rw [← ct_6 hc (fun i hi => (hu i hi).1), hg.1]; omega
    rw [hct] at e2
    have e2' : F_X10_roundAll_15 fu fu st (iI s) (bm (gs (rs a s) (a_c a) (due a s).toNat)) 0 = some (.ok (iI (due a s), st')) := e2
    have e3' : F_X11_togetherIt_21 fu fu mm t mUp' (iI s) (iI (due a s)) 0 = some (iI (due a s), mm', t, mUp') := e3
    simp only [zb_some, zc_ok, zc_err, zl_eq, f11_throw, i1_0, i0_0, im_m, if_true, if_false, not_true_eq_false, not_false_eq_true, f10_scl hs hS, f11_scl hs hS, f9_best (show 20 ≤ fu by omega) h ho hS.1 hS.2, e1, e2', e3']
    exact Or.inr ⟨_, st', mm', _, mUp', rfl, rfl, c2, c3, (rst_ok ho hB hS.1 hS.2 hu (a_c a) (Nat.le_refl _)).mono (by omega) hB⟩
  · simp only [zb_some, zc_ok, zc_err, zl_eq, f11_throw, i1_0, i0_0, im_m, if_true, if_false, not_true_eq_false, not_false_eq_true, f10_sclN hs hS, f11_sclN hs hS]
    exact Or.inl ⟨0, 1, _, mUp, by simp, rfl, rfl⟩
