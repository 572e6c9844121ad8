-- a number comes, a number goes; sums
def ent (a : AS) (v s m : Int) : AS := (up (a_I a) (a_c a) (a_n a), up (a_V a) (a_c a) v, up (a_S a) (a_c a) s, up (a_M a) (a_c a) m, a_c a + 1, a_n a + 1, a_e a, a_f a, a_A a + v, a_F a, a_R a)
def tak (a : AS) (j : Nat) : AS := (rm (a_I a) j, rm (a_V a) j, rm (a_S a) j, rm (a_M a) j, a_c a - 1, a_n a, a_e a, a_f a, a_A a, a_F a, a_R a + a_V a j)
theorem up_D {α : Type} {f : Nat → α} {F : Int → α} {g : Nat → Int} {c : Nat} {x : Int} (h : ∀ k, k < c → f k = F (g k)) : ∀ k, k < c + 1 → (if k = c then F x else f k) = F (up g c x k) := by
  intro k hk
  by_cases e : k = c
  · rw [if_pos e, e, up_s]
  · rw [if_neg e, up_n e]; exact h k (by omega)
theorem up_DL {f : Nat → Int64} {g : Nat → Int} {c : Nat} {x : Int} (h : ∀ k, k < c → f k = lI (g k)) : ∀ k, k < c + 1 → vp_updL f c (lI x) k = lI (up g c x k) := up_D h
theorem up_DI {f : Nat → Int32} {g : Nat → Int} {c : Nat} {x : Int} (h : ∀ k, k < c → f k = iI (g k)) : ∀ k, k < c + 1 → upd f c (iI x) k = iI (up g c x k) := up_D h
theorem ch_fit {m : Int} (h : 0 ≤ m) (h' : m ≤ 65535) : 0 ≤ iI m ∧ iI m ≤ 65535 := by
  rw [ii_L0, ii_L65535, ii_le (by omega) (by omega) (by omega) (by omega), ii_le (by omega) (by omega) (by omega) (by omega)]
  exact ⟨h, h'⟩
theorem f8_enter {st : SS} {a : AS} (h : CR st a) (hc : a_c a < 6) {v s m : Int} (hm : 0 ≤ m ∧ m ≤ 65535) : ∃ st', F_X8_enter st (lI v) (iI s) (iI m) = some (iI (a_n a), st') ∧ CR st' (ent a v s m) := by
  obtain ⟨h1, h2, h3, h4, h5, h6, h7, h8, h9, h10, h11, h12⟩ := h
  have g1 : ¬ (iI (a_c a : Int) < 0 ∨ 6 ≤ (iI (a_c a : Int)).toNatClampNeg) := ii_gd hc (by omega)
  unfold F_X8_enter ent
  rw [h1, if_neg g1, if_neg g1, if_neg g1, if_neg g1, ii_nc _ (by omega), h2, h5, ll_add, ii_L1, ii_add, ii_add, nr_id hm.1 hm.2, ii_nx]
  refine ⟨_, rfl, rfl, rfl, h3, h4, rfl, h6, h7, up_DI h8, up_DL h9, up_DI h10, up_DI h11, ?_⟩
  intro k hk
  show 0 ≤ upd (s_mds st) (a_c a) (iI m) k ∧ upd (s_mds st) (a_c a) (iI m) k ≤ 65535
  by_cases e : k = a_c a
  · rw [up_I, if_pos e]; exact ch_fit hm.1 hm.2
  · rw [up_I, if_neg e]; exact h12 k hk
theorem f11_takesIn {mm : Nat → Int64} {a : AS} (h : MR mm a) (hc : a_c a < 6) {v s m : Int} (hs : r32 s) (hm : r32 m) : ∃ mm', F_X11_takesIn mm (lI v) (iI s) (iI m) = some (iI (a_n a), mm') ∧ MR mm' (ent a v s m) := by
  have hh := h
  obtain ⟨h1, h2, h3, h4, h5, h6, h7, h8⟩ := h
  have q0 : (iI (4 + 4 * (a_c a : Int))).toNatClampNeg = 4 + 4 * a_c a := by rw [ii_nat (by omega) (by omega), tn_0]
  have q1 : (iI (4 + 4 * (a_c a : Int) + 1)).toNatClampNeg = 4 + 4 * a_c a + 1 := by rw [ii_nat (by omega) (by omega), tn_1]
  have q2 : (iI (4 + 4 * (a_c a : Int) + 2)).toNatClampNeg = 4 + 4 * a_c a + 2 := by rw [ii_nat (by omega) (by omega), tn_2]
  have q3 : (iI (4 + 4 * (a_c a : Int) + 3)).toNatClampNeg = 4 + 4 * a_c a + 3 := by rw [ii_nat (by omega) (by omega), tn_3]
  have g0 : ¬ (iI (4 + 4 * (a_c a : Int)) < 0 ∨ 28 ≤ (iI (4 + 4 * (a_c a : Int))).toNatClampNeg) := ii_gi (by omega) (by omega) (by omega)
  have g1 : ¬ (iI (4 + 4 * (a_c a : Int) + 1) < 0 ∨ 28 ≤ (iI (4 + 4 * (a_c a : Int) + 1)).toNatClampNeg) := ii_gi (by omega) (by omega) (by omega)
  have g2 : ¬ (iI (4 + 4 * (a_c a : Int) + 2) < 0 ∨ 28 ≤ (iI (4 + 4 * (a_c a : Int) + 2)).toNatClampNeg) := ii_gi (by omega) (by omega) (by omega)
  have g3 : ¬ (iI (4 + 4 * (a_c a : Int) + 3) < 0 ∨ 28 ≤ (iI (4 + 4 * (a_c a : Int) + 3)).toNatClampNeg) := ii_gi (by omega) (by omega) (by omega)
  have t0 : (0 : Int32).toNatClampNeg = 0 := rfl
  have t1 : (1 : Int32).toNatClampNeg = 1 := rfl
  unfold F_X11_takesIn ent
  rw [f11_many hh, zb_some, f11_at, zb_some, ii_L1, ii_L2, ii_L3, ii_add, ii_add, ii_add, if_neg g0, if_neg g1, if_neg g2, if_neg g3, zl_eq, zl_eq, if_neg g0, q0, q1, q2, q3, t0, ← ii_L1, t1, ii_toL hs.1 hs.2, ii_toL hm.1 hm.2, h2]
  have e0 : vp_updL (vp_updL (vp_updL (vp_updL mm (4 + 4 * a_c a) (lI (a_n a))) (4 + 4 * a_c a + 1) (lI v)) (4 + 4 * a_c a + 2) (lI s)) (4 + 4 * a_c a + 3) (lI m) 0 = lI (a_c a : Int) := by
    rw [up_L, if_neg (by omega), up_L, if_neg (by omega), up_L, if_neg (by omega), up_L, if_neg (by omega)]; exact h1
  rw [e0, ll_L1, ll_add]
  have e1 : vp_updL (vp_updL (vp_updL (vp_updL (vp_updL mm (4 + 4 * a_c a) (lI (a_n a))) (4 + 4 * a_c a + 1) (lI v)) (4 + 4 * a_c a + 2) (lI s)) (4 + 4 * a_c a + 3) (lI m)) 0 (lI ((a_c a : Int) + 1)) 1 = lI (a_n a) := by
    rw [up_L, if_neg (by omega), up_L, if_neg (by omega), up_L, if_neg (by omega), up_L, if_neg (by omega), up_L, if_neg (by omega)]; exact h2
  rw [e1, ll_add]
  refine ⟨vp_updL (vp_updL (vp_updL (vp_updL (vp_updL (vp_updL mm (4 + 4 * a_c a) (lI (a_n a))) (4 + 4 * a_c a + 1) (lI v)) (4 + 4 * a_c a + 2) (lI s)) (4 + 4 * a_c a + 3) (lI m)) 0 (lI ((a_c a : Int) + 1))) 1 (lI (a_n a + 1)), ?_, ?_⟩
  · congr 2
    rw [up_L, if_neg (by omega), up_L, if_neg (by omega), up_L, if_neg (by omega), up_L, if_neg (by omega), up_L, if_neg (by omega), up_L, if_pos rfl, ll_toI]
  · refine ⟨?_, ?_, ?_, ?_, fun k hk => ?_, fun k hk => ?_, fun k hk => ?_, fun k hk => ?_⟩
    · rw [up_L, if_neg (by omega), up_L, if_pos rfl]; rfl
    · rw [up_L, if_pos rfl]
    · rw [up_L, if_neg (by omega), up_L, if_neg (by omega), up_L, if_neg (by omega), up_L, if_neg (by omega), up_L, if_neg (by omega), up_L, if_neg (by omega)]; exact h3
    · rw [up_L, if_neg (by omega), up_L, if_neg (by omega), up_L, if_neg (by omega), up_L, if_neg (by omega), up_L, if_neg (by omega), up_L, if_neg (by omega)]; exact h4
    · have hk' : k < a_c a + 1 := hk
      rw [up_L, if_neg (by omega), up_L, if_neg (by omega), up_L, if_neg (by omega), up_L, if_neg (by omega), up_L, if_neg (by omega), up_L]
      show _ = lI (up (a_I a) (a_c a) (a_n a) k)
      by_cases e : k = a_c a
      · rw [if_pos (by omega), e, up_s]
      · rw [if_neg (by omega), up_n e]; exact h5 k (by omega)
    · have hk' : k < a_c a + 1 := hk
      rw [up_L, if_neg (by omega), up_L, if_neg (by omega), up_L, if_neg (by omega), up_L, if_neg (by omega), up_L]
      show _ = lI (up (a_V a) (a_c a) v k)
      by_cases e : k = a_c a
      · rw [if_pos (by omega), e, up_s]
      · rw [if_neg (by omega), up_n e, up_L, if_neg (by omega)]; exact h6 k (by omega)
    · have hk' : k < a_c a + 1 := hk
      rw [up_L, if_neg (by omega), up_L, if_neg (by omega), up_L, if_neg (by omega), up_L]
      show _ = lI (up (a_S a) (a_c a) s k)
      by_cases e : k = a_c a
      · rw [if_pos (by omega), e, up_s]
      · rw [if_neg (by omega), up_n e, up_L, if_neg (by omega), up_L, if_neg (by omega)]; exact h7 k (by omega)
    · have hk' : k < a_c a + 1 := hk
      rw [up_L, if_neg (by omega), up_L, if_neg (by omega), up_L]
      show _ = lI (up (a_M a) (a_c a) m k)
      by_cases e : k = a_c a
      · rw [if_pos (by omega), e, up_s]
      · rw [if_neg (by omega), up_n e, up_L, if_neg (by omega), up_L, if_neg (by omega), up_L, if_neg (by omega)]; exact h8 k (by omega)
/-- places from k on taken one down, up to before j -/
def shf (g : Nat → Int) (k j : Nat) : Nat → Int := fun i => if k ≤ i ∧ i + 1 < j then g (i + 1) else g i
theorem shf_0 (g : Nat → Int) (k : Nat) : shf g k (k + 1) = g := funext fun i => if_neg (by omega)
theorem shf_end (g : Nat → Int) {k c i : Nat} (h : i < c - 1) : shf g k c i = rm g k i := by
  unfold shf rm
  by_cases e : i < k
  · rw [if_neg (by omega), if_pos e]
  · rw [if_pos (by omega), if_neg e]
theorem shf_st {α : Type} {f : Nat → α} {F : Int → α} {g : Nat → Int} {k j c : Nat} (hk : k < j) (hj : j < c) (h : ∀ i, i < c → f i = F (shf g k j i)) : ∀ i, i < c → (if i = j - 1 then f j else f i) = F (shf g k (j + 1) i) := by
  intro i hi
  by_cases e : i = j - 1
  · rw [if_pos e, h j hj]
    unfold shf
    rw [if_neg (by omega), if_pos (by omega), e, show j - 1 + 1 = j from by omega]
  · rw [if_neg e, h i hi]
    unfold shf
    by_cases e2 : k ≤ i ∧ i + 1 < j
    · rw [if_pos e2, if_pos (by omega)]
    · rw [if_neg e2, if_neg (by omega)]
theorem f8_takeOut2 {fu : Nat} {a : AS} (hc : a_c a ≤ 6) {k : Nat} (hk : k < a_c a) (hM : ∀ i, i < a_c a → 0 ≤ a_M a i ∧ a_M a i ≤ 65535) : ∀ (n j : Nat) (st : SS), k < j → j ≤ a_c a → a_c a < n + j → CR st (shf (a_I a) k j, shf (a_V a) k j, shf (a_S a) k j, shf (a_M a) k j, a_c a, a_n a, a_e a, a_f a, a_A a, a_F a, a_R a) →
    ∃ st', F_X8_takeOut_12 fu n st (lI (a_V a k)) (iI (j : Int)) = some (lI (a_V a k), st') ∧ CR st' (tak a k) := by
  intro n
  induction n with
  | zero => intro j st _ _ _; omega
  | succ n ih =>
    intro j st hkj hj hn h
    obtain ⟨h1, h2, h3, h4, h5, h6, h7, h8, h9, h10, h11, h12⟩ := h
    unfold F_X8_takeOut_12
    have h1' : s_cnt st = iI (a_c a : Int) := h1
    rw [h1', ti_le (by omega) (by omega) (by omega) (by omega)]
    by_cases hc' : (a_c a : Int) ≤ (j : Int)
    · have ej : j = a_c a := by omega
      rw [if_pos hc', h7, ll_add, ii_L1, ii_sub]
      refine ⟨_, rfl, ?_, h2, h3, h4, h5, h6, rfl, ?_, ?_, ?_, ?_, h12⟩
      · show iI ((a_c a : Int) - 1) = iI ((a_c a - 1 : Nat) : Int)
        congr 1; omega
      · intro i hi
        have hi' : i < a_c a - 1 := hi
        have := h8 i (show i < a_c a by omega)
        rw [show _ = _ from this]
        show iI (shf (a_I a) k j i) = iI (rm (a_I a) k i)
        rw [ej, shf_end _ hi']
      · intro i hi
        have hi' : i < a_c a - 1 := hi
        have := h9 i (show i < a_c a by omega)
        rw [show _ = _ from this]
        show lI (shf (a_V a) k j i) = lI (rm (a_V a) k i)
        rw [ej, shf_end _ hi']
      · intro i hi
        have hi' : i < a_c a - 1 := hi
        have := h10 i (show i < a_c a by omega)
        rw [show _ = _ from this]
        show iI (shf (a_S a) k j i) = iI (rm (a_S a) k i)
        rw [ej, shf_end _ hi']
      · intro i hi
        have hi' : i < a_c a - 1 := hi
        have := h11 i (show i < a_c a by omega)
        rw [show _ = _ from this]
        show iI (shf (a_M a) k j i) = iI (rm (a_M a) k i)
        rw [ej, shf_end _ hi']
    · have g0 : ¬ (iI (j : Int) < 0 ∨ 6 ≤ (iI (j : Int)).toNatClampNeg) := ii_gd (by omega) (by omega)
      have e1 : iI (j : Int) - 1 = iI ((j - 1 : Nat) : Int) := by rw [ii_L1, ii_sub]; congr 1; omega
      have g1 : ¬ (iI ((j - 1 : Nat) : Int) < 0 ∨ 6 ≤ (iI ((j - 1 : Nat) : Int)).toNatClampNeg) := ii_gd (by omega) (by omega)
      rw [if_neg hc', e1, if_neg g0, if_neg g1, if_neg g0, if_neg g1, if_neg g0, if_neg g1, if_neg g0, if_neg g1, zl_eq, ii_L1, ii_add, ii_nx, ii_nc j (by omega), ii_nc (j - 1) (by omega), nr_id' (h12 j (by omega))]
      refine ih (j + 1) _ (by omega) (by omega) (by omega) ⟨rfl, h2, h3, h4, h5, h6, h7, shf_st hkj (show j < a_c a by omega) h8, shf_st hkj (show j < a_c a by omega) h9, shf_st hkj (show j < a_c a by omega) h10, shf_st hkj (show j < a_c a by omega) h11, ?_⟩
      intro i hi
      show 0 ≤ upd (s_mds st) (j - 1) (s_mds st j) i ∧ upd (s_mds st) (j - 1) (s_mds st j) i ≤ 65535
      by_cases e : i = j - 1
      · rw [up_I, if_pos e]; exact h12 j (by omega)
      · rw [up_I, if_neg e]; exact h12 i hi
theorem f8_takeOut {fu : Nat} (hf : 10 ≤ fu) {st : SS} {a : AS} (h : CR st a) (hc : a_c a ≤ 6) {k : Nat} (hk : k < a_c a) (hM : ∀ i, i < a_c a → 0 ≤ a_M a i ∧ a_M a i ≤ 65535) : ∃ st', F_X8_takeOut fu st (iI (k : Int)) = some (lI (a_V a k), st') ∧ CR st' (tak a k) := by
  unfold F_X8_takeOut
  rw [if_neg (ii_gd (by omega) (by omega)), zl_eq, zl_eq, ii_nc k (by omega), h.2.2.2.2.2.2.2.2.1 k hk, ii_L1, ii_add, ii_nx]
  refine f8_takeOut2 hc hk hM fu (k + 1) st (by omega) (by omega) (by omega) ?_
  rw [shf_0, shf_0, shf_0, shf_0]
  exact h
theorem f11_free3 {fu : Nat} {mm : Nat → Int64} {t : Int32} {x : Int64} {c : Nat} (hc : c ≤ 6) : ∀ (n j : Nat) (mm : Nat → Int64), 24 ≤ j → j ≤ 28 → 28 < n + j → mm 0 = lI (c : Int) → ∃ mm', F_X11_freeIt_69 fu n mm t x (iI (j : Int)) = some (x, mm', t) ∧ mm' 0 = lI ((c : Int) - 1) ∧ ∀ i, 0 < i → i < 24 → mm' i = mm i := by
  intro n
  induction n with
  | zero => intro j mm _ _ _; omega
  | succ n ih =>
    intro j mm h1 h2 hn h0
    have t0 : (0 : Int32).toNatClampNeg = 0 := rfl
    unfold F_X11_freeIt_69
    rw [ii_L28, ti_le (by omega) (by omega) (by omega) (by omega)]
    by_cases hj : (28 : Int) ≤ (j : Int)
    · rw [if_pos hj, t0, h0, ll_L1, ll_sub]
      refine ⟨_, rfl, ?_, fun i hi hi' => ?_⟩
      · rw [up_L, if_pos rfl]
      · rw [up_L, if_neg (by omega)]
    · rw [if_neg hj, if_neg (ii_gd (by omega) (by omega)), zl_eq, ii_L1, ii_add, ii_nx, ii_nc j (by omega)]
      obtain ⟨mm', e, z0, z1⟩ := ih (j + 1) (vp_updL mm j 0) (by omega) (by omega) (by omega) (by rw [up_L, if_neg (by omega)]; exact h0)
      refine ⟨mm', e, z0, fun i hi hi' => ?_⟩
      rw [z1 i hi hi', up_L, if_neg (by omega)]
theorem f11_free2 {fu : Nat} (hf : 10 ≤ fu) {t : Int32} {x : Int64} {c k : Nat} (hc : c ≤ 6) {m0 : Nat → Int64} : ∀ (n j : Nat) (mm : Nat → Int64), 4 + 4 * k ≤ j → j ≤ 24 → 24 < n + j → mm 0 = lI (c : Int) → (∀ i, i < 4 → mm i = m0 i) → (∀ i, 4 ≤ i → i < 28 → mm i = if 4 + 4 * k ≤ i ∧ i < j then m0 (i + 4) else m0 i) →
    ∃ mm', F_X11_freeIt_36 fu n mm t x (iI (j : Int)) = some (x, mm', t) ∧ mm' 0 = lI ((c : Int) - 1) ∧ (∀ i, 0 < i → i < 4 → mm' i = m0 i) ∧ ∀ i, 4 ≤ i → i < 24 → mm' i = if 4 + 4 * k ≤ i then m0 (i + 4) else m0 i := by
  intro n
  induction n with
  | zero => intro j mm _ _ _; omega
  | succ n ih =>
    intro j mm h1 h2 hn h0 hl hh
    unfold F_X11_freeIt_36
    rw [show (24 : Int32) = iI ((24 : Nat) : Int) from rfl, ti_le (by omega) (by omega) (by omega) (by omega)]
    by_cases hj : ((24 : Nat) : Int) ≤ (j : Int)
    · rw [if_pos hj]
      obtain ⟨mm', e, z0, z1⟩ := f11_free3 (fu := fu) (mm := mm) (t := t) (x := x) hc fu 24 mm (by omega) (by omega) (by omega) h0
      refine ⟨mm', e, z0, fun i hi hi' => ?_, fun i hi hi' => ?_⟩
      · rw [z1 i hi (by omega)]; exact hl i hi'
      · rw [z1 i (by omega) hi', hh i hi (by omega)]
        by_cases e : 4 + 4 * k ≤ i
        · rw [if_pos e, if_pos (by omega)]
        · rw [if_neg e, if_neg (by omega)]
    · have e4 : iI (j : Int) + 4 = iI ((j + 4 : Nat) : Int) := by rw [ii_L4, ii_add]; rfl
      rw [if_neg hj, e4, if_neg (ii_gd (by omega) (by omega)), if_neg (ii_gd (by omega) (by omega)), zl_eq, ii_L1, ii_add, ii_nx, ii_nc j (by omega), ii_nc (j + 4) (by omega)]
      refine ih (j + 1) _ (by omega) (by omega) (by omega) ?_ (fun i hi => ?_) (fun i hi hi' => ?_)
      · rw [up_L, if_neg (by omega)]; exact h0
      · rw [up_L, if_neg (by omega)]; exact hl i hi
      · rw [up_L]
        by_cases e : i = j
        · rw [if_pos e, if_pos (by omega), hh (j + 4) (by omega) (by omega), if_neg (by omega), e]
        · rw [if_neg e, hh i hi hi']
          by_cases e2 : 4 + 4 * k ≤ i ∧ i < j
          · rw [if_pos e2, if_pos (by omega)]
          · rw [if_neg e2, if_neg (by omega)]
theorem rm_M {mm m0 : Nat → Int64} {g : Nat → Int} {k c b : Nat} (hb : b < 4) (hc : c ≤ 6) (h : ∀ i, i < c → m0 (4 + 4 * i + b) = lI (g i)) (H : ∀ i, 4 ≤ i → i < 24 → mm i = if 4 + 4 * k ≤ i then m0 (i + 4) else m0 i) : ∀ i, i < c - 1 → mm (4 + 4 * i + b) = lI (rm g k i) := by
  intro i hi
  rw [H _ (by omega) (by omega)]
  unfold rm
  by_cases e : i < k
  · rw [if_neg (by omega), if_pos e]; exact h i (by omega)
  · rw [if_pos (by omega), if_neg e, ← h (i + 1) (by omega)]; congr 1; omega
theorem f11_free {fu : Nat} (hf : 30 ≤ fu) {mm : Nat → Int64} {a : AS} (h : MR mm a) (hc : a_c a ≤ 6) {k : Nat} (hk : k < a_c a) {t : Int32} {x : Int64} : ∃ mm', F_X11_freeIt_36 fu fu mm t x (iI (4 + 4 * (k : Int))) = some (x, mm', t) ∧ MR mm' (tak a k) := by
  obtain ⟨h1, h2, h3, h4, h5, h6, h7, h8⟩ := h
  obtain ⟨mm', e, z0, z1, z2⟩ := f11_free2 (fu := fu) (by omega) (t := t) (x := x) (k := k) hc (m0 := mm) fu (4 + 4 * k) mm (by omega) (by omega) (by omega) h1 (fun _ _ => rfl) (fun i _ _ => (if_neg (by omega)).symm)
  refine ⟨mm', e, ?_, ?_, ?_, ?_, rm_M (b := 0) (by omega) hc h5 z2, rm_M (b := 1) (by omega) hc h6 z2, rm_M (b := 2) (by omega) hc h7 z2, rm_M (b := 3) (by omega) hc h8 z2⟩
  · rw [z0]; show lI ((a_c a : Int) - 1) = lI ((a_c a - 1 : Nat) : Int); congr 1; omega
  · rw [z1 1 (by omega) (by omega)]; exact h2
  · rw [z1 2 (by omega) (by omega)]; exact h3
  · rw [z1 3 (by omega) (by omega)]; exact h4
/-- the sums -/
theorem f8_sum4 {fu : Nat} {st : SS} {a : AS} (h : CR st a) (hc : a_c a ≤ 6) : ∀ (n k : Nat), k ≤ a_c a → a_c a < n + k → F_X8_sumOfValues_4 fu n st (lI (sm k (a_V a))) (iI (k : Int)) = some (lI (sm (a_c a) (a_V a))) := by
  intro n
  induction n with
  | zero => intro k _ _; omega
  | succ n ih =>
    intro k hk hn
    unfold F_X8_sumOfValues_4
    rw [h.1, ti_le (by omega) (by omega) (by omega) (by omega)]
    by_cases e : (a_c a : Int) ≤ (k : Int)
    · rw [if_pos e, show k = a_c a from by omega]
    · rw [if_neg e, if_neg (ii_gd (by omega) (by omega)), zl_eq, zl_eq, ii_nc k (by omega), h.2.2.2.2.2.2.2.2.1 k (by omega), ll_add, ii_L1, ii_add, ii_nx]
      exact ih (k + 1) (by omega) (by omega)
theorem f8_sum {fu : Nat} (hf : 10 ≤ fu) {st : SS} {a : AS} (h : CR st a) (hc : a_c a ≤ 6) : F_X8_sumOfValues fu st = some (lI (sm (a_c a) (a_V a))) := f8_sum4 h hc fu 0 (by omega) (by omega)
theorem f11_sum4 {fu : Nat} {mm : Nat → Int64} {a : AS} (h : MR mm a) (hc : a_c a ≤ 6) : ∀ (n k : Nat), k ≤ a_c a → a_c a < n + k → F_X11_sum_4 fu n mm (lI (sm k (a_V a))) (iI (k : Int)) = some (lI (sm (a_c a) (a_V a))) := by
  intro n
  induction n with
  | zero => intro k _ _; omega
  | succ n ih =>
    intro k hk hn
    unfold F_X11_sum_4
    rw [f11_many h, zb_some, ti_le (by omega) (by omega) (by omega) (by omega)]
    by_cases e : (a_c a : Int) ≤ (k : Int)
    · rw [if_pos e, show k = a_c a from by omega]
    · rw [if_neg e, f11_at, zb_some, ii_L1, ii_add, if_neg (ii_gi (by omega) (by omega) (by omega)), zl_eq, zl_eq, ii_nat (by omega) (by omega), tn_1, h.2.2.2.2.2.1 k (by omega), ll_add, ii_add, ii_nx]
      exact ih (k + 1) (by omega) (by omega)
theorem f11_sum {fu : Nat} (hf : 10 ≤ fu) {mm : Nat → Int64} {a : AS} (h : MR mm a) (hc : a_c a ≤ 6) : F_X11_sum fu mm = some (lI (sm (a_c a) (a_V a))) := f11_sum4 h hc fu 0 (by omega) (by omega)
theorem f8_acc {st : SS} {a : AS} {B : Int} (h : CR st a) (ho : OKA B a) : F_X8_sumByAccounts st = some (lI (sm (a_c a) (a_V a))) := by
  obtain ⟨h1, h2, h3, h4, h5, h6, h7, h8, h9, h10, h11, h12⟩ := h
  obtain ⟨o1, o2, o3, o4, o5, o6, o7, o8, o9, o10, o11, o12⟩ := ho
  unfold F_X8_sumByAccounts
  rw [h3, h4, h5, h6, h7, ii_toL (by omega) (by omega), ll_L10000000000, ll_mul, ll_add, ll_add, ll_sub, ll_sub, o12]
theorem sm_V {a : AS} {B : Int} (ho : OKA B a) : 0 ≤ sm (a_c a) (a_V a) ∧ sm (a_c a) (a_V a) ≤ 60000000000 := by
  have := sm_bd (g := a_V a) (b := 10000000000) (n := a_c a) (fun k hk => by have := ho.2.2.2.2.2.2.2.1 k hk; omega)
  have := ho.1
  omega
