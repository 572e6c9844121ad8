-- rounding together: both sides pick alike
def b2i (b : Bool) : Int := if b = true then 1 else 0
def bm6 (b0 b1 b2 b3 b4 b5 : Bool) : Int32 := (if b0 = true then 1 else 0) ||| (if b1 = true then 2 else 0) ||| (if b2 = true then 4 else 0) ||| (if b3 = true then 8 else 0) ||| (if b4 = true then 16 else 0) ||| (if b5 = true then 32 else 0)
def bm (u : Nat → Bool) : Int32 := bm6 (u 0) (u 1) (u 2) (u 3) (u 4) (u 5)
def jn6 (b0 b1 b2 b3 b4 b5 : Bool) : Nat := (if b0 = true then 1 else 0) + (if b1 = true then 2 else 0) + (if b2 = true then 4 else 0) + (if b3 = true then 8 else 0) + (if b4 = true then 16 else 0) + (if b5 = true then 32 else 0)
theorem bm_up6 : ∀ b0 b1 b2 b3 b4 b5 : Bool, F_X9_isUp (bm6 b0 b1 b2 b3 b4 b5) (iI 0) = some (iI (b2i b0)) ∧ F_X9_isUp (bm6 b0 b1 b2 b3 b4 b5) (iI 1) = some (iI (b2i b1)) ∧ F_X9_isUp (bm6 b0 b1 b2 b3 b4 b5) (iI 2) = some (iI (b2i b2)) ∧ F_X9_isUp (bm6 b0 b1 b2 b3 b4 b5) (iI 3) = some (iI (b2i b3)) ∧ F_X9_isUp (bm6 b0 b1 b2 b3 b4 b5) (iI 4) = some (iI (b2i b4)) ∧ F_X9_isUp (bm6 b0 b1 b2 b3 b4 b5) (iI 5) = some (iI (b2i b5)) := by decide +kernel
theorem bm_or6 : ∀ b0 b1 b2 b3 b4 b5 : Bool, bm6 b0 b1 b2 b3 b4 b5 ||| (1 <<< (iI 0 &&& 31)) = bm6 true b1 b2 b3 b4 b5 ∧ bm6 b0 b1 b2 b3 b4 b5 ||| (1 <<< (iI 1 &&& 31)) = bm6 b0 true b2 b3 b4 b5 ∧ bm6 b0 b1 b2 b3 b4 b5 ||| (1 <<< (iI 2 &&& 31)) = bm6 b0 b1 true b3 b4 b5 ∧ bm6 b0 b1 b2 b3 b4 b5 ||| (1 <<< (iI 3 &&& 31)) = bm6 b0 b1 b2 true b4 b5 ∧ bm6 b0 b1 b2 b3 b4 b5 ||| (1 <<< (iI 4 &&& 31)) = bm6 b0 b1 b2 b3 true b5 ∧ bm6 b0 b1 b2 b3 b4 b5 ||| (1 <<< (iI 5 &&& 31)) = bm6 b0 b1 b2 b3 b4 true := by decide +kernel
theorem bm_cnt6 : ∀ b0 b1 b2 b3 b4 b5 : Bool, F_J6_bitCount_0f7a4 (bm6 b0 b1 b2 b3 b4 b5) = some (iI (0 + b2i b0 + b2i b1 + b2i b2 + b2i b3 + b2i b4 + b2i b5)) := by decide +kernel
theorem bm_jn6 : ∀ b0 b1 b2 b3 b4 b5 : Bool, bm6 b0 b1 b2 b3 b4 b5 = iI (jn6 b0 b1 b2 b3 b4 b5 : Int) := by decide +kernel
theorem bm_tb : ∀ j : Fin 64, iI (j.val : Int) = bm6 (j.val.testBit 0) (j.val.testBit 1) (j.val.testBit 2) (j.val.testBit 3) (j.val.testBit 4) (j.val.testBit 5) := by decide +kernel
theorem lt6 {k : Nat} (h : k < 6) : k = 0 ∨ k = 1 ∨ k = 2 ∨ k = 3 ∨ k = 4 ∨ k = 5 := by omega
theorem f9_isUp (u : Nat → Bool) {k : Nat} (h : k < 6) : F_X9_isUp (bm u) (iI (k : Int)) = some (iI (b2i (u k))) := by
  have := bm_up6 (u 0) (u 1) (u 2) (u 3) (u 4) (u 5)
  rcases lt6 h with h|h|h|h|h|h <;> subst h
  · exact this.1
  · exact this.2.1
  · exact this.2.2.1
  · exact this.2.2.2.1
  · exact this.2.2.2.2.1
  · exact this.2.2.2.2.2
theorem bm_or (u : Nat → Bool) {k : Nat} (h : k < 6) : bm u ||| (1 <<< (iI (k : Int) &&& 31)) = bm (fun i => if i = k then true else u i) := by
  have := bm_or6 (u 0) (u 1) (u 2) (u 3) (u 4) (u 5)
  rcases lt6 h with h|h|h|h|h|h <;> subst h
  · exact this.1
  · exact this.2.1
  · exact this.2.2.1
  · exact this.2.2.2.1
  · exact this.2.2.2.2.1
  · exact this.2.2.2.2.2
theorem ct_6 {u : Nat → Bool} {c : Nat} (hc : c ≤ 6) (h : ∀ i, u i = true → i < c) : ct u c = ct u 6 := by
  have key : ∀ d, c + d ≤ 6 → ct u c = ct u (c + d) := by
    intro d
    induction d with
    | zero => intro _; rfl
    | succ d ih =>
      intro hd
      rw [ih (by omega)]
      show sm (c + d) _ = sm (c + d) _ + (if u (c + d) = true then 1 else 0)
      rw [if_neg (fun e => by have := h _ e; omega)]
      omega
  have := key (6 - c) (by omega)
  rwa [show c + (6 - c) = 6 from by omega] at this
theorem f6_cnt (u : Nat → Bool) : F_J6_bitCount_0f7a4 (bm u) = some (iI (ct u 6)) := bm_cnt6 (u 0) (u 1) (u 2) (u 3) (u 4) (u 5)
theorem b2_0 {b : Bool} : (iI (b2i b) = 0) = (b = false) := by
  cases b <;> decide
theorem bm_0 : bm (fun _ => false) = 0 := by decide +kernel
theorem tb_0 {α : Type} {b : Bool} {x y : α} : (if iI (b2i b) = 0 then x else y) = if b = false then x else y := by
  cases b <;> rfl
/-- the rests of the numbers -/
def rs (a : AS) (s : Int) (k : Nat) : Int := a_V a k % stp s
theorem rs_bd {a : AS} {s : Int} (k : Nat) : 0 ≤ rs a s k ∧ rs a s k < stp s := by
  have := stp_bd s
  exact ⟨Int.emod_nonneg _ (by omega), Int.emod_lt_of_pos _ (by omega)⟩
theorem f11_rest {fu : Nat} (hf : 6 ≤ fu) {mm : Nat → Int64} {a : AS} {B s : Int} (h : MR mm a) (ho : OKA B a) {k : Nat} (hk : k < a_c a) (hs : 0 ≤ s) (hs' : s ≤ 4) : F_X11_rest fu mm (iI (k : Int)) (iI s) = some (lI (rs a s k)) := by
  obtain ⟨p1, p2⟩ := stp_bd s
  obtain ⟨v1, v2⟩ := ho.2.2.2.2.2.2.2.1 k hk
  have hc := ho.1
  have h5 : ¬ lI (stp s) = 0 := by rw [ll_L0, ll_eq (by omega) (by omega) (by omega) (by omega)]; omega
  unfold F_X11_rest
  rw [f11_at, zb_some, ii_L1, ii_add, if_neg (ii_gi (by omega) (by omega) (by omega)), f11_step hs hs' hf, zb_some, if_neg h5, ii_nat (by omega) (by omega), tn_1, h.2.2.2.2.2.1 k hk, ll_div v1 (by omega) (by omega) (by omega), ll_mul, ll_sub, md_eq]
  rfl
/-- what the reference's row of ups holds -/
def UR (mUp : Nat → Int32) (u : Nat → Bool) (c : Nat) : Prop := ∀ i, i < c → mUp i = iI (b2i (u i))
def ob : Option Nat → Int32
  | none => iI (-1)
  | some b => iI (b : Int)
theorem f11_ch87 {fu : Nat} (hf : 6 ≤ fu) {K : (Nat → Int64) → (Nat → Int32) → Int32 → Int32 → Int32 → Option (Int32 × (Nat → Int32))} {mm : Nat → Int64} {a : AS} {B s : Int} (h : MR mm a) (ho : OKA B a) (hs : 0 ≤ s) (hs' : s ≤ 4) {mUp : Nat → Int32} {u : Nat → Bool} (hU : UR mUp u (a_c a)) {b : Nat} (hb : pk (rs a s) u (a_c a) = some b) {x4 x5 : Int32} : ∀ (n k : Nat), k ≤ a_c a → a_c a < n + k →
    F_X11_chooses_87 K fu n mm mUp (iI s) x4 x5 (ob (pk (rs a s) u k)) (iI (k : Int)) = K mm (upd mUp b 1) (iI s) x4 (x5 + 1) := by
  have hc := ho.1
  intro n
  induction n with
  | zero => intro k _ _; omega
  | succ n ih =>
    intro k hk hn
    unfold F_X11_chooses_87
    rw [f11_many h, zb_some, ti_le (by omega) (by omega) (by omega) (by omega)]
    by_cases e : (a_c a : Int) ≤ (k : Int)
    · obtain rfl : k = a_c a := by omega
      have hbc := (pk_sp hb).1
      rw [if_pos e, hb]
      show (if iI (b : Int) < 0 ∨ 6 ≤ (iI (b : Int)).toNatClampNeg then none else _) = _
      rw [if_neg (ii_gd (by omega) (by omega)), zl_eq]
      show K mm (upd mUp ((iI (b : Int)).toNatClampNeg) (vp_nar .boolean 1)) _ _ _ = _
      rw [ii_nc b (by omega), show vp_nar .boolean 1 = 1 from by decide]
    · have hlt : k < a_c a := by omega
      have step : ∀ o : Option Nat, ob o = ob (pk (rs a s) u (k + 1)) → F_X11_chooses_87 K fu n mm mUp (iI s) x4 x5 (ob o) (iI (k : Int) + 1) = K mm (upd mUp b 1) (iI s) x4 (x5 + 1) := by
        intro o hoo
        rw [hoo, ii_L1, ii_add, ii_nx]
        exact ih (k + 1) (by omega) (by omega)
      rw [if_neg e, if_neg (ii_gd (by omega) (by omega)), ii_nc k (by omega), hU k hlt]
      show (if iI (b2i (u k)) = 0 then _ else _) = _
      have epk : pk (rs a s) u (k + 1) = (match pk (rs a s) u k with
        | none => if u k = true then none else some k
        | some b => if u k = false ∧ rs a s b < rs a s k then some k else some b) := rfl
      cases ho' : pk (rs a s) u k with
      | none =>
        rw [ho'] at epk
        have epk : pk (rs a s) u (k + 1) = if u k = true then none else some k := epk
        cases huk : u k with
        | true =>
          rw [if_neg (by decide), zl_eq]
          refine step none ?_
          rw [epk, huk, if_pos rfl]
        | false =>
          rw [if_pos (by decide), if_pos (by decide), zl_eq]
          refine step (some k) ?_
          rw [epk, huk, if_neg (by decide)]
      | some d =>
        rw [ho'] at epk
        have epk : pk (rs a s) u (k + 1) = if u k = false ∧ rs a s d < rs a s k then some k else some d := epk
        have hd := (pk_sp ho').1
        have b1 := rs_bd (a := a) (s := s) k
        have b2 := rs_bd (a := a) (s := s) d
        have p := stp_bd s
        cases huk : u k with
        | true =>
          rw [if_neg (by decide), zl_eq]
          refine step (some d) ?_
          rw [epk, huk, if_neg (fun g => absurd g.1 (by decide))]
        | false =>
          have hne : ¬ ob (some d) = -1 := by
            show ¬ iI (d : Int) = -1
            rw [ii_L1, ii_neg, ii_eq (by omega) (by omega) (by omega) (by omega)]; omega
          rw [if_pos (by decide), if_neg hne, f11_rest hf h ho hlt hs hs', zb_some]
          show zbind (F_X11_rest fu mm (iI (d : Int)) (iI s)) _ = _
          rw [f11_rest hf h ho (show d < a_c a by omega) hs hs', zb_some, tl_lt (by omega) (by omega) (by omega) (by omega)]
          by_cases hlt2 : rs a s d < rs a s k
          · rw [if_pos hlt2, zl_eq]
            refine step (some k) ?_
            rw [epk, huk, if_pos ⟨rfl, hlt2⟩]
          · rw [if_neg hlt2, zl_eq]
            refine step (some d) ?_
            rw [epk, huk, if_neg (fun g => hlt2 g.2)]
theorem f11_ch74 {fu : Nat} (hf : 10 ≤ fu) {mm : Nat → Int64} {a : AS} {B s : Int} (h : MR mm a) (ho : OKA B a) (hs : 0 ≤ s) (hs' : s ≤ 4) {d : Nat} (hd : (d : Int) ≤ nz (rs a s) (a_c a)) (hd6 : d ≤ 6) : ∀ (n j : Nat) (mUp : Nat → Int32), j ≤ d → d < n + j → UR mUp (gs (rs a s) (a_c a) j) (a_c a) →
    ∃ mUp', F_X11_chooses_74 fu n mm mUp (iI s) (iI (d : Int)) (iI (j : Int)) = some (iI (d : Int), mUp') ∧ UR mUp' (gs (rs a s) (a_c a) d) (a_c a) := by
  have hc := ho.1
  intro n
  induction n with
  | zero => intro j mUp _ _; omega
  | succ n ih =>
    intro j mUp hj hn hU
    unfold F_X11_chooses_74
    rw [ti_le (by omega) (by omega) (by omega) (by omega)]
    by_cases e : (d : Int) ≤ (j : Int)
    · obtain rfl : j = d := by omega
      rw [if_pos e]
      exact ⟨mUp, rfl, hU⟩
    · obtain ⟨b, hb, _, hbc, _, _⟩ := gs_pick (gs_all (show (j : Int) ≤ nz (rs a s) (a_c a) by omega)) (by omega)
      rw [if_neg e]
      have := f11_ch87 (fu := fu) (K := F_X11_chooses_74 fu n) (by omega) h ho hs hs' hU hb (x4 := iI (d : Int)) (x5 := iI (j : Int)) fu 0 (by omega) (by omega)
      rw [show (-1 : Int32) = ob (pk (rs a s) (gs (rs a s) (a_c a) j) 0) from rfl, show (0 : Int32) = iI ((0 : Nat) : Int) from rfl, this, ii_L1, ii_add, ii_nx]
      refine ih (j + 1) _ (by omega) (by omega) ?_
      intro i hi
      have eg : gs (rs a s) (a_c a) (j + 1) i = if i = b then true else gs (rs a s) (a_c a) j i := by
        show (match pk (rs a s) (gs (rs a s) (a_c a) j) (a_c a) with | none => gs (rs a s) (a_c a) j | some b => fun i => if i = b then true else gs (rs a s) (a_c a) j i) i = _
        rw [hb]
      rw [eg, up_I]
      by_cases hib : i = b
      · rw [if_pos hib, if_pos hib]; rfl
      · rw [if_neg hib, if_neg hib]; exact hU i hi
/-- the number that must go up -/
def due (a : AS) (s : Int) : Int := rd (sm (a_c a) (rs a s)) s 104 / stp s
theorem sm_rs {a : AS} {s : Int} : 0 ≤ sm (a_c a) (rs a s) ∧ sm (a_c a) (rs a s) ≤ nz (rs a s) (a_c a) * (stp s - 1) := by
  have p := stp_bd s
  refine ⟨(sm_bd (g := rs a s) (b := stp s) (n := a_c a) (fun k _ => by have := rs_bd (a := a) (s := s) k; omega)).1, ?_⟩
  unfold nz
  rw [← sm_mul]
  apply sm_le
  intro k _
  have := rs_bd (a := a) (s := s) k
  by_cases e : 0 < rs a s k
  · rw [if_pos e]; omega
  · rw [if_neg e]; omega
theorem nz_bd (r : Nat → Int) (c : Nat) : 0 ≤ nz r c ∧ nz r c ≤ c := by
  have := sm_bd (g := fun i => if 0 < r i then (1 : Int) else 0) (b := 1) (n := c) (fun k _ => by show 0 ≤ (if 0 < r k then (1 : Int) else 0) ∧ (if 0 < r k then (1 : Int) else 0) ≤ 1; split <;> omega)
  unfold nz
  omega
theorem rd_dv (x s m : Int) : rd x s m / stp s * stp s = rd x s m := by
  have := stp_bd s
  unfold rd
  rw [Int.mul_ediv_cancel _ (by omega)]
theorem rd_half {x s : Int} : 2 * rd x s 104 ≤ 2 * x + stp s := by
  have p := stp_bd s
  have e : x / stp s * stp s = x - x % stp s := by have := Int.emod_def x (stp s); rw [Int.mul_comm] at this; omega
  have h3 : 0 ≤ x % stp s := Int.emod_nonneg x (by omega)
  unfold rd
  rw [Int.add_mul, e]
  unfold gu
  repeat' split
  all_goals omega
theorem due_bd {a : AS} {s : Int} : 0 ≤ due a s ∧ due a s ≤ nz (rs a s) (a_c a) := by
  have p := stp_bd s
  obtain ⟨h1, h2⟩ := sm_rs (a := a) (s := s)
  have h3 := rd_half (x := sm (a_c a) (rs a s)) (s := s)
  obtain ⟨h4, _, _⟩ := rd_bd s 104 h1
  have h5 := rd_dv (sm (a_c a) (rs a s)) s 104
  have hn := nz_bd (rs a s) (a_c a)
  unfold due
  refine ⟨Int.ediv_nonneg h4 (by omega), ?_⟩
  generalize rd (sm (a_c a) (rs a s)) s 104 / stp s = q at *
  generalize nz (rs a s) (a_c a) = w at *
  rw [← h5] at h3
  apply Classical.byContradiction
  intro hq
  have h6 : (w + 1) * stp s ≤ q * stp s := Int.mul_le_mul_of_nonneg_right (by omega) (by omega)
  rw [Int.add_mul, Int.one_mul] at h6
  rw [Int.mul_sub, Int.mul_one] at h2
  omega
theorem rd_sh {x y s : Int} (hy : y % stp s = 0) : rd (y + x) s 104 = y + rd x s 104 := by
  have p := stp_bd s
  have e0 : stp s * (y / stp s) = y := by have := Int.emod_def y (stp s); omega
  have e1 : (y + x) % stp s = x % stp s := by
    rw [Int.add_emod, hy, Int.zero_add, Int.emod_emod]
  have e2 : (y + x) / stp s = y / stp s + x / stp s := by
    have := Int.add_mul_ediv_left x (y / stp s) (show stp s ≠ 0 by omega)
    rw [e0] at this
    rw [Int.add_comm y x, this, Int.add_comm]
  have e3 : gu ((y + x) / stp s) (x % stp s) (stp s) 104 = gu (x / stp s) (x % stp s) (stp s) 104 := by unfold gu; rfl
  unfold rd
  rw [e1, e3, e2, Int.add_assoc, Int.add_mul, Int.mul_comm (y / stp s), e0]
/-- the smaller neighbours -/
def dn (a : AS) (s : Int) (k : Nat) : Int := a_V a k - rs a s k
theorem dn_md {a : AS} {s : Int} : ∀ n, sm n (dn a s) % stp s = 0 := by
  have p := stp_bd s
  intro n
  induction n with
  | zero => exact Int.zero_emod _
  | succ n ih =>
    show (sm n (dn a s) + dn a s n) % stp s = 0
    rw [Int.add_emod, ih]
    have : dn a s n % stp s = 0 := by
      unfold dn rs
      have e := Int.emod_def (a_V a n) (stp s)
      rw [show a_V a n - a_V a n % stp s = stp s * (a_V a n / stp s) from by omega]
      exact Int.mul_emod_right _ _
    rw [this]; simp
theorem dn_sum {a : AS} {s : Int} (n : Nat) : sm n (a_V a) = sm n (dn a s) + sm n (rs a s) := by
  rw [← sm_add]
  apply sm_congr
  intro k _
  unfold dn; omega
/-- the target -/
theorem tgt {a : AS} {s : Int} : rd (sm (a_c a) (a_V a)) s 104 = sm (a_c a) (dn a s) + due a s * stp s := by
  rw [dn_sum (s := s), rd_sh (dn_md _)]
  unfold due
  rw [rd_dv]
theorem f11_ch5 {fu : Nat} (hf : 10 ≤ fu) {mm : Nat → Int64} {a : AS} {B s : Int} (h : MR mm a) (ho : OKA B a) (hs : 0 ≤ s) (hs' : s ≤ 4) : ∀ (n k : Nat) (mUp : Nat → Int32), k ≤ a_c a → a_c a < n + k → (∀ i, i < k → mUp i = iI 0) →
    ∃ mUp', F_X11_chooses_5 fu n mm mUp (iI s) (lI (sm k (dn a s))) (iI (k : Int)) = some (iI (due a s), mUp') ∧ UR mUp' (gs (rs a s) (a_c a) (due a s).toNat) (a_c a) := by
  have hc := ho.1
  have p := stp_bd s
  intro n
  induction n with
  | zero => intro k mUp _ _; omega
  | succ n ih =>
    intro k mUp hk hn hU
    unfold F_X11_chooses_5
    rw [f11_many h, zb_some, ti_le (by omega) (by omega) (by omega) (by omega)]
    by_cases e : (a_c a : Int) ≤ (k : Int)
    · obtain rfl : k = a_c a := by omega
      have hV := sm_V ho
      have hd := due_bd (a := a) (s := s)
      have hn := nz_bd (rs a s) (a_c a)
      have h5 : ¬ lI (stp s) = 0 := by rw [ll_L0, ll_eq (by omega) (by omega) (by omega) (by omega)]; omega
      have hq : 0 ≤ due a s * stp s := Int.mul_nonneg hd.1 (by omega)
      have hq' : due a s * stp s ≤ 6 * 10000 := by
        have := Int.mul_le_mul (show due a s ≤ 6 by omega) p.2 (by omega) (by omega)
        omega
      rw [if_pos e, f11_sum hf h hc, zb_some, show (104 : Int32) = iI 104 from rfl, f11_round (by right; right; left; rfl) hs hs' hV.1 (by omega) (by omega), zb_some, f11_step hs hs' (by omega), zb_some, if_neg h5, zl_eq, tgt, ll_sub, show sm (a_c a) (dn a s) + due a s * stp s - sm (a_c a) (dn a s) = due a s * stp s from by omega, ll_div hq (by omega) (by omega) (by omega), ll_toI, Int.mul_ediv_cancel _ (by omega)]
      have := f11_ch74 hf h ho hs hs' (d := (due a s).toNat) (by omega) (by omega) fu 0 mUp (by omega) (by omega) (fun i hi => hU i hi)
      rw [show (((due a s).toNat : Nat) : Int) = due a s from by omega] at this
      exact this
    · have hv := ho.2.2.2.2.2.2.2.1 k (by omega)
      rw [if_neg e, if_neg (ii_gd (by omega) (by omega)), f11_at, zb_some, if_neg (of_eq_false (at_1 (show k < 6 by omega))), f11_rest (by omega) h ho (by omega) hs hs', zb_some, zl_eq, zl_eq, ms_1 h (show k < a_c a by omega) hc, ll_sub, ll_add, ii_L1, ii_add, ii_nx, ii_nc k (by omega), show vp_nar .boolean 0 = iI 0 from by decide]
      refine ih (k + 1) _ (by omega) (by omega) (fun i hi => ?_)
      rw [up_I]
      by_cases hik : i = k
      · rw [if_pos hik]
      · rw [if_neg hik]; exact hU i (by omega)
theorem f11_chooses {fu : Nat} (hf : 10 ≤ fu) {mm : Nat → Int64} {a : AS} {B s : Int} (h : MR mm a) (ho : OKA B a) (hs : 0 ≤ s) (hs' : s ≤ 4) (mUp : Nat → Int32) : ∃ mUp', F_X11_chooses fu mm mUp (iI s) = some (iI (due a s), mUp') ∧ UR mUp' (gs (rs a s) (a_c a) (due a s).toNat) (a_c a) :=
  f11_ch5 hf h ho hs hs' fu 0 mUp (by omega) (by have := ho.1; omega) (fun i hi => by omega)
/-- the class's pick -/
def pg (r : Nat → Int) : Option Nat → Int
  | none => 0
  | some b => if 0 < r b then r b else 0
def pb (r : Nat → Int) : Option Nat → Int32
  | none => 0
  | some b => if 0 < r b then 1 <<< (iI (b : Int) &&& 31) else 0
theorem f9_near9 {fu : Nat} {st : SS} {a : AS} {B s : Int} (h : CR st a) (ho : OKA B a) {u : Nat → Bool} : ∀ (n k : Nat), k ≤ a_c a → a_c a < n + k →
    F_X9_nearestToUp_9 fu n st (lI (stp s)) (bm u) (lI (pg (rs a s) (pk (rs a s) u k))) (pb (rs a s) (pk (rs a s) u k)) (iI (k : Int)) = some (pb (rs a s) (pk (rs a s) u (a_c a))) := by
  have hc := ho.1
  have p := stp_bd s
  have h5 : ¬ lI (stp s) = 0 := by rw [ll_L0, ll_eq (by omega) (by omega) (by omega) (by omega)]; omega
  intro n
  induction n with
  | zero => intro k _ _; omega
  | succ n ih =>
    intro k hk hn
    unfold F_X9_nearestToUp_9
    rw [h.1, ti_le (by omega) (by omega) (by omega) (by omega)]
    by_cases e : (a_c a : Int) ≤ (k : Int)
    · obtain rfl : k = a_c a := by omega
      rw [if_pos e]
    · have hlt : k < a_c a := by omega
      obtain ⟨v1, v2⟩ := ho.2.2.2.2.2.2.2.1 k hlt
      have b1 := rs_bd (a := a) (s := s) k
      have epk : pk (rs a s) u (k + 1) = (match pk (rs a s) u k with
        | none => if u k = true then none else some k
        | some b => if u k = false ∧ rs a s b < rs a s k then some k else some b) := rfl
      have step : ∀ (x : Int) (y : Int32), x = pg (rs a s) (pk (rs a s) u (k + 1)) → y = pb (rs a s) (pk (rs a s) u (k + 1)) → F_X9_nearestToUp_9 fu n st (lI (stp s)) (bm u) (lI x) y (iI (k : Int) + 1) = some (pb (rs a s) (pk (rs a s) u (a_c a))) := by
        intro x y hx hy
        rw [hx, hy, ii_L1, ii_add, ii_nx]
        exact ih (k + 1) (by omega) (by omega)
      have hpg : 0 ≤ pg (rs a s) (pk (rs a s) u k) ∧ pg (rs a s) (pk (rs a s) u k) ≤ 10000 := by
        cases pk (rs a s) u k with
        | none => exact ⟨Int.le_refl _, show (0 : Int) ≤ 10000 by decide⟩
        | some d =>
          have := rs_bd (a := a) (s := s) d
          show 0 ≤ (if 0 < rs a s d then rs a s d else 0) ∧ (if 0 < rs a s d then rs a s d else 0) ≤ 10000
          split <;> omega
      rw [if_neg e, if_neg (ii_gd (by omega) (by omega)), if_neg h5, zl_eq, ii_nc k (by omega), h.2.2.2.2.2.2.2.2.1 k hlt, ll_div v1 (by omega) (by omega) (by omega), ll_mul, ll_sub, md_eq, show a_V a k % stp s = rs a s k from rfl, tl_lt (by omega) (by omega) (by omega) (by omega)]
      cases ho' : pk (rs a s) u k with
      | none =>
        rw [ho'] at epk
        have epk : pk (rs a s) u (k + 1) = if u k = true then none else some k := epk
        show (if 0 < rs a s k then _ else _) = _
        by_cases hr : 0 < rs a s k
        · rw [if_pos hr, f9_isUp u (by omega), zb_some, tb_0]
          cases huk : u k with
          | true =>
            rw [if_neg (by decide), zl_eq]
            refine step _ _ ?_ ?_ <;> rw [epk, huk, if_pos rfl]
          | false =>
            rw [if_pos rfl, zl_eq, zl_eq]
            refine step _ _ ?_ ?_ <;> rw [epk, huk, if_neg (by decide)]
            · exact (if_pos hr).symm
            · exact (if_pos hr).symm
        · rw [if_neg hr, zl_eq]
          refine step _ _ ?_ ?_ <;> rw [epk] <;> cases u k
          · exact (if_neg hr).symm
          · rfl
          · exact (if_neg hr).symm
          · rfl
      | some d =>
        rw [ho'] at epk
        have epk : pk (rs a s) u (k + 1) = if u k = false ∧ rs a s d < rs a s k then some k else some d := epk
        have b2 := rs_bd (a := a) (s := s) d
        show (if (if 0 < rs a s d then rs a s d else 0) < rs a s k then _ else _) = _
        by_cases hr : (if 0 < rs a s d then rs a s d else 0) < rs a s k
        · have hr1 : 0 < rs a s k ∧ rs a s d < rs a s k := by
            split at hr <;> omega
          rw [if_pos hr, f9_isUp u (by omega), zb_some, tb_0]
          cases huk : u k with
          | true =>
            rw [if_neg (by decide), zl_eq]
            refine step _ _ ?_ ?_ <;> rw [epk, huk, if_neg (fun g => absurd g.1 (by decide))]
          | false =>
            rw [if_pos rfl, zl_eq, zl_eq]
            refine step _ _ ?_ ?_ <;> rw [epk, huk, if_pos ⟨rfl, hr1.2⟩]
            · exact (if_pos hr1.1).symm
            · exact (if_pos hr1.1).symm
        · have hr1 : ¬ rs a s d < rs a s k := by
            split at hr <;> omega
          rw [if_neg hr, zl_eq]
          refine step _ _ ?_ ?_ <;> rw [epk, if_neg (fun g => hr1 g.2)]
theorem f9_best58 {fu : Nat} (hf : 10 ≤ fu) {st : SS} {a : AS} {B s : Int} (h : CR st a) (ho : OKA B a) : ∀ (n j : Nat), (j : Int) ≤ due a s → due a s < n + j → F_X9_bestChoice_58 fu n st (lI (stp s)) (lI (due a s)) (bm (gs (rs a s) (a_c a) j)) (iI (j : Int)) = some (bm (gs (rs a s) (a_c a) (due a s).toNat)) := by
  have hc := ho.1
  have hd := due_bd (a := a) (s := s)
  have hn := nz_bd (rs a s) (a_c a)
  intro n
  induction n with
  | zero => intro j _ _; omega
  | succ n ih =>
    intro j hj hn
    unfold F_X9_bestChoice_58
    rw [ii_toL (by omega) (by omega), tl_lt (by omega) (by omega) (by omega) (by omega)]
    by_cases e : (j : Int) < due a s
    · obtain ⟨b, hb, hr, hbc, _, _⟩ := gs_pick (gs_all (show (j : Int) ≤ nz (rs a s) (a_c a) by omega)) (by omega)
      have hp : pb (rs a s) (pk (rs a s) (gs (rs a s) (a_c a) j) (a_c a)) = 1 <<< (iI (b : Int) &&& 31) := by rw [hb]; exact if_pos hr
      have eg : gs (rs a s) (a_c a) (j + 1) = fun i => if i = b then true else gs (rs a s) (a_c a) j i := by
        show (match pk (rs a s) (gs (rs a s) (a_c a) j) (a_c a) with | none => gs (rs a s) (a_c a) j | some b => fun i => if i = b then true else gs (rs a s) (a_c a) j i) = _
        rw [hb]
      have := f9_near9 (fu := fu) (s := s) (u := gs (rs a s) (a_c a) j) h ho fu 0 (by omega) (by omega)
      rw [if_pos e, if_neg (by rw [ii_L6, ii_le (by omega) (by omega) (by omega) (by omega)]; omega)]
      unfold F_X9_nearestToUp
      rw [show F_X9_nearestToUp_9 fu fu st (lI (stp s)) (bm (gs (rs a s) (a_c a) j)) 0 0 0 = _ from this, zb_some, hp, zl_eq, zl_eq, bm_or _ (by omega), ← eg, ii_L1, ii_add, ii_nx]
      exact ih (j + 1) (by omega) (by omega)
    · rw [if_neg e, show (due a s).toNat = j from by omega]
theorem f9_best11 {fu : Nat} (hf : 20 ≤ fu) {st : SS} {a : AS} {B s : Int} (h : CR st a) (ho : OKA B a) (hs : 0 ≤ s) (hs' : s ≤ 4) : ∀ (n k : Nat), k ≤ a_c a → a_c a < n + k → F_X9_bestChoice_11 fu n st (iI s) (lI (stp s)) (lI (sm k (rs a s))) (iI (k : Int)) = some (bm (gs (rs a s) (a_c a) (due a s).toNat)) := by
  have hc := ho.1
  have p := stp_bd s
  have h5 : ¬ lI (stp s) = 0 := by rw [ll_L0, ll_eq (by omega) (by omega) (by omega) (by omega)]; omega
  intro n
  induction n with
  | zero => intro k _ _; omega
  | succ n ih =>
    intro k hk hn
    unfold F_X9_bestChoice_11
    rw [h.1, ti_le (by omega) (by omega) (by omega) (by omega)]
    by_cases e : (a_c a : Int) ≤ (k : Int)
    · obtain rfl : k = a_c a := by omega
      have hr := sm_rs (a := a) (s := s)
      have hnz := nz_bd (rs a s) (a_c a)
      have hd := due_bd (a := a) (s := s)
      have hm : nz (rs a s) (a_c a) * (stp s - 1) ≤ 6 * 10000 := by
        have := Int.mul_le_mul (show nz (rs a s) (a_c a) ≤ 6 by omega) (show stp s - 1 ≤ 10000 by omega) (by omega) (by omega)
        omega
      obtain ⟨q1, q2, q3⟩ := rd_bd s 104 hr.1
      rw [if_pos e, show (104 : Int32) = iI 104 from rfl, f7_sum (by right; right; left; rfl) hs hs' hr.1 (by omega), zb_some, if_neg h5, zl_eq, ll_div q1 (by omega) (by omega) (by omega)]
      have q := f9_best58 (fu := fu) (s := s) (by omega) h ho fu 0 (by omega) (by omega)
      rw [show bm (gs (rs a s) (a_c a) 0) = 0 from bm_0] at q
      exact q
    · have hlt : k < a_c a := by omega
      obtain ⟨v1, v2⟩ := ho.2.2.2.2.2.2.2.1 k hlt
      rw [if_neg e, if_neg (ii_gd (by omega) (by omega)), if_neg h5, zl_eq, zl_eq, ii_nc k (by omega), h.2.2.2.2.2.2.2.2.1 k hlt, ll_div v1 (by omega) (by omega) (by omega), ll_mul, ll_sub, md_eq, ll_add, ii_L1, ii_add, ii_nx]
      exact ih (k + 1) (by omega) (by omega)
/-- the best choice, as the class finds it -/
theorem f9_best {fu : Nat} (hf : 20 ≤ fu) {st : SS} {a : AS} {B s : Int} (h : CR st a) (ho : OKA B a) (hs : 0 ≤ s) (hs' : s ≤ 4) : F_X9_bestChoice fu st (iI s) = some (bm (gs (rs a s) (a_c a) (due a s).toNat)) := by
  unfold F_X9_bestChoice
  rw [f7_step hs hs', zb_some]
  exact f9_best11 hf h ho hs hs' fu 0 (by omega) (by have := ho.1; omega)
theorem f9_rounded {u : Nat → Bool} {k : Nat} (hk : k < 6) {v s : Int} (hv : 0 ≤ v) (hv' : v < 4000000000000) (hs : 0 ≤ s) (hs' : s ≤ 4) : F_X9_roundedBy (bm u) (iI (k : Int)) (lI v) (iI s) = some (lI (v - v % stp s + (if u k = true then stp s else 0))) := by
  have p := stp_bd s
  have h5 : ¬ lI (stp s) = 0 := by rw [ll_L0, ll_eq (by omega) (by omega) (by omega) (by omega)]; omega
  unfold F_X9_roundedBy
  rw [f7_step hs hs', zb_some, if_neg h5, zl_eq, ll_div hv (by omega) (by omega) (by omega), ll_mul, ll_sub, md_eq, ll_sub, f9_isUp u hk, zb_some, tb_0]
  cases u k with
  | true => rw [if_neg (by decide), if_pos rfl, ll_add]
  | false => rw [if_pos rfl, if_neg (by decide), zi_z]
theorem f9_err5 {fu : Nat} {st : SS} {a : AS} {B s : Int} (h : CR st a) (ho : OKA B a) (hs : 0 ≤ s) (hs' : s ≤ 4) {u : Nat → Bool} : ∀ (n k : Nat), k ≤ a_c a → a_c a < n + k → F_X9_errorOf_5 fu n st (iI s) (bm u) (lI (er (rs a s) (stp s) u k)) (iI (k : Int)) = some (lI (er (rs a s) (stp s) u (a_c a))) := by
  have hc := ho.1
  have p := stp_bd s
  intro n
  induction n with
  | zero => intro k _ _; omega
  | succ n ih =>
    intro k hk hn
    unfold F_X9_errorOf_5
    rw [h.1, ti_le (by omega) (by omega) (by omega) (by omega)]
    by_cases e : (a_c a : Int) ≤ (k : Int)
    · obtain rfl : k = a_c a := by omega
      rw [if_pos e]
    · have hlt : k < a_c a := by omega
      obtain ⟨v1, v2⟩ := ho.2.2.2.2.2.2.2.1 k hlt
      have b1 := rs_bd (a := a) (s := s) k
      rw [if_neg e, if_neg (ii_gd (by omega) (by omega)), zl_eq, ii_nc k (by omega), h.2.2.2.2.2.2.2.2.1 k hlt, f9_rounded (by omega) v1 (by omega) hs hs', zb_some, zl_eq, zl_eq, ll_sub, show a_V a k % stp s = rs a s k from rfl]
      have key : (if 0 < lI (a_V a k - rs a s k + (if u k = true then stp s else 0) - a_V a k) then lI (a_V a k - rs a s k + (if u k = true then stp s else 0) - a_V a k) else -lI (a_V a k - rs a s k + (if u k = true then stp s else 0) - a_V a k)) = lI (if u k = true then stp s - rs a s k else rs a s k) := by
        cases u k with
        | true =>
          rw [if_pos rfl, if_pos rfl, ll_L0, tl_lt (by omega) (by omega) (by omega) (by omega), if_pos (by omega)]
          congr 1; omega
        | false =>
          rw [if_neg (show ¬ (false = true) by decide), if_neg (show ¬ (false = true) by decide), ll_L0, tl_lt (by omega) (by omega) (by omega) (by omega), if_neg (by omega), ll_neg]
          congr 1; omega
      rw [key, ll_add, ii_L1, ii_add, ii_nx]
      exact ih (k + 1) (by omega) (by omega)
theorem f9_err {fu : Nat} (hf : 10 ≤ fu) {st : SS} {a : AS} {B s : Int} (h : CR st a) (ho : OKA B a) (hs : 0 ≤ s) (hs' : s ≤ 4) (u : Nat → Bool) : F_X9_errorOf fu st (iI s) (bm u) = some (lI (er (rs a s) (stp s) u (a_c a))) := f9_err5 h ho hs hs' fu 0 (by omega) (by have := ho.1; omega)
theorem er_bd {a : AS} {s : Int} (hc : a_c a ≤ 6) (u : Nat → Bool) : 0 ≤ er (rs a s) (stp s) u (a_c a) ∧ er (rs a s) (stp s) u (a_c a) ≤ 60000 := by
  have p := stp_bd s
  have := sm_bd (g := fun i => if u i = true then stp s - rs a s i else rs a s i) (b := 10000) (n := a_c a) (fun k _ => by
    have := rs_bd (a := a) (s := s) k
    show 0 ≤ (if u k = true then stp s - rs a s k else rs a s k) ∧ (if u k = true then stp s - rs a s k else rs a s k) ≤ 10000
    split <;> omega)
  unfold er
  omega
theorem f9_sum5 {fu : Nat} {st : SS} {a : AS} {B s : Int} (h : CR st a) (ho : OKA B a) (hs : 0 ≤ s) (hs' : s ≤ 4) {u : Nat → Bool} : ∀ (n k : Nat), k ≤ a_c a → a_c a < n + k → F_X9_sumOf_5 fu n st (iI s) (bm u) (lI (sm k (dn a s) + ct u k * stp s)) (iI (k : Int)) = some (lI (sm (a_c a) (dn a s) + ct u (a_c a) * stp s)) := by
  have hc := ho.1
  intro n
  induction n with
  | zero => intro k _ _; omega
  | succ n ih =>
    intro k hk hn
    unfold F_X9_sumOf_5
    rw [h.1, ti_le (by omega) (by omega) (by omega) (by omega)]
    by_cases e : (a_c a : Int) ≤ (k : Int)
    · obtain rfl : k = a_c a := by omega
      rw [if_pos e]
    · have hlt : k < a_c a := by omega
      obtain ⟨v1, v2⟩ := ho.2.2.2.2.2.2.2.1 k hlt
      rw [if_neg e, if_neg (ii_gd (by omega) (by omega)), ii_nc k (by omega), h.2.2.2.2.2.2.2.2.1 k hlt, f9_rounded (by omega) v1 (by omega) hs hs', zb_some, zl_eq, zl_eq, ll_add, ii_L1, ii_add, ii_nx]
      have key : sm k (dn a s) + ct u k * stp s + (a_V a k - a_V a k % stp s + (if u k = true then stp s else 0)) = sm (k + 1) (dn a s) + ct u (k + 1) * stp s := by
        show _ = sm k (dn a s) + (a_V a k - a_V a k % stp s) + (ct u k + (if u k = true then 1 else 0)) * stp s
        rw [Int.add_mul]
        cases u k with
        | true => rw [if_pos rfl, if_pos rfl, Int.one_mul]; omega
        | false => rw [if_neg (by decide), if_neg (by decide), Int.zero_mul]; omega
      rw [key]
      exact ih (k + 1) (by omega) (by omega)
theorem f9_sum {fu : Nat} (hf : 10 ≤ fu) {st : SS} {a : AS} {B s : Int} (h : CR st a) (ho : OKA B a) (hs : 0 ≤ s) (hs' : s ≤ 4) (u : Nat → Bool) : F_X9_sumOf fu st (iI s) (bm u) = some (lI (sm (a_c a) (dn a s) + ct u (a_c a) * stp s)) := by
  have := f9_sum5 (fu := fu) (u := u) h ho hs hs' fu 0 (by omega) (by have := ho.1; omega)
  rw [show sm 0 (dn a s) + ct u 0 * stp s = 0 from by show 0 + 0 * stp s = 0; omega] at this
  exact this
theorem f9_only8 {fu : Nat} {st : SS} {a : AS} {B s : Int} (h : CR st a) (ho : OKA B a) {u : Nat → Bool} : ∀ (n k : Nat), k ≤ a_c a → a_c a < n + k → (∀ i, i < k → u i = true → 0 < rs a s i) → F_X9_hasOnlyRests_8 fu n st (bm u) (lI (stp s)) (iI (k : Int)) = some (iI 1) ∧ (∀ i, i < a_c a → u i = true → 0 < rs a s i) ∨ F_X9_hasOnlyRests_8 fu n st (bm u) (lI (stp s)) (iI (k : Int)) = some (iI 0) ∧ ¬ ∀ i, i < a_c a → u i = true → 0 < rs a s i := by
  have hc := ho.1
  have p := stp_bd s
  have h5 : ¬ lI (stp s) = 0 := by rw [ll_L0, ll_eq (by omega) (by omega) (by omega) (by omega)]; omega
  intro n
  induction n with
  | zero => intro k _ _; omega
  | succ n ih =>
    intro k hk hn hall
    unfold F_X9_hasOnlyRests_8
    rw [h.1, ti_le (by omega) (by omega) (by omega) (by omega)]
    by_cases e : (a_c a : Int) ≤ (k : Int)
    · obtain rfl : k = a_c a := by omega
      rw [if_pos e]
      exact Or.inl ⟨rfl, hall⟩
    · have hlt : k < a_c a := by omega
      obtain ⟨v1, v2⟩ := ho.2.2.2.2.2.2.2.1 k hlt
      have b1 := rs_bd (a := a) (s := s) k
      rw [if_neg e, f9_isUp u (by omega), zb_some, tb_0]
      cases huk : u k with
      | false =>
        rw [if_pos rfl, zl_eq, ii_L1, ii_add, ii_nx]
        refine ih (k + 1) (by omega) (by omega) (fun i hi hui => ?_)
        by_cases hik : i = k
        · rw [hik, huk] at hui; cases hui
        · exact hall i (by omega) hui
      | true =>
        rw [if_neg (by decide), if_neg (ii_gd (by omega) (by omega)), if_neg h5, ii_nc k (by omega), h.2.2.2.2.2.2.2.2.1 k hlt, ll_div v1 (by omega) (by omega) (by omega), ll_mul, ll_sub, md_eq, show a_V a k % stp s = rs a s k from rfl, ll_L0, tl_eq (by omega) (by omega) (by omega) (by omega)]
        by_cases hz : rs a s k = 0
        · rw [if_pos hz]
          exact Or.inr ⟨rfl, fun g => by have := g k hlt huk; omega⟩
        · rw [if_neg hz, zl_eq, ii_L1, ii_add, ii_nx]
          refine ih (k + 1) (by omega) (by omega) (fun i hi hui => ?_)
          by_cases hik : i = k
          · rw [hik]; omega
          · exact hall i (by omega) hui
theorem f9_only {fu : Nat} (hf : 10 ≤ fu) {st : SS} {a : AS} {B s : Int} (h : CR st a) (ho : OKA B a) (hs : 0 ≤ s) (hs' : s ≤ 4) (u : Nat → Bool) : F_X9_hasOnlyRests fu st (iI s) (bm u) = some (iI 1) ∧ (∀ i, i < a_c a → u i = true → 0 < rs a s i) ∨ F_X9_hasOnlyRests fu st (iI s) (bm u) = some (iI 0) ∧ ¬ ∀ i, i < a_c a → u i = true → 0 < rs a s i := by
  unfold F_X9_hasOnlyRests
  rw [f7_step hs hs', zb_some]
  exact f9_only8 h ho fu 0 (by omega) (by have := ho.1; omega) (fun i hi => by omega)
/-- a choice that hits the target -/
def fsb (a : AS) (s : Int) (u : Nat → Bool) : Prop := (∀ i, i < a_c a → u i = true → 0 < rs a s i) ∧ ct u (a_c a) = due a s
def tb (j : Nat) : Nat → Bool := fun i => j.testBit i
theorem tb_bm {j : Nat} (h : j < 64) : iI (j : Int) = bm (tb j) := bm_tb ⟨j, h⟩
theorem pw_c : ∀ c : Fin 7, (1 : Int32) <<< (iI (c.val : Int) &&& 31) = iI ((2 ^ c.val : Nat) : Int) := by decide +kernel
theorem pw_le {c : Nat} (h : c ≤ 6) : 2 ^ c ≤ 64 := by
  have := Nat.pow_le_pow_right (show 0 < 2 by omega) h
  omega
theorem f9_least19 {fu : Nat} (hf : 20 ≤ fu) {st : SS} {a : AS} {B s : Int} (h : CR st a) (ho : OKA B a) (hs : 0 ≤ s) (hs' : s ≤ 4) {E : Int} (hE : 0 ≤ E) (hmin : ∀ u, fsb a s u → E ≤ er (rs a s) (stp s) u (a_c a)) : ∀ (n j : Nat) (L : Int), j ≤ 2 ^ a_c a → 2 ^ a_c a < n + j → E ≤ L → L < 9223372036854775808 → (L = E ∨ ∃ j', j ≤ j' ∧ j' < 2 ^ a_c a ∧ fsb a s (tb j') ∧ er (rs a s) (stp s) (tb j') (a_c a) = E) →
    F_X9_leastErrorOfSets_19 fu n st (iI s) (lI (rd (sm (a_c a) (a_V a)) s 104)) (lI L) (iI (j : Int)) = some (lI E) := by
  have hc := ho.1
  have p := stp_bd s
  have hpw := pw_le hc
  intro n
  induction n with
  | zero => intro j L _ _; omega
  | succ n ih =>
    intro j L hj hn hL hL' hw
    have epw : (1 : Int32) <<< (iI (a_c a : Int) &&& 31) = iI ((2 ^ a_c a : Nat) : Int) := pw_c ⟨a_c a, by omega⟩
    unfold F_X9_leastErrorOfSets_19
    rw [h.1, epw, ti_le (by omega) (by omega) (by omega) (by omega)]
    by_cases e : ((2 ^ a_c a : Nat) : Int) ≤ (j : Int)
    · rw [if_pos e]
      rcases hw with hw | ⟨j', h1, h2, _⟩
      · rw [hw]
      · omega
    · rw [if_neg e, tb_bm (show j < 64 by omega)]
      have nx : ∀ L', E ≤ L' → L' < 9223372036854775808 → (L' = E ∨ ∃ j', j + 1 ≤ j' ∧ j' < 2 ^ a_c a ∧ fsb a s (tb j') ∧ er (rs a s) (stp s) (tb j') (a_c a) = E) → F_X9_leastErrorOfSets_19 fu n st (iI s) (lI (rd (sm (a_c a) (a_V a)) s 104)) (lI L') (bm (tb j) + 1) = some (lI E) := by
        intro L' hl1 hl2 hl3
        rw [← tb_bm (show j < 64 by omega), ii_L1, ii_add, ii_nx]
        exact ih (j + 1) L' (by omega) (by omega) hl1 hl2 hl3
      rcases f9_only (fu := fu) (by omega) h ho hs hs' (tb j) with ⟨e1, e2⟩ | ⟨e1, e2⟩
      · rw [e1, zb_some, if_neg (by decide), f9_sum (by omega) h ho hs hs', zb_some, tgt]
        have hctn : 0 ≤ ct (tb j) (a_c a) ∧ ct (tb j) (a_c a) ≤ a_c a := by
          have := sm_bd (g := fun i => if tb j i = true then (1 : Int) else 0) (b := 1) (n := a_c a) (fun k _ => by show 0 ≤ (if tb j k = true then (1 : Int) else 0) ∧ (if tb j k = true then (1 : Int) else 0) ≤ 1; split <;> omega)
          unfold ct
          omega
        have hd := due_bd (a := a) (s := s)
        have hnz := nz_bd (rs a s) (a_c a)
        have hq1 : 0 ≤ ct (tb j) (a_c a) * stp s := Int.mul_nonneg hctn.1 (by omega)
        have hq2 : ct (tb j) (a_c a) * stp s ≤ 6 * 10000 := Int.mul_le_mul (by omega) p.2 (by omega) (by omega)
        have hq3 : 0 ≤ due a s * stp s := Int.mul_nonneg hd.1 (by omega)
        have hq4 : due a s * stp s ≤ 6 * 10000 := Int.mul_le_mul (by omega) p.2 (by omega) (by omega)
        have hV := sm_V ho
        have hV2 := dn_sum (a := a) (s := s) (a_c a)
        have hr := sm_rs (a := a) (s := s)
        have hr2 : nz (rs a s) (a_c a) * (stp s - 1) ≤ 6 * 10000 := Int.mul_le_mul (by omega) (by omega) (by omega) (by omega)
        rw [tl_eq (by omega) (by omega) (by omega) (by omega)]
        by_cases hct : sm (a_c a) (dn a s) + ct (tb j) (a_c a) * stp s = sm (a_c a) (dn a s) + due a s * stp s
        · have hf' : fsb a s (tb j) := ⟨e2, Int.eq_of_mul_eq_mul_right (show stp s ≠ 0 by omega) (by omega)⟩
          have hb := er_bd (a := a) (s := s) hc (tb j)
          have hm := hmin _ hf'
          rw [if_pos hct, f9_err (by omega) h ho hs hs', zb_some, zl_eq, zl_eq, tl_lt (by omega) (by omega) (by omega) (by omega), ← tgt]
          by_cases hlt : er (rs a s) (stp s) (tb j) (a_c a) < L
          · rw [if_pos hlt]
            refine nx _ hm (by omega) ?_
            rcases hw with hw | ⟨j', h1, h2, h3, h4⟩
            · omega
            · by_cases hjj : j' = j
              · left; rw [← hjj]; exact h4
              · right; exact ⟨j', by omega, h2, h3, h4⟩
          · rw [if_neg hlt]
            refine nx _ hL hL' ?_
            rcases hw with hw | ⟨j', h1, h2, h3, h4⟩
            · left; exact hw
            · by_cases hjj : j' = j
              · left; rw [hjj] at h4; omega
              · right; exact ⟨j', by omega, h2, h3, h4⟩
        · rw [if_neg hct, zl_eq, ← tgt]
          refine nx _ hL hL' ?_
          rcases hw with hw | ⟨j', h1, h2, h3, h4⟩
          · left; exact hw
          · by_cases hjj : j' = j
            · rw [hjj] at h3; exact absurd (by rw [h3.2]) hct
            · right; exact ⟨j', by omega, h2, h3, h4⟩
      · rw [e1, zb_some, if_pos (by decide), zl_eq]
        refine nx _ hL hL' ?_
        rcases hw with hw | ⟨j', h1, h2, h3, h4⟩
        · left; exact hw
        · by_cases hjj : j' = j
          · rw [hjj] at h3; exact absurd h3.1 e2
          · right; exact ⟨j', by omega, h2, h3, h4⟩
theorem jn_tb6 : ∀ b0 b1 b2 b3 b4 b5 : Bool, (jn6 b0 b1 b2 b3 b4 b5).testBit 0 = b0 ∧ (jn6 b0 b1 b2 b3 b4 b5).testBit 1 = b1 ∧ (jn6 b0 b1 b2 b3 b4 b5).testBit 2 = b2 ∧ (jn6 b0 b1 b2 b3 b4 b5).testBit 3 = b3 ∧ (jn6 b0 b1 b2 b3 b4 b5).testBit 4 = b4 ∧ (jn6 b0 b1 b2 b3 b4 b5).testBit 5 = b5 := by decide +kernel
theorem jn_tb (u : Nat → Bool) {k : Nat} (h : k < 6) : tb (jn6 (u 0) (u 1) (u 2) (u 3) (u 4) (u 5)) k = u k := by
  have := jn_tb6 (u 0) (u 1) (u 2) (u 3) (u 4) (u 5)
  rcases lt6 h with h|h|h|h|h|h <;> subst h
  · exact this.1
  · exact this.2.1
  · exact this.2.2.1
  · exact this.2.2.2.1
  · exact this.2.2.2.2.1
  · exact this.2.2.2.2.2
theorem jn_lt {u : Nat → Bool} {c : Nat} (hc : c ≤ 6) (h : ∀ i, u i = true → i < c) : jn6 (u 0) (u 1) (u 2) (u 3) (u 4) (u 5) < 2 ^ c := by
  have hb : ∀ i, c ≤ i → u i = false := fun i hi => by
    cases e : u i with
    | false => rfl
    | true => have := h i e; omega
  unfold jn6
  have : c = 0 ∨ c = 1 ∨ c = 2 ∨ c = 3 ∨ c = 4 ∨ c = 5 ∨ c = 6 := by omega
  rcases this with e|e|e|e|e|e|e <;> subst e
  · rw [hb 0 (by omega), hb 1 (by omega), hb 2 (by omega), hb 3 (by omega), hb 4 (by omega), hb 5 (by omega)]; decide
  · rw [hb 1 (by omega), hb 2 (by omega), hb 3 (by omega), hb 4 (by omega), hb 5 (by omega)]; cases u 0 <;> decide
  · rw [hb 2 (by omega), hb 3 (by omega), hb 4 (by omega), hb 5 (by omega)]; cases u 0 <;> cases u 1 <;> decide
  · rw [hb 3 (by omega), hb 4 (by omega), hb 5 (by omega)]; cases u 0 <;> cases u 1 <;> cases u 2 <;> decide
  · rw [hb 4 (by omega), hb 5 (by omega)]; cases u 0 <;> cases u 1 <;> cases u 2 <;> cases u 3 <;> decide
  · rw [hb 5 (by omega)]; cases u 0 <;> cases u 1 <;> cases u 2 <;> cases u 3 <;> cases u 4 <;> decide
  · cases u 0 <;> cases u 1 <;> cases u 2 <;> cases u 3 <;> cases u 4 <;> cases u 5 <;> decide
/-- the best error -/
def bst (a : AS) (s : Int) : Int := er (rs a s) (stp s) (gs (rs a s) (a_c a) (due a s).toNat) (a_c a)
theorem gs_due (a : AS) (s : Int) : gsI (rs a s) (a_c a) (due a s).toNat := by
  have := due_bd (a := a) (s := s)
  exact gs_all (by omega)
theorem f9_least {fu : Nat} (hf : 100 ≤ fu) {st : SS} {a : AS} {B s : Int} (h : CR st a) (ho : OKA B a) (hs : 0 ≤ s) (hs' : s ≤ 4) : F_X9_leastErrorOfSets fu st (iI s) = some (lI (bst a s)) := by
  have hV := sm_V ho
  have hc := ho.1
  have hpw := pw_le hc
  have hd := due_bd (a := a) (s := s)
  have hg := gs_due a s
  have hb := er_bd (a := a) (s := s) hc (gs (rs a s) (a_c a) (due a s).toNat)
  unfold F_X9_leastErrorOfSets
  rw [f8_sum (by omega) h ho.1, zb_some, show (104 : Int32) = iI 104 from rfl, f7_sum (by right; right; left; rfl) hs hs' hV.1 (by omega), zb_some]
  refine f9_least19 (by omega) h ho hs hs' (E := bst a s) hb.1 (fun u hu => er_min hg u (by rw [hu.2]; omega)) fu 0 9223372036854775807 (Nat.zero_le _) (by omega) (by unfold bst; omega) (by omega) (Or.inr ?_)
  have hj := jn_lt hc (fun i hi => (hg.2.1 i hi).1)
  have hcong : ∀ i, i < a_c a → tb (jn6 (gs (rs a s) (a_c a) (due a s).toNat 0) (gs (rs a s) (a_c a) (due a s).toNat 1) (gs (rs a s) (a_c a) (due a s).toNat 2) (gs (rs a s) (a_c a) (due a s).toNat 3) (gs (rs a s) (a_c a) (due a s).toNat 4) (gs (rs a s) (a_c a) (due a s).toNat 5)) i = gs (rs a s) (a_c a) (due a s).toNat i := fun i hi => jn_tb _ (by omega)
  refine ⟨_, Nat.zero_le _, hj, ⟨fun i hi hu => ?_, ?_⟩, ?_⟩
  · rw [hcong i hi] at hu; exact (hg.2.1 i hu).2
  · have h1 := hg.1
    rw [show ((due a s).toNat : Int) = due a s from by omega] at h1
    refine Eq.trans (sm_congr (fun k hk => ?_)) h1
    show (if tb _ k = true then (1 : Int) else 0) = if gs (rs a s) (a_c a) (due a s).toNat k = true then (1 : Int) else 0
    rw [hcong k hk]
  · apply sm_congr
    intro k hk
    show (if tb _ k = true then stp s - rs a s k else rs a s k) = if gs (rs a s) (a_c a) (due a s).toNat k = true then stp s - rs a s k else rs a s k
    rw [hcong k hk]
