-- carries
def bm10 (b0 b1 b2 b3 b4 b5 b6 b7 b8 b9 : Bool) : Int32 := (if b0 = true then 1 else 0) ||| (if b1 = true then 2 else 0) ||| (if b2 = true then 4 else 0) ||| (if b3 = true then 8 else 0) ||| (if b4 = true then 16 else 0) ||| (if b5 = true then 32 else 0) ||| (if b6 = true then 64 else 0) ||| (if b7 = true then 128 else 0) ||| (if b8 = true then 256 else 0) ||| (if b9 = true then 512 else 0)
def bmT (u : Nat → Bool) : Int32 := bm10 (u 0) (u 1) (u 2) (u 3) (u 4) (u 5) (u 6) (u 7) (u 8) (u 9)
theorem bt_or : ∀ b0 b1 b2 b3 b4 b5 b6 b7 b8 b9 : Bool, bm10 false false false false false false false false false false ||| (1 <<< (iI 0 &&& 31)) = bm10 true false false false false false false false false false ∧ bm10 b0 false false false false false false false false false ||| (1 <<< (iI 1 &&& 31)) = bm10 b0 true false false false false false false false false ∧ bm10 b0 b1 false false false false false false false false ||| (1 <<< (iI 2 &&& 31)) = bm10 b0 b1 true false false false false false false false ∧ bm10 b0 b1 b2 false false false false false false false ||| (1 <<< (iI 3 &&& 31)) = bm10 b0 b1 b2 true false false false false false false ∧ bm10 b0 b1 b2 b3 false false false false false false ||| (1 <<< (iI 4 &&& 31)) = bm10 b0 b1 b2 b3 true false false false false false ∧ bm10 b0 b1 b2 b3 b4 false false false false false ||| (1 <<< (iI 5 &&& 31)) = bm10 b0 b1 b2 b3 b4 true false false false false ∧ bm10 b0 b1 b2 b3 b4 b5 false false false false ||| (1 <<< (iI 6 &&& 31)) = bm10 b0 b1 b2 b3 b4 b5 true false false false ∧ bm10 b0 b1 b2 b3 b4 b5 b6 false false false ||| (1 <<< (iI 7 &&& 31)) = bm10 b0 b1 b2 b3 b4 b5 b6 true false false ∧ bm10 b0 b1 b2 b3 b4 b5 b6 b7 false false ||| (1 <<< (iI 8 &&& 31)) = bm10 b0 b1 b2 b3 b4 b5 b6 b7 true false ∧ bm10 b0 b1 b2 b3 b4 b5 b6 b7 b8 false ||| (1 <<< (iI 9 &&& 31)) = bm10 b0 b1 b2 b3 b4 b5 b6 b7 b8 true := by decide +kernel
theorem bt_get : ∀ b0 b1 b2 b3 b4 b5 b6 b7 b8 b9 : Bool, (((bm10 b0 b1 b2 b3 b4 b5 b6 b7 b8 b9 >>> (iI 0 &&& 31)) &&& 1 = 1) ↔ (b0 = true)) ∧ (((bm10 b0 b1 b2 b3 b4 b5 b6 b7 b8 b9 >>> (iI 1 &&& 31)) &&& 1 = 1) ↔ (b1 = true)) ∧ (((bm10 b0 b1 b2 b3 b4 b5 b6 b7 b8 b9 >>> (iI 2 &&& 31)) &&& 1 = 1) ↔ (b2 = true)) ∧ (((bm10 b0 b1 b2 b3 b4 b5 b6 b7 b8 b9 >>> (iI 3 &&& 31)) &&& 1 = 1) ↔ (b3 = true)) ∧ (((bm10 b0 b1 b2 b3 b4 b5 b6 b7 b8 b9 >>> (iI 4 &&& 31)) &&& 1 = 1) ↔ (b4 = true)) ∧ (((bm10 b0 b1 b2 b3 b4 b5 b6 b7 b8 b9 >>> (iI 5 &&& 31)) &&& 1 = 1) ↔ (b5 = true)) ∧ (((bm10 b0 b1 b2 b3 b4 b5 b6 b7 b8 b9 >>> (iI 6 &&& 31)) &&& 1 = 1) ↔ (b6 = true)) ∧ (((bm10 b0 b1 b2 b3 b4 b5 b6 b7 b8 b9 >>> (iI 7 &&& 31)) &&& 1 = 1) ↔ (b7 = true)) ∧ (((bm10 b0 b1 b2 b3 b4 b5 b6 b7 b8 b9 >>> (iI 8 &&& 31)) &&& 1 = 1) ↔ (b8 = true)) ∧ (((bm10 b0 b1 b2 b3 b4 b5 b6 b7 b8 b9 >>> (iI 9 &&& 31)) &&& 1 = 1) ↔ (b9 = true)) := by decide +kernel
theorem bt_cnt : ∀ b0 b1 b2 b3 b4 b5 b6 b7 b8 b9 : Bool, F_J6_bitCount_0f7a4 (bm10 b0 b1 b2 b3 b4 b5 b6 b7 b8 b9) = some (iI (0 + b2i b0 + b2i b1 + b2i b2 + b2i b3 + b2i b4 + b2i b5 + b2i b6 + b2i b7 + b2i b8 + b2i b9)) := by decide +kernel
theorem lt10 {k : Nat} (h : k < 10) : k = 0 ∨ k = 1 ∨ k = 2 ∨ k = 3 ∨ k = 4 ∨ k = 5 ∨ k = 6 ∨ k = 7 ∨ k = 8 ∨ k = 9 := by omega
def tk (u : Nat → Bool) (n : Nat) : Nat → Bool := fun i => if i < n then u i else false
theorem bmT_or (u : Nat → Bool) {k : Nat} (h : k < 10) : bmT (tk u k) ||| (1 <<< (iI (k : Int) &&& 31)) = bmT (tk (fun i => if i = k then true else u i) (k + 1)) := by
  have := bt_or (u 0) (u 1) (u 2) (u 3) (u 4) (u 5) (u 6) (u 7) (u 8) (u 9)
  rcases lt10 h with h|h|h|h|h|h|h|h|h|h <;> subst h
  · exact this.1
  · exact this.2.1
  · exact this.2.2.1
  · exact this.2.2.2.1
  · exact this.2.2.2.2.1
  · exact this.2.2.2.2.2.1
  · exact this.2.2.2.2.2.2.1
  · exact this.2.2.2.2.2.2.2.1
  · exact this.2.2.2.2.2.2.2.2.1
  · exact this.2.2.2.2.2.2.2.2.2
theorem bmT_get (u : Nat → Bool) {k : Nat} (h : k < 10) : ((bmT u >>> (iI (k : Int) &&& 31)) &&& 1 = 1) ↔ (u k = true) := by
  have := bt_get (u 0) (u 1) (u 2) (u 3) (u 4) (u 5) (u 6) (u 7) (u 8) (u 9)
  rcases lt10 h with h|h|h|h|h|h|h|h|h|h <;> subst h
  · exact this.1
  · exact this.2.1
  · exact this.2.2.1
  · exact this.2.2.2.1
  · exact this.2.2.2.2.1
  · exact this.2.2.2.2.2.1
  · exact this.2.2.2.2.2.2.1
  · exact this.2.2.2.2.2.2.2.1
  · exact this.2.2.2.2.2.2.2.2.1
  · exact this.2.2.2.2.2.2.2.2.2
theorem bmT_cnt (u : Nat → Bool) : F_J6_bitCount_0f7a4 (bmT u) = some (iI (ct u 10)) := bt_cnt (u 0) (u 1) (u 2) (u 3) (u 4) (u 5) (u 6) (u 7) (u 8) (u 9)
/-- the carry into a place -/
def ci (v x : Int) : Nat → Int
  | 0 => 0
  | i + 1 => if 9 < dv i v % 10 + dv i x % 10 + ci v x i then 1 else 0
def cb (v x : Int) (i : Nat) : Bool := decide (9 < dv i v % 10 + dv i x % 10 + ci v x i)
theorem ci_01 (v x : Int) (i : Nat) : ci v x i = 0 ∨ ci v x i = 1 := by
  cases i with
  | zero => exact Or.inl rfl
  | succ i => unfold ci; split <;> omega
theorem ci_b (v x : Int) (i : Nat) : ci v x (i + 1) = if cb v x i = true then 1 else 0 := by
  show (if 9 < dv i v % 10 + dv i x % 10 + ci v x i then (1 : Int) else 0) = _
  unfold cb
  by_cases h : 9 < dv i v % 10 + dv i x % 10 + ci v x i
  · rw [if_pos h, if_pos (decide_eq_true h)]
  · rw [if_neg h, if_neg (by simp [h])]
theorem tk_s (u : Nat → Bool) (n : Nat) (h : u n = true) : tk (fun i => if i = n then true else u i) (n + 1) = tk u (n + 1) := by
  funext i
  show (if i < n + 1 then (if i = n then true else u i) else false) = if i < n + 1 then u i else false
  by_cases e : i = n
  · rw [if_pos e, e, h]
  · rw [if_neg e]
theorem tk_f (u : Nat → Bool) (n : Nat) (h : u n = false) : tk u n = tk u (n + 1) := by
  funext i
  unfold tk
  by_cases e : i = n
  · rw [if_neg (by omega), if_pos (by omega), e, h]
  · by_cases e2 : i < n
    · rw [if_pos e2, if_pos (by omega)]
    · rw [if_neg e2, if_neg (by omega)]
theorem sh_0 : ∀ k : Fin 10, (0 : Int32) <<< (iI (k.val : Int) &&& 31) = 0 := by decide +kernel
theorem f10_cp9 {fu : Nat} (hf : 30 ≤ fu) {v x : Int} (v0 : 0 ≤ v) (v1 : v < 4000000000000000000) (x0 : 0 ≤ x) (x1 : x < 4000000000000000000) : ∀ (n i : Nat), i ≤ 10 → 10 < n + i → F_X10_carryingPlaces_9 fu n (lI v) (lI x) (bmT (tk (cb v x) i)) (iI (ci v x i)) (iI (i : Int)) = some (bmT (tk (cb v x) 10)) := by
  intro n
  induction n with
  | zero => intro i _ _; omega
  | succ n ih =>
    intro i hi hn
    have hc := ci_01 v x i
    unfold F_X10_carryingPlaces_9
    rw [show (10 : Int32) = iI ((10 : Nat) : Int) from rfl, ti_le (by omega) (by omega) (by omega) (by omega)]
    by_cases e : ((10 : Nat) : Int) ≤ (i : Int)
    · rw [if_pos e, show i = 10 from by omega]
    · have eb := ci_b v x i
      rw [if_neg e, f10_dig v0 v1 (by omega) (by omega), zb_some, f10_dig x0 x1 (by omega) (by omega), zb_some, ii_add, ii_add, ii_L9, ti_le (by omega) (by omega) (by omega) (by omega)]
      by_cases h9 : dv i v % 10 + dv i x % 10 + ci v x i ≤ 9
      · have hb : cb v x i = false := by unfold cb; exact decide_eq_false (by omega)
        rw [hb, if_neg (by decide)] at eb
        rw [if_pos h9, zl_eq, zl_eq, show (0 : Int32) <<< (iI (i : Int) &&& 31) = 0 from sh_0 ⟨i, by omega⟩, Int32.or_zero, tk_f _ _ hb, ii_L1, ii_add, ii_nx, ii_L0, ← eb]
        exact ih (i + 1) (by omega) (by omega)
      · have hb : cb v x i = true := by unfold cb; exact decide_eq_true (by omega)
        rw [hb, if_pos rfl] at eb
        rw [if_neg h9, zl_eq, zl_eq, bmT_or _ (by omega), tk_s _ _ hb, ii_L1, ii_add, ii_nx, ← eb]
        exact ih (i + 1) (by omega) (by omega)
theorem bmT_0 (u : Nat → Bool) : bmT (tk u 0) = 0 := by
  have : tk u 0 = fun _ => false := funext fun i => if_neg (by omega)
  rw [this]; decide +kernel
theorem f10_cp {fu : Nat} (hf : 30 ≤ fu) {v x : Int} (v0 : 0 ≤ v) (v1 : v < 4000000000000000000) (x0 : 0 ≤ x) (x1 : x < 4000000000000000000) : F_X10_carryingPlaces fu (lI v) (lI x) = some (bmT (tk (cb v x) 10)) := by
  have := f10_cp9 hf v0 v1 x0 x1 fu 0 (by omega) (by omega)
  rw [bmT_0] at this
  exact this
theorem ct_tk (u : Nat → Bool) : ct (tk u 10) 10 = ct u 10 := sm_congr (fun k hk => by show (if tk u 10 k = true then (1 : Int) else 0) = if u k = true then (1 : Int) else 0; rw [show tk u 10 k = u k from if_pos hk])
/-- digits of a sum -/
theorem dv_add {v x : Int} (v0 : 0 ≤ v) (x0 : 0 ≤ x) : ∀ i, dv i (v + x) = dv i v + dv i x + ci v x i := by
  intro i
  induction i with
  | zero => show v + x = v + x + 0; omega
  | succ i ih =>
    have a1 := dv_nn i v0
    have a2 := dv_nn i x0
    have hc := ci_01 v x i
    have s5 : ci v x (i + 1) = if 9 < dv i v % 10 + dv i x % 10 + ci v x i then 1 else 0 := rfl
    rw [dv_s, dv_s, dv_s, ih, s5]
    split <;> omega
theorem dsum_add {v x : Int} (v0 : 0 ≤ v) (x0 : 0 ≤ x) : ∀ n, dsum n v + dsum n x - dsum n (v + x) = 9 * sm n (fun i => ci v x (i + 1)) + ci v x n := by
  intro n
  induction n with
  | zero => rfl
  | succ n ih =>
    have a1 := dv_nn n v0
    have a2 := dv_nn n x0
    have e := dv_add v0 x0 n
    have hc := ci_01 v x n
    have s1 : dsum (n + 1) v = dsum n v + dv n v % 10 := rfl
    have s2 : dsum (n + 1) x = dsum n x + dv n x % 10 := rfl
    have s3 : dsum (n + 1) (v + x) = dsum n (v + x) + dv n (v + x) % 10 := rfl
    have s4 : sm (n + 1) (fun i => ci v x (i + 1)) = sm n (fun i => ci v x (i + 1)) + ci v x (n + 1) := rfl
    have s5 : ci v x (n + 1) = if 9 < dv n v % 10 + dv n x % 10 + ci v x n then 1 else 0 := rfl
    rw [s1, s2, s3, s4, e]
    rw [s5]
    split <;> omega
theorem carry_cnt {v x : Int} (v0 : 0 ≤ v) (v1 : v < 10000000000) (x0 : 0 ≤ x) (x1 : x < 10000000000) : dsum 11 v + dsum 11 x - dsum 11 (v + x) = 9 * ct (cb v x) 10 := by
  have h := dsum_add v0 x0 11
  have hc := ci_01 v x 10
  have z : ci v x 11 = 0 := by
    show (if 9 < dv 10 v % 10 + dv 10 x % 10 + ci v x 10 then (1 : Int) else 0) = 0
    rw [dv_10 v0 v1, dv_10 x0 x1, if_neg (by omega)]
  have s : sm 11 (fun i => ci v x (i + 1)) = sm 10 (fun i => ci v x (i + 1)) + ci v x 11 := rfl
  have s2 : sm 10 (fun i => ci v x (i + 1)) = ct (cb v x) 10 := sm_congr (fun k _ => ci_b v x k)
  omega
theorem ct_bd (u : Nat → Bool) (n : Nat) : 0 ≤ ct u n ∧ ct u n ≤ n := by
  have := sm_bd (g := fun i => if u i = true then (1 : Int) else 0) (b := 1) (n := n) (fun k _ => by show 0 ≤ (if u k = true then (1 : Int) else 0) ∧ (if u k = true then (1 : Int) else 0) ≤ 1; split <;> omega)
  unfold ct
  omega
theorem f10_cds {fu : Nat} (hf : 30 ≤ fu) {v x : Int} (v0 : 0 ≤ v) (v1 : v < 10000000000) (x0 : 0 ≤ x) (x1 : x < 10000000000) : F_X10_carriesByDigitSums fu (lI v) (lI x) = some (iI (ct (cb v x) 10)) := by
  have h := carry_cnt v0 v1 x0 x1
  have hb := ct_bd (cb v x) 10
  have b1 := dsum_bd 11 v
  have b2 := dsum_bd 11 x
  have b3 := dsum_bd 11 (v + x)
  unfold F_X10_carriesByDigitSums
  rw [f10_dsum v0 (by omega) hf, zb_some, f10_dsum x0 (by omega) hf, zb_some, ll_add, f10_dsum (by omega) (by omega) hf, zb_some, ii_add, ii_sub, ii_L9, ii_div (by omega) (by omega) (by omega) (by omega), h]
  congr 2
  omega
/-- the reference adds -/
theorem f11_adds42 {fu : Nat} (hf : 30 ≤ fu) {mm : Nat → Int64} {v w f : Int} (hw : r32 w) (hr : r32 f) (v0 : 0 ≤ v) (v1 : v < 4000000000000000000) (x0 : 0 ≤ 10000 * w + f) (x1 : 10000 * w + f < 4000000000000000000) : ∀ (n i : Nat) (mcar : Nat → Int32), i ≤ 10 → 10 < n + i → UR mcar (cb v (10000 * w + f)) i →
    ∃ mcar', F_X11_adds_42 fu n mm 0 mcar (iI w) (iI f) (lI v) (iI (ci v (10000 * w + f) i)) (iI (i : Int)) = some (0, mcar') ∧ UR mcar' (cb v (10000 * w + f)) 10 := by
  intro n
  induction n with
  | zero => intro i mcar _ _; omega
  | succ n ih =>
    intro i mcar hi hn hU
    have hc := ci_01 v (10000 * w + f) i
    unfold F_X11_adds_42
    rw [show (10 : Int32) = iI ((10 : Nat) : Int) from rfl, ti_le (by omega) (by omega) (by omega) (by omega)]
    by_cases e : ((10 : Nat) : Int) ≤ (i : Int)
    · rw [if_pos e]
      exact ⟨mcar, rfl, (show i = 10 by omega) ▸ hU⟩
    · have eb := ci_b v (10000 * w + f) i
      have t9 : (iI (dv i v % 10 + dv i (10000 * w + f) % 10 + ci v (10000 * w + f) i) ≤ 9) = (dv i v % 10 + dv i (10000 * w + f) % 10 + ci v (10000 * w + f) i ≤ 9) := by rw [ii_L9, ii_le (by omega) (by omega) (by omega) (by omega)]
      rw [if_neg e, ii_L4, ii_sub, f11_dig v0 v1 (by omega) (by omega), zb_some, f11_uni hw hr, zb_some, f11_dig x0 x1 (by omega) (by omega), zb_some, zl_eq, ii_add, ii_add]
      have hU' : ∀ b : Bool, cb v (10000 * w + f) i = b → UR (upd mcar i (iI (b2i b))) (cb v (10000 * w + f)) (i + 1) := by
        intro b hb k hk
        rw [up_I]
        by_cases hki : k = i
        · rw [if_pos hki, hki, hb]
        · rw [if_neg hki]; exact hU k (by omega)
      by_cases h9 : dv i v % 10 + dv i (10000 * w + f) % 10 + ci v (10000 * w + f) i ≤ 9
      · have hb : cb v (10000 * w + f) i = false := by unfold cb; exact decide_eq_false (by omega)
        rw [hb, if_neg (by decide)] at eb
        obtain ⟨m', e1, e2⟩ := ih (i + 1) _ (by omega) (by omega) (hU' false hb)
        refine ⟨m', ?_, e2⟩
        rw [if_pos (by rw [t9]; exact h9)]
        unfold F_X11_adds_94
        rw [if_neg (ii_gd (by omega) (by omega)), if_pos (by rw [t9]; exact h9), zl_eq, ii_nc i (by omega), show vp_nar .boolean 0 = iI (b2i false) from by decide, ii_L1, ii_add, ii_nx]
        rw [eb] at e1
        exact e1
      · have hb : cb v (10000 * w + f) i = true := by unfold cb; exact decide_eq_true (by omega)
        rw [hb, if_pos rfl] at eb
        obtain ⟨m', e1, e2⟩ := ih (i + 1) _ (by omega) (by omega) (hU' true hb)
        refine ⟨m', ?_, e2⟩
        rw [if_neg (by rw [t9]; exact h9)]
        unfold F_X11_adds_94
        rw [if_neg (ii_gd (by omega) (by omega)), if_neg (by rw [t9]; exact h9), zl_eq, ii_nc i (by omega), show vp_nar .boolean 1 = iI (b2i true) from by decide, ii_L1, ii_add, ii_nx, ← eb]
        exact e1
/-- the first steps of all three: what is thrown, or what is added -/
theorem f11_adds {fu : Nat} (hf : 30 ≤ fu) {st : SS} {mm : Nat → Int64} {a : AS} {B : Int} (h : CR st a) (g : MR mm a) (ho : OKA B a) (t : Int32) (mcar : Nat → Int32) {p w f : Int} (hp : r32 p) (hw : r32 w) (hr : r32 f) :
    (∃ j mcar', j < a_c a ∧ amt w f ∧ F_X10_requirePosition fu st (iI p) = some (.ok (iI (j : Int))) ∧ F_X11_adds fu mm t mcar (iI p) (iI w) (iI f) = some (0, mcar') ∧ UR mcar' (cb (a_V a j) (10000 * w + f)) 10) ∨
    (∃ j, ¬ amt w f ∧ F_X10_requirePosition fu st (iI p) = some (.ok (iI (j : Int))) ∧ F_X11_adds fu mm t mcar (iI p) (iI w) (iI f) = some (2, mcar)) ∨
    (F_X10_requirePosition fu st (iI p) = some (.error (3, ())) ∧ F_X11_adds fu mm t mcar (iI p) (iI w) (iI f) = some (1, mcar)) := by
  have hc := ho.1
  unfold F_X11_adds
  rcases f_find (fu := fu) (by omega) h g ho hp with ⟨j, hj, e1, e2, _⟩ | ⟨e1, e2⟩
  · have hv := ho.2.2.2.2.2.2.2.1 j hj
    have z : ∀ {X Y : Option (Int32 × (Nat → Int32))}, (if ((lI (a_V a j), (0 : Int32)) : Int64 × Int32).2 = 0 then X else Y) = X := fun {X Y} => if_pos rfl
    rw [of_1 g hc hj e2, zb_some, z]
    by_cases hA : amt w f
    · obtain ⟨A1, A2, A3, A4⟩ := hA
      left
      obtain ⟨m', e3, e4⟩ := f11_adds42 hf (mm := mm) hw hr hv.1 (show a_V a j < 4000000000000000000 by omega) (show 0 ≤ 10000 * w + f by omega) (by omega) fu 0 mcar (by omega) (by omega) (fun k hk => by omega)
      refine ⟨j, m', hj, ⟨A1, A2, A3, A4⟩, e1, ?_, e4⟩
      rw [f11_amtY hw hr ⟨A1, A2, A3, A4⟩, zb_some, if_neg (by decide), z]
      exact e3
    · right; left
      refine ⟨j, hA, e1, ?_⟩
      rw [f11_amtN hw hr hA, zb_some, if_pos (by decide), f11_throw, zb_some, if_neg (show ¬ (((-1, 2) : Int32 × Int32).2 = 0) by decide)]
  · right; right
    refine ⟨e1, ?_⟩
    rw [of_n e2, zb_some, if_neg (show ¬ (((Int32.toInt64 (-1), 1) : Int64 × Int32).2 = 0) by decide), if_neg (show ¬ (((Int32.toInt64 (-1), 1) : Int64 × Int32).2 = 0) by decide)]
theorem f11_car24 {fu : Nat} {mm : Nat → Int64} {mcar : Nat → Int32} {u : Nat → Bool} (hU : UR mcar u 10) : ∀ (n i : Nat), i ≤ 10 → 10 < n + i → F_X11_carries_24 fu n mm 0 mcar (iI (ct u i)) (iI (i : Int)) = some (iI (ct u 10), 0, mcar) := by
  intro n
  induction n with
  | zero => intro i _ _; omega
  | succ n ih =>
    intro i hi hn
    unfold F_X11_carries_24
    rw [show (10 : Int32) = iI ((10 : Nat) : Int) from rfl, ti_le (by omega) (by omega) (by omega) (by omega)]
    by_cases e : ((10 : Nat) : Int) ≤ (i : Int)
    · rw [if_pos e, show i = 10 from by omega]
    · have s : ct u (i + 1) = ct u i + (if u i = true then 1 else 0) := rfl
      rw [if_neg e, if_pos rfl, if_neg (ii_gd (by omega) (by omega)), ii_nc i (by omega), hU i (by omega), tb_0]
      cases hu : u i with
      | true =>
        rw [hu, if_pos rfl] at s
        rw [if_neg (by decide), zl_eq, zl_eq, ii_L1, ii_add, ii_add, ii_nx, ← s]
        exact ih (i + 1) (by omega) (by omega)
      | false =>
        rw [hu, if_neg (by decide)] at s
        rw [if_pos rfl, zl_eq, zl_eq, ii_L0, ii_L1, ii_add, ii_add, ii_nx, ← s]
        exact ih (i + 1) (by omega) (by omega)
theorem car_no {fu : Nat} (hf : 30 ≤ fu) {mm : Nat → Int64} {mcar : Nat → Int32} {t : Int32} (ht : ¬ t = 0) : F_X11_carries_24 fu fu mm t mcar (-1) 0 = some (-1, t, mcar) := by
  obtain ⟨n, rfl⟩ : ∃ n, fu = n + 1 := ⟨fu - 1, by omega⟩
  unfold F_X11_carries_24
  rw [if_neg (by decide), if_neg ht]
theorem f11_car {fu : Nat} (hf : 30 ≤ fu) {st : SS} {mm : Nat → Int64} {a : AS} {B : Int} (h : CR st a) (g : MR mm a) (ho : OKA B a) (t : Int32) (mcar : Nat → Int32) {p w f : Int} (hp : r32 p) (hw : r32 w) (hr : r32 f) :
    (∃ j mcar', j < a_c a ∧ amt w f ∧ F_X10_requirePosition fu st (iI p) = some (.ok (iI (j : Int))) ∧ F_X11_carries fu mm t mcar (iI p) (iI w) (iI f) = some (iI (ct (cb (a_V a j) (10000 * w + f)) 10), 0, mcar')) ∨
    (∃ j, ¬ amt w f ∧ F_X10_requirePosition fu st (iI p) = some (.ok (iI (j : Int))) ∧ F_X11_carries fu mm t mcar (iI p) (iI w) (iI f) = some (-1, 2, mcar)) ∨
    (F_X10_requirePosition fu st (iI p) = some (.error (3, ())) ∧ F_X11_carries fu mm t mcar (iI p) (iI w) (iI f) = some (-1, 1, mcar)) := by
  unfold F_X11_carries
  rcases f11_adds hf h g ho t mcar hp hw hr with ⟨j, m', hj, hA, e1, e2, hU⟩ | ⟨j, hA, e1, e2⟩ | ⟨e1, e2⟩
  · left
    have := f11_car24 (fu := fu) (mm := mm) hU fu 0 (by omega) (by omega)
    refine ⟨j, m', hj, hA, e1, ?_⟩
    rw [e2, zb_some]
    show (if (0 : Int32) ≤ 0 then F_X11_carries_24 fu fu mm 0 m' 0 0 else _) = _
    rw [if_pos (by decide)]
    exact this
  · right; left
    refine ⟨j, hA, e1, ?_⟩
    rw [e2, zb_some]
    show (if (2 : Int32) ≤ 0 then _ else F_X11_carries_24 fu fu mm 2 mcar (-1) 0) = _
    rw [if_neg (by decide), car_no hf (by decide)]
  · right; right
    refine ⟨e1, ?_⟩
    rw [e2, zb_some]
    show (if (1 : Int32) ≤ 0 then _ else F_X11_carries_24 fu fu mm 1 mcar (-1) 0) = _
    rw [if_neg (by decide), car_no hf (by decide)]
theorem q_car {fu : Nat} (hf : 30 ≤ fu) {st : SS} {mm : Nat → Int64} {a : AS} {B : Int} (h : CR st a) (g : MR mm a) (ho : OKA B a) (t : Int32) (mcar : Nat → Int32) {p w f : Int} (hp : r32 p) (hw : r32 w) (hr : r32 f) : QW [(3, 1), (0, 2)] (F_X10_carries fu st (iI p) (iI w) (iI f)) (F_X11_carries fu mm t mcar (iI p) (iI w) (iI f)) := by
  have hc := ho.1
  unfold F_X10_carries
  rcases f11_car hf h g ho t mcar hp hw hr with ⟨j, m', hj, hA, e1, e2⟩ | ⟨j, hA, e1, e2⟩ | ⟨e1, e2⟩
  · obtain ⟨A1, A2, A3, A4⟩ := hA
    have hv := ho.2.2.2.2.2.2.2.1 j hj
    rw [e1, zb_some, zc_ok, f10_amt hw hr ⟨A1, A2, A3, A4⟩, zb_some, zc_ok, if_neg (ii_gd (by omega) (by omega)), f10_uni hw hr, zb_some, cs_V h hj hc, f10_cp hf hv.1 (by omega) (by omega) (by omega), zb_some, bmT_cnt, zb_some, ct_tk, e2]
    exact Or.inl ⟨_, m', rfl, rfl⟩
  · rw [e1, zb_some, zc_ok, f10_amtN hw hr hA, zb_some, zc_err, e2]
    exact Or.inr ⟨0, 2, _, mcar, by simp, rfl, rfl⟩
  · rw [e1, zb_some, zc_err, e2]
    exact Or.inr ⟨3, 1, _, mcar, by simp, rfl, rfl⟩
theorem q_cars {fu : Nat} (hf : 30 ≤ fu) {st : SS} {mm : Nat → Int64} {a : AS} {B : Int} (h : CR st a) (g : MR mm a) (ho : OKA B a) (t : Int32) (mcar : Nat → Int32) {p w f : Int} (hp : r32 p) (hw : r32 w) (hr : r32 f) : QW [(3, 1), (0, 2)] (F_X10_carriesBySums fu st (iI p) (iI w) (iI f)) (F_X11_carriesBySums fu mm t mcar (iI p) (iI w) (iI f)) := by
  have hc := ho.1
  unfold F_X10_carriesBySums F_X11_carriesBySums
  rcases f11_car hf h g ho t mcar hp hw hr with ⟨j, m', hj, hA, e1, e2⟩ | ⟨j, hA, e1, e2⟩ | ⟨e1, e2⟩
  · obtain ⟨A1, A2, A3, A4⟩ := hA
    have hv := ho.2.2.2.2.2.2.2.1 j hj
    rw [e1, zb_some, zc_ok, f10_amt hw hr ⟨A1, A2, A3, A4⟩, zb_some, zc_ok, if_neg (ii_gd (by omega) (by omega)), f10_uni hw hr, zb_some, cs_V h hj hc, f10_cds hf hv.1 (by omega) (by omega) (by omega), zb_some, e2, zb_some]
    exact Or.inl ⟨_, m', rfl, rfl⟩
  · rw [e1, zb_some, zc_ok, f10_amtN hw hr hA, zb_some, zc_err, e2, zb_some]
    exact Or.inr ⟨0, 2, _, mcar, by simp, rfl, rfl⟩
  · rw [e1, zb_some, zc_err, e2, zb_some]
    exact Or.inr ⟨3, 1, _, mcar, by simp, rfl, rfl⟩
/-- the longest row so far, and the row under way -/
def lgR (u : Nat → Bool) : Nat → Int
  | 0 => 0
  | i + 1 => if u i = true then lgR u i + 1 else 0
def lgM (u : Nat → Bool) : Nat → Int
  | 0 => 0
  | i + 1 => if lgM u i < lgR u (i + 1) then lgR u (i + 1) else lgM u i
theorem lg_bd (u : Nat → Bool) : ∀ i : Nat, (0 ≤ lgR u i ∧ lgR u i ≤ i) ∧ 0 ≤ lgM u i ∧ lgM u i ≤ i := by
  intro i
  induction i with
  | zero => exact ⟨⟨Int.le_refl _, Int.le_refl _⟩, Int.le_refl _, Int.le_refl _⟩
  | succ i ih =>
    have e1 : lgR u (i + 1) = if u i = true then lgR u i + 1 else 0 := rfl
    have e2 : lgM u (i + 1) = if lgM u i < lgR u (i + 1) then lgR u (i + 1) else lgM u i := rfl
    have h1 : 0 ≤ lgR u (i + 1) ∧ lgR u (i + 1) ≤ ((i + 1 : Nat) : Int) := by rw [e1]; split <;> omega
    refine ⟨h1, ?_⟩
    rw [e2]; split <;> omega
theorem lg_t {u : Nat → Bool} {i : Nat} (h : u i = true) : lgR u (i + 1) = lgR u i + 1 ∧ lgM u (i + 1) = if lgM u i < lgR u i + 1 then lgR u i + 1 else lgM u i := by
  have e1 : lgR u (i + 1) = lgR u i + 1 := if_pos h
  have e2 : lgM u (i + 1) = if lgM u i < lgR u (i + 1) then lgR u (i + 1) else lgM u i := rfl
  rw [e1] at e2
  exact ⟨e1, e2⟩
theorem lg_f {u : Nat → Bool} {i : Nat} (h : u i = false) : lgR u (i + 1) = 0 ∧ lgM u (i + 1) = lgM u i := by
  have e1 : lgR u (i + 1) = 0 := if_neg (by rw [h]; decide)
  have e2 : lgM u (i + 1) = if lgM u i < lgR u (i + 1) then lgR u (i + 1) else lgM u i := rfl
  have := lg_bd u i
  rw [e1, if_neg (by omega)] at e2
  exact ⟨e1, e2⟩
theorem f10_long {fu : Nat} {st : SS} {u : Nat → Bool} : ∀ (n i : Nat), i ≤ 10 → 10 < n + i → F_X10_longestCarry_41 fu n st (bmT u) (iI (lgM u i)) (iI (lgR u i)) (iI (i : Int)) = some (.ok (iI (lgM u 10))) := by
  intro n
  induction n with
  | zero => intro i _ _; omega
  | succ n ih =>
    intro i hi hn
    have hb := lg_bd u i
    unfold F_X10_longestCarry_41
    rw [show (10 : Int32) = iI ((10 : Nat) : Int) from rfl, ti_le (by omega) (by omega) (by omega) (by omega)]
    by_cases e : ((10 : Nat) : Int) ≤ (i : Int)
    · rw [if_pos e, show i = 10 from by omega]
    · rw [if_neg e]
      cases hu : u i with
      | true =>
        obtain ⟨l1, l2⟩ := lg_t hu
        have et : (if iI (lgM u i) < iI (lgR u i + 1) then iI (lgR u i + 1) else iI (lgM u i)) = iI (lgM u (i + 1)) := by
          rw [ti_lt (by omega) (by omega) (by omega) (by omega), l2]; split <;> rfl
        rw [if_pos ((bmT_get u (by omega)).mpr hu), zl_eq, ii_L1, ii_add, zl_eq, zl_eq, et, ii_add, ii_nx, ← l1]
        exact ih (i + 1) (by omega) (by omega)
      | false =>
        obtain ⟨l1, l2⟩ := lg_f hu
        have et : (if iI (lgM u i) < 0 then 0 else iI (lgM u i)) = iI (lgM u (i + 1)) := by
          rw [ii_L0, ti_lt (by omega) (by omega) (by omega) (by omega), if_neg (by omega), l2]
        rw [if_neg (fun g => by have := (bmT_get u (by omega)).mp g; rw [hu] at this; cases this), zl_eq, zl_eq, et, ii_L1, ii_add, ii_nx, ii_L0, ← l1]
        exact ih (i + 1) (by omega) (by omega)
theorem f11_long {fu : Nat} {mm : Nat → Int64} {mcar : Nat → Int32} {u : Nat → Bool} (hU : UR mcar u 10) : ∀ (n i : Nat), i ≤ 10 → 10 < n + i → F_X11_longestCarry_27 fu n mm 0 mcar (iI (lgM u i)) (iI (lgR u i)) (iI (i : Int)) = some (iI (lgM u 10), 0, mcar) := by
  intro n
  induction n with
  | zero => intro i _ _; omega
  | succ n ih =>
    intro i hi hn
    have hb := lg_bd u i
    unfold F_X11_longestCarry_27
    rw [show (10 : Int32) = iI ((10 : Nat) : Int) from rfl, ti_le (by omega) (by omega) (by omega) (by omega)]
    by_cases e : ((10 : Nat) : Int) ≤ (i : Int)
    · rw [if_pos e, show i = 10 from by omega]
    · rw [if_neg e, if_pos rfl, if_neg (ii_gd (by omega) (by omega)), ii_nc i (by omega), hU i (by omega), tb_0]
      cases hu : u i with
      | true =>
        obtain ⟨l1, l2⟩ := lg_t hu
        have et : (if iI (lgM u i) < iI (lgR u i + 1) then iI (lgR u i + 1) else iI (lgM u i)) = iI (lgM u (i + 1)) := by
          rw [ti_lt (by omega) (by omega) (by omega) (by omega), l2]; split <;> rfl
        rw [if_neg (by decide), zl_eq, ii_L1, ii_add, zl_eq, zl_eq, et, ii_add, ii_nx, ← l1]
        exact ih (i + 1) (by omega) (by omega)
      | false =>
        obtain ⟨l1, l2⟩ := lg_f hu
        have et : (if iI (lgM u i) < 0 then 0 else iI (lgM u i)) = iI (lgM u (i + 1)) := by
          rw [ii_L0, ti_lt (by omega) (by omega) (by omega) (by omega), if_neg (by omega), l2]
        have q := ih (i + 1) (by omega) (by omega)
        rw [if_pos rfl, zl_eq, zl_eq, et, ii_L1, ii_add, ii_nx]
        rw [l1] at q
        exact q
theorem long_no {fu : Nat} (hf : 30 ≤ fu) {mm : Nat → Int64} {mcar : Nat → Int32} {t : Int32} (ht : ¬ t = 0) : F_X11_longestCarry_27 fu fu mm t mcar (-1) 0 0 = some (-1, t, mcar) := by
  obtain ⟨n, rfl⟩ : ∃ n, fu = n + 1 := ⟨fu - 1, by omega⟩
  unfold F_X11_longestCarry_27
  rw [if_neg (by decide), if_neg ht]
theorem lg_tk (u : Nat → Bool) : ∀ i, i ≤ 10 → lgR (tk u 10) i = lgR u i ∧ lgM (tk u 10) i = lgM u i := by
  intro i
  induction i with
  | zero => intro _; exact ⟨rfl, rfl⟩
  | succ i ih =>
    intro hi
    obtain ⟨i1, i2⟩ := ih (by omega)
    have e : tk u 10 i = u i := if_pos (by omega)
    have r : lgR (tk u 10) (i + 1) = lgR u (i + 1) := by
      show (if tk u 10 i = true then lgR (tk u 10) i + 1 else 0) = if u i = true then lgR u i + 1 else 0
      rw [e, i1]
    refine ⟨r, ?_⟩
    show (if lgM (tk u 10) i < lgR (tk u 10) (i + 1) then lgR (tk u 10) (i + 1) else lgM (tk u 10) i) = if lgM u i < lgR u (i + 1) then lgR u (i + 1) else lgM u i
    rw [r, i2]
theorem q_long {fu : Nat} (hf : 30 ≤ fu) {st : SS} {mm : Nat → Int64} {a : AS} {B : Int} (h : CR st a) (g : MR mm a) (ho : OKA B a) (t : Int32) (mcar : Nat → Int32) {p w f : Int} (hp : r32 p) (hw : r32 w) (hr : r32 f) : QW [(3, 1), (0, 2)] (F_X10_longestCarry fu st (iI p) (iI w) (iI f)) (F_X11_longestCarry fu mm t mcar (iI p) (iI w) (iI f)) := by
  have hc := ho.1
  unfold F_X10_longestCarry F_X11_longestCarry
  rcases f11_adds hf h g ho t mcar hp hw hr with ⟨j, m', hj, hA, e1, e2, hU⟩ | ⟨j, hA, e1, e2⟩ | ⟨e1, e2⟩
  · obtain ⟨A1, A2, A3, A4⟩ := hA
    have hv := ho.2.2.2.2.2.2.2.1 j hj
    have l1 := f10_long (fu := fu) (st := st) (u := tk (cb (a_V a j) (10000 * w + f)) 10) fu 0 (by omega) (by omega)
    have l2 := f11_long (fu := fu) (mm := mm) hU fu 0 (by omega) (by omega)
    rw [(lg_tk _ 10 (by omega)).2] at l1
    have l1' : F_X10_longestCarry_41 fu fu st (bmT (tk (cb (a_V a j) (10000 * w + f)) 10)) 0 0 0 = some (.ok (iI (lgM (cb (a_V a j) (10000 * w + f)) 10))) := l1
    rw [e1, zb_some, zc_ok, f10_amt hw hr ⟨A1, A2, A3, A4⟩, zb_some, zc_ok, if_neg (ii_gd (by omega) (by omega)), f10_uni hw hr, zb_some, cs_V h hj hc, f10_cp hf hv.1 (by omega) (by omega) (by omega), zb_some, l1', e2, zb_some]
    refine Or.inl ⟨_, m', rfl, ?_⟩
    show (if (0 : Int32) ≤ 0 then F_X11_longestCarry_27 fu fu mm 0 m' 0 0 0 else _) = _
    rw [if_pos (by decide)]
    exact l2
  · rw [e1, zb_some, zc_ok, f10_amtN hw hr hA, zb_some, zc_err, e2, zb_some]
    refine Or.inr ⟨0, 2, -1, mcar, by simp, rfl, ?_⟩
    show (if (2 : Int32) ≤ 0 then _ else F_X11_longestCarry_27 fu fu mm 2 mcar (-1) 0 0) = _
    rw [if_neg (by decide), long_no hf (by decide)]
    rfl
  · rw [e1, zb_some, zc_err, e2, zb_some]
    refine Or.inr ⟨3, 1, -1, mcar, by simp, rfl, ?_⟩
    show (if (1 : Int32) ≤ 0 then _ else F_X11_longestCarry_27 fu fu mm 1 mcar (-1) 0 0) = _
    rw [if_neg (by decide), long_no hf (by decide)]
    rfl
