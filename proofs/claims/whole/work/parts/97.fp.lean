-- no quotient here is a NaN
def kOK (f : FP.Core.Fmt) (d : FP.Core.Datum) : Prop := d ≠ .nan ∧ ∀ s c q, d = .fin s c q → c < 2 ^ f.p ∧ f.qmin ≤ q ∧ q ≤ f.qmax
theorem k_inf (f : FP.Core.Fmt) (s : Bool) : kOK f (.inf s) := ⟨fun h => (by cases h), fun _ _ _ h => (by cases h)⟩
theorem k_fin {f : FP.Core.Fmt} {s : Bool} {c : Nat} {q : Int} (h1 : c < 2 ^ f.p) (h2 : f.qmin ≤ q) (h3 : q ≤ f.qmax) : kOK f (.fin s c q) := by
  refine ⟨fun h => (by cases h), fun s' c' q' h => ?_⟩
  injection h with a1 a2 a3
  subst a2; subst a3
  exact ⟨h1, h2, h3⟩
theorem k_bound {f : FP.Core.Fmt} {s : Bool} {c : Nat} {q : Int} (h1 : c < 2 ^ f.p) (h2 : f.qmin ≤ q) : kOK f (FP.Core.bound f s c q) := by
  unfold FP.Core.bound
  by_cases h : q ≤ f.qmax
  · rw [if_pos h]; exact k_fin h1 h2 h
  · rw [if_neg h]; exact k_inf f s
theorem k_ratio {f : FP.Core.Fmt} (ht : f.tails < 2 ^ f.p) (hm : f.qmin ≤ f.qmax) (s : Bool) (num den : Nat) (e : Int) : kOK f (FP.Core.roundRatio f s num den e) := by
  have hp : 0 < 2 ^ f.p := Nat.pow_pos (by decide)
  unfold FP.Core.roundRatio
  by_cases h : num = 0
  · rw [if_pos h]; exact k_fin hp (Int.le_refl _) hm
  · rw [if_neg h]
    have hq : f.qmin ≤ FP.Core.quantum f num den e := Int.le_max_left _ _
    unfold FP.Core.roundAt FP.Core.settle
    by_cases h2 : FP.Core.nearest (FP.Core.unitsNum num e (FP.Core.quantum f num den e)) (FP.Core.unitsDen den e (FP.Core.quantum f num den e)) < 2 ^ f.p
    · rw [if_pos h2]; exact k_bound h2 hq
    · rw [if_neg h2]; exact k_bound ht (by omega)
theorem k_quot {f : FP.Core.Fmt} (ht : f.tails < 2 ^ f.p) (hm : f.qmin ≤ f.qmax) {x y : FP.Core.Datum} (hx : x ≠ .nan) (hy : ∃ t d r, y = .fin t d r ∧ d ≠ 0) : kOK f (FP.Core.quotient f x y) := by
  obtain ⟨t, d, r, rfl, hd⟩ := hy
  cases x with
  | nan => exact absurd rfl hx
  | inf s => exact k_inf f _
  | fin s c q =>
    show kOK f (if d = 0 then (if c = 0 then .nan else .inf (s != t)) else FP.Core.roundRatio f (s != t) c d (q - r))
    rw [if_neg hd]
    exact k_ratio ht hm _ _ _ _
theorem p_64 : FP.Core.b64.tails = 4503599627370496 ∧ FP.Core.b64.exps = 2048 ∧ FP.Core.b64.qmin = -1074 ∧ FP.Core.b64.qmax = 971 ∧ 2 ^ FP.Core.b64.p = 9007199254740992 := by decide
theorem p_32 : FP.Core.b32.tails = 8388608 ∧ FP.Core.b32.exps = 256 ∧ FP.Core.b32.qmin = -149 ∧ FP.Core.b32.qmax = 104 ∧ 2 ^ FP.Core.b32.p = 16777216 := by decide
theorem h_64 : FP.Core.b64.tails < 2 ^ FP.Core.b64.p ∧ FP.Core.b64.qmin ≤ FP.Core.b64.qmax := by decide
theorem h_32 : FP.Core.b32.tails < 2 ^ FP.Core.b32.p ∧ FP.Core.b32.qmin ≤ FP.Core.b32.qmax := by decide
theorem e_64 {d : FP.Core.Datum} (h : kOK FP.Core.b64 d) : FP.Core.encode FP.Core.b64 d < 18446744073709551616 ∧ FP.Core.encode FP.Core.b64 d % 9223372036854775808 ≤ 9218868437227405312 := by
  obtain ⟨p1, p2, p3, p4, p5⟩ := p_64
  obtain ⟨h1, h2⟩ := h
  cases d with
  | nan => exact absurd rfl h1
  | inf s => cases s <;> decide
  | fin s c q =>
    obtain ⟨k1, k2, k3⟩ := h2 s c q rfl
    rw [p5] at k1; rw [p3] at k2; rw [p4] at k3
    unfold FP.Core.encode FP.Core.assemble
    rw [p1, p2, p3]
    have hs : s.toNat ≤ 1 := by cases s <;> decide
    by_cases hc : c < 4503599627370496
    · simp only [if_pos hc]
      omega
    · simp only [if_neg hc]
      omega
theorem e_32 {d : FP.Core.Datum} (h : kOK FP.Core.b32 d) : FP.Core.encode FP.Core.b32 d < 4294967296 ∧ FP.Core.encode FP.Core.b32 d % 2147483648 ≤ 2139095040 := by
  obtain ⟨p1, p2, p3, p4, p5⟩ := p_32
  obtain ⟨h1, h2⟩ := h
  cases d with
  | nan => exact absurd rfl h1
  | inf s => cases s <;> decide
  | fin s c q =>
    obtain ⟨k1, k2, k3⟩ := h2 s c q rfl
    rw [p5] at k1; rw [p3] at k2; rw [p4] at k3
    unfold FP.Core.encode FP.Core.assemble
    rw [p1, p2, p3]
    have hs : s.toNat ≤ 1 := by cases s <;> decide
    by_cases hc : c < 8388608
    · simp only [if_pos hc]
      omega
    · simp only [if_neg hc]
      omega
theorem d_64 {n : Nat} (h : n % 9223372036854775808 ≤ 9218868437227405312) : FP.Core.decode FP.Core.b64 n ≠ .nan := by
  obtain ⟨p1, p2, p3, p4, p5⟩ := p_64
  unfold FP.Core.decode FP.Core.fieldE FP.Core.fieldT FP.Core.fieldS
  rw [p1, p2]
  by_cases h1 : n / 4503599627370496 % 2048 = 2048 - 1
  · have h2 : n % 4503599627370496 = 0 := by omega
    rw [if_pos h1, if_pos h2]; exact fun g => by cases g
  · rw [if_neg h1]
    split <;> exact fun g => by cases g
theorem d_32 {n : Nat} (h : n % 2147483648 ≤ 2139095040) : FP.Core.decode FP.Core.b32 n ≠ .nan := by
  obtain ⟨p1, p2, p3, p4, p5⟩ := p_32
  unfold FP.Core.decode FP.Core.fieldE FP.Core.fieldT FP.Core.fieldS
  rw [p1, p2]
  by_cases h1 : n / 8388608 % 256 = 256 - 1
  · have h2 : n % 8388608 = 0 := by omega
    rw [if_pos h1, if_pos h2]; exact fun g => by cases g
  · rw [if_neg h1]
    split <;> exact fun g => by cases g
/-- bits that are no NaN -/
def nn64 (a : UInt64) : Prop := a.toNat % 9223372036854775808 ≤ 9218868437227405312
def nn32 (a : UInt32) : Prop := a.toNat % 2147483648 ≤ 2139095040
theorem zn64_of {a : UInt64} (h : nn64 a) : zn64 a := by
  show a &&& 0x7fffffffffffffff ≤ 0x7ff0000000000000
  rw [UInt64.le_iff_toNat_le, UInt64.toNat_and]
  have e : (0x7fffffffffffffff : UInt64).toNat = 2 ^ 63 - 1 := by decide
  have e2 : (0x7ff0000000000000 : UInt64).toNat = 9218868437227405312 := by decide
  rw [e, e2, Nat.and_two_pow_sub_one_eq_mod]
  exact h
theorem zn32_of {a : UInt32} (h : nn32 a) : zn32 a := by
  show a &&& 0x7fffffff ≤ 0x7f800000
  rw [UInt32.le_iff_toNat_le, UInt32.toNat_and]
  have e : (0x7fffffff : UInt32).toNat = 2 ^ 31 - 1 := by decide
  have e2 : (0x7f800000 : UInt32).toNat = 2139095040 := by decide
  rw [e, e2, Nat.and_two_pow_sub_one_eq_mod]
  exact h
theorem nn_enc64 {d : FP.Core.Datum} (h : kOK FP.Core.b64 d) : nn64 (.ofNat (FP.Core.encode FP.Core.b64 d)) := by
  obtain ⟨h1, h2⟩ := e_64 h
  unfold nn64
  rw [UInt64.toNat_ofNat', Nat.mod_eq_of_lt (show _ < 2 ^ 64 from h1)]
  exact h2
theorem nn_enc32 {d : FP.Core.Datum} (h : kOK FP.Core.b32 d) : nn32 (.ofNat (FP.Core.encode FP.Core.b32 d)) := by
  obtain ⟨h1, h2⟩ := e_32 h
  unfold nn32
  rw [UInt32.toNat_ofNat', Nat.mod_eq_of_lt (show _ < 2 ^ 32 from h1)]
  exact h2
theorem nn_l2d (a : Int64) : nn64 (FP.l2d a) := nn_enc64 (k_ratio h_64.1 h_64.2 _ _ _ _)
theorem nn_l2f (a : Int64) : nn32 (FP.l2f a) := nn_enc32 (k_ratio h_32.1 h_32.2 _ _ _ _)
theorem nn_ddiv {a b : UInt64} (ha : nn64 a) (hb : ∃ t d r, FP.Core.decode FP.Core.b64 b.toNat = .fin t d r ∧ d ≠ 0) : nn64 (FP.ddiv a b) := nn_enc64 (k_quot h_64.1 h_64.2 (d_64 ha) hb)
theorem nn_fdiv {a b : UInt32} (ha : nn32 a) (hb : ∃ t d r, FP.Core.decode FP.Core.b32 b.toNat = .fin t d r ∧ d ≠ 0) : nn32 (FP.fdiv a b) := nn_enc32 (k_quot h_32.1 h_32.2 (d_32 ha) hb)
theorem nn_f2d {a : UInt32} (ha : nn32 a) : nn64 (FP.f2d a) := by
  have h := d_32 ha
  have hf : FP.Core.fIsNaN a = false := decide_eq_false h
  unfold FP.f2d
  rw [hf, if_neg (by decide)]
  refine nn_enc64 ?_
  cases e : FP.Core.decode FP.Core.b32 a.toNat with
  | nan => exact absurd e h
  | inf s => exact k_inf _ s
  | fin s c q => exact k_ratio h_64.1 h_64.2 _ _ _ _
theorem dc_self {a : UInt64} (ha : nn64 a) : Op.cmpValue (FP.dcmp a a) .l = 0 := by
  have h := d_64 ha
  have : FP.dcmp a a = some .eq := by
    show FP.Core.order (FP.Core.decode FP.Core.b64 a.toNat) (FP.Core.decode FP.Core.b64 a.toNat) = some .eq
    cases e : FP.Core.decode FP.Core.b64 a.toNat with
    | nan => exact absurd e h
    | inf s => cases s <;> decide
    | fin s c q =>
      show some (compare _ _) = some .eq
      rw [show compare (FP.Core.signed s (FP.Core.inUnits c q (min q q))) (FP.Core.signed s (FP.Core.inUnits c q (min q q))) = .eq from by simp [compare, compareOfLessAndEq]]
  rw [this]
  rfl
theorem ct_d {c : Nat} (h : 0 < c) (h' : c ≤ 6) : ∃ t d r, FP.Core.decode FP.Core.b64 (FP.i2d (iI (c : Int))).toNat = .fin t d r ∧ d ≠ 0 := by
  have : c = 1 ∨ c = 2 ∨ c = 3 ∨ c = 4 ∨ c = 5 ∨ c = 6 := by omega
  rcases this with e|e|e|e|e|e <;> subst e
  · exact ⟨false, 4503599627370496, -52, by decide +kernel, by decide⟩
  · exact ⟨false, 4503599627370496, -51, by decide +kernel, by decide⟩
  · exact ⟨false, 6755399441055744, -51, by decide +kernel, by decide⟩
  · exact ⟨false, 4503599627370496, -50, by decide +kernel, by decide⟩
  · exact ⟨false, 5629499534213120, -50, by decide +kernel, by decide⟩
  · exact ⟨false, 6755399441055744, -50, by decide +kernel, by decide⟩
theorem tt_d : ∃ t d r, FP.Core.decode FP.Core.b64 (4666723172467343360 : UInt64).toNat = .fin t d r ∧ d ≠ 0 := ⟨false, 5497558138880000, -39, by decide +kernel, by decide⟩
theorem lead_1 {n : Nat} (h : n ≠ 0) : FP.Core.leading n 1 = (n.log2 : Int) := by
  have h2 := Nat.log2_self_le h
  unfold FP.Core.leading
  have e : (1 : Nat).log2 = 0 := by decide
  rw [e]
  simp only [Int.natCast_zero, Int.sub_zero]
  rw [if_pos]
  have e1 : ((n.log2 : Int)).toNat = n.log2 := rfl
  have e2 : (-(n.log2 : Int)).toNat = 0 := by omega
  rw [e1, e2]
  omega
theorem near_pos {a b : Nat} (hb : 0 < b) (h : b ≤ a) : 0 < FP.Core.nearest a b := by
  have : 0 < a / b := Nat.div_pos h hb
  unfold FP.Core.nearest
  repeat' split
  all_goals omega
theorem l2f_d {s : Int} (h : 0 < s) (h' : s ≤ 100000000000) : ∃ t d r, FP.Core.decode FP.Core.b32 (FP.l2f (lI s)).toNat = .fin t d r ∧ d ≠ 0 := by
  obtain ⟨p1, p2, p3, p4, p5⟩ := p_32
  obtain ⟨n, rfl⟩ : ∃ n : Nat, s = n := ⟨s.toNat, by omega⟩
  have hn : n ≠ 0 := by omega
  have hl := Nat.log2_self_le hn
  have hl2 : n.log2 < 37 := (Nat.log2_lt hn).mpr (by omega)
  have hq : FP.Core.quantum FP.Core.b32 n 1 0 = max (-149) ((n.log2 : Int) - 23) := by
    unfold FP.Core.quantum
    rw [lead_1 hn, p3]
    congr 1
  have hv : (lI (n : Int)).toInt = n := ll_val (by omega) (by omega)
  have hr : FP.Core.round FP.Core.b32 (FP.Core.ofInt (lI (n : Int)).toInt) = FP.Core.roundAt FP.Core.b32 (decide ((n : Int) < 0)) n 1 0 (FP.Core.quantum FP.Core.b32 n 1 0) := by
    rw [hv]
    show FP.Core.roundRatio FP.Core.b32 (decide ((n : Int) < 0)) ((n : Int)).natAbs 1 0 = _
    unfold FP.Core.roundRatio
    rw [show ((n : Int)).natAbs = n from rfl, if_neg hn]
  generalize hQ : FP.Core.quantum FP.Core.b32 n 1 0 = Q at *
  have hQ1 : -149 ≤ Q ∧ Q ≤ 13 := by rw [hq]; omega
  have hQ2 : Q ≤ n.log2 := by rw [hq]; omega
  have hc : 0 < FP.Core.nearest (FP.Core.unitsNum n 0 Q) (FP.Core.unitsDen 1 0 Q) := by
    apply near_pos
    · unfold FP.Core.unitsDen; rw [Nat.one_mul]; exact Nat.pow_pos (by decide)
    · unfold FP.Core.unitsDen FP.Core.unitsNum
      rw [Nat.one_mul]
      have h1 : 2 ^ (Q - 0).toNat ≤ 2 ^ n.log2 := Nat.pow_le_pow_right (by decide) (by omega)
      have h2 : 1 ≤ 2 ^ (0 - Q).toNat := Nat.pow_pos (by decide)
      have h3 : n * 1 ≤ n * 2 ^ (0 - Q).toNat := Nat.mul_le_mul_left _ h2
      omega
  -- what is encoded: a number with a digit
  have key : ∀ (t : Bool) (c : Nat) (q : Int), 0 < c → c < 16777216 → -149 ≤ q → q ≤ 14 → ∃ t' d r, FP.Core.decode FP.Core.b32 (UInt32.ofNat (FP.Core.encode FP.Core.b32 (.fin t c q))).toNat = .fin t' d r ∧ d ≠ 0 := by
    intro t c q c1 c2 q1 q2
    have hs : t.toNat ≤ 1 := by cases t <;> decide
    have hb := (e_32 (k_fin (f := FP.Core.b32) (s := t) (c := c) (q := q) (by rw [p5]; exact c2) (by rw [p3]; exact q1) (by rw [p4]; omega))).1
    rw [UInt32.toNat_ofNat', Nat.mod_eq_of_lt (show _ < 2 ^ 32 from hb)]
    unfold FP.Core.decode FP.Core.fieldE FP.Core.fieldT FP.Core.fieldS FP.Core.encode FP.Core.assemble
    rw [p1, p2, p3]
    by_cases hc : c < 8388608
    · simp only [if_pos hc]
      rw [if_neg (by omega), if_pos (by omega)]
      exact ⟨_, _, _, rfl, by omega⟩
    · simp only [if_neg hc]
      rw [if_neg (by omega), if_neg (by omega)]
      exact ⟨_, _, _, rfl, by omega⟩
  show ∃ t d r, FP.Core.decode FP.Core.b32 (UInt32.ofNat (FP.Core.encode FP.Core.b32 (FP.Core.round FP.Core.b32 (FP.Core.ofInt (lI (n : Int)).toInt)))).toNat = .fin t d r ∧ d ≠ 0
  rw [hr]
  unfold FP.Core.roundAt FP.Core.settle FP.Core.bound
  rw [p5, p4, p1]
  by_cases h2 : FP.Core.nearest (FP.Core.unitsNum n 0 Q) (FP.Core.unitsDen 1 0 Q) < 16777216
  · rw [if_pos h2, if_pos (by omega)]
    exact key _ _ _ hc h2 (by omega) (by omega)
  · rw [if_neg h2, if_pos (by omega)]
    exact key _ _ _ (by omega) (by omega) (by omega) (by omega)
