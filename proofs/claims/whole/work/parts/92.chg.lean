-- the changes: both sides change alike
/-- modes -/
theorem f11_mdY {m : Int} (h : md m) : F_X11_isMode (iI m) = some (iI 1) := by
  rcases h with h|h|h|h|h <;> subst h <;> decide
theorem f11_mdN {m : Int} (hm : r32 m) (h : ¬ md m) : F_X11_isMode (iI m) = some (iI 0) := by
  obtain ⟨a1, a2⟩ := hm
  unfold md at h
  simp (disch := omega) only [zl_eq, zb_some, zc_ok, zc_err, zo_some, zo_none, ii_add, ii_sub, ii_mul, ii_neg, ii_lt, ii_le, ii_eq, ii_nat, ii_div, ii_toL, ll_add, ll_sub, ll_mul, ll_neg, ll_lt, ll_le, ll_eq, ll_div, ll_toI, md_eq, tn_0, tn_1, tn_2, tn_3, tn_c, tn_l0, tn_l1, tn_l2, tn_l3, zi_z, ii_L0, ii_L1, ii_L2, ii_L3, ii_L4, ii_L5, ii_L6, ii_L7, ii_L8, ii_L9, ii_L10, ii_L20, ii_L28, ii_L31, ii_L32, ii_L40, ii_L41, ii_L45, ii_L46, ii_L47, ii_L48, ii_L57, ii_L58, ii_L59, ii_L60, ii_L63, ii_L64, ii_L80, ii_L100, ii_L101, ii_L104, ii_L108, ii_L117, ii_L196, ii_L224, ii_L305, ii_L255, ii_L999, ii_L1000, ii_L9999, ii_L10000, ii_L65535, ii_L999999, ll_L0, ll_L1, ll_L2, ll_L4, ll_L5, ll_L6, ll_L9, ll_L10, ll_L20, ll_L48, ll_L57, ll_L100, ll_L999, ll_L1000, ll_L9999, ll_L10000, ll_L999999, ll_L10000000000, ll_L9223372036854775807, F_X11_isMode]
  repeat' split
  all_goals first | rfl | omega
theorem f1_ix (fu n : Nat) (x4 : Int32) : F_J1_indexOfChar_4cfef_7 fu (n + 6) 0 5 x4 0 = if (100 : Int32) = x4 then some 0 else if (117 : Int32) = x4 then some 1 else if (104 : Int32) = x4 then some 2 else if (108 : Int32) = x4 then some 3 else if (101 : Int32) = x4 then some 4 else some (-1) := by
  have e0 : F_J1_indexOfChar_4cfef_7 fu (n + 6) 0 5 x4 0 = if (100 : Int32) = x4 then some 0 else F_J1_indexOfChar_4cfef_7 fu (n + 5) 0 5 x4 1 := by
    conv => lhs; unfold F_J1_indexOfChar_4cfef_7
    rw [if_neg (by decide), if_neg (by decide)]; rfl
  have e1 : F_J1_indexOfChar_4cfef_7 fu (n + 5) 0 5 x4 1 = if (117 : Int32) = x4 then some 1 else F_J1_indexOfChar_4cfef_7 fu (n + 4) 0 5 x4 2 := by
    conv => lhs; unfold F_J1_indexOfChar_4cfef_7
    rw [if_neg (by decide), if_neg (by decide)]; rfl
  have e2 : F_J1_indexOfChar_4cfef_7 fu (n + 4) 0 5 x4 2 = if (104 : Int32) = x4 then some 2 else F_J1_indexOfChar_4cfef_7 fu (n + 3) 0 5 x4 3 := by
    conv => lhs; unfold F_J1_indexOfChar_4cfef_7
    rw [if_neg (by decide), if_neg (by decide)]; rfl
  have e3 : F_J1_indexOfChar_4cfef_7 fu (n + 3) 0 5 x4 3 = if (108 : Int32) = x4 then some 3 else F_J1_indexOfChar_4cfef_7 fu (n + 2) 0 5 x4 4 := by
    conv => lhs; unfold F_J1_indexOfChar_4cfef_7
    rw [if_neg (by decide), if_neg (by decide)]; rfl
  have e4 : F_J1_indexOfChar_4cfef_7 fu (n + 2) 0 5 x4 4 = if (101 : Int32) = x4 then some 4 else F_J1_indexOfChar_4cfef_7 fu (n + 1) 0 5 x4 5 := by
    conv => lhs; unfold F_J1_indexOfChar_4cfef_7
    rw [if_neg (by decide), if_neg (by decide)]; rfl
  have e5 : F_J1_indexOfChar_4cfef_7 fu (n + 1) 0 5 x4 5 = some (-1) := by
    unfold F_J1_indexOfChar_4cfef_7
    rw [if_pos (by decide)]
  rw [e0, e1, e2, e3, e4, e5]
theorem f1_by : ∀ m : Fin 256, (100 = (iI (m.val : Int)).toInt8.toInt32 ↔ m.val = 100) ∧ (117 = (iI (m.val : Int)).toInt8.toInt32 ↔ m.val = 117) ∧ (104 = (iI (m.val : Int)).toInt8.toInt32 ↔ m.val = 104) ∧ (108 = (iI (m.val : Int)).toInt8.toInt32 ↔ m.val = 108) ∧ (101 = (iI (m.val : Int)).toInt8.toInt32 ↔ m.val = 101) := by decide +kernel
theorem f1_index {m : Int} (hm : r32 m) {fu : Nat} (hf : 10 ≤ fu) : ∃ x, F_J0_indexOf_0f7a4 fu 0 (iI m) = some x ∧ (0 ≤ x ↔ md m) := by
  obtain ⟨a1, a2⟩ := hm
  obtain ⟨n, rfl⟩ : ∃ n, fu = n + 6 := ⟨fu - 6, by omega⟩
  have hl : F_J0_length_8abf5 0 = some 5 := by decide
  unfold F_J0_indexOf_0f7a4 F_J0_indexOf_7cf53 F_J1_indexOf_4cfef F_J0_isLatin1_aae02
  rw [zb_some, if_neg (by decide), hl, zb_some]
  by_cases h0 : 0 ≤ m ∧ m ≤ 255
  · have hc : F_J1_canEncode_9a6ad (iI m) = some (iI 1) := by simp (disch := omega) only [zl_eq, zb_some, zc_ok, zc_err, zo_some, zo_none, ii_add, ii_sub, ii_mul, ii_neg, ii_lt, ii_le, ii_eq, ii_nat, ii_div, ii_toL, ll_add, ll_sub, ll_mul, ll_neg, ll_lt, ll_le, ll_eq, ll_div, ll_toI, md_eq, tn_0, tn_1, tn_2, tn_3, tn_c, tn_l0, tn_l1, tn_l2, tn_l3, zi_z, ii_L0, ii_L1, ii_L2, ii_L3, ii_L4, ii_L5, ii_L6, ii_L7, ii_L8, ii_L9, ii_L10, ii_L20, ii_L28, ii_L31, ii_L32, ii_L40, ii_L41, ii_L45, ii_L46, ii_L47, ii_L48, ii_L57, ii_L58, ii_L59, ii_L60, ii_L63, ii_L64, ii_L80, ii_L100, ii_L101, ii_L104, ii_L108, ii_L117, ii_L196, ii_L224, ii_L305, ii_L255, ii_L999, ii_L1000, ii_L9999, ii_L10000, ii_L65535, ii_L999999, ll_L0, ll_L1, ll_L2, ll_L4, ll_L5, ll_L6, ll_L9, ll_L10, ll_L20, ll_L48, ll_L57, ll_L100, ll_L999, ll_L1000, ll_L9999, ll_L10000, ll_L999999, ll_L10000000000, ll_L9223372036854775807, F_J1_canEncode_9a6ad, if_true, if_false, if_pos, if_neg]
    have hz : zlet (if (0 : Int32) < 0 then 0 else 0) (fun zv3 => zlet (if (nI (zLen.getD 0 0)) < 5 then (nI (zLen.getD 0 0)) else 5) fun zv4 => if zv3 < zv4 then (zbind (F_J1_indexOfChar_4cfef (n + 6) 0 (iI m) zv3 zv4) fun zo6 => some zo6) else (some (-1))) = zbind (F_J1_indexOfChar_4cfef (n + 6) 0 (iI m) 0 5) fun zo6 => some zo6 := rfl
    rw [hc, zb_some, if_neg (by decide), hz]
    unfold F_J1_indexOfChar_4cfef
    rw [zl_eq, f1_ix]
    have hb := f1_by ⟨m.toNat, by omega⟩
    rw [show (((⟨m.toNat, by omega⟩ : Fin 256).val : Nat) : Int) = m from by show ((m.toNat : Nat) : Int) = m; omega] at hb
    obtain ⟨b1, b2, b3, b4, b5⟩ := hb
    have b1 : 100 = (iI m).toInt8.toInt32 ↔ m.toNat = 100 := b1
    have b2 : 117 = (iI m).toInt8.toInt32 ↔ m.toNat = 117 := b2
    have b3 : 104 = (iI m).toInt8.toInt32 ↔ m.toNat = 104 := b3
    have b4 : 108 = (iI m).toInt8.toInt32 ↔ m.toNat = 108 := b4
    have b5 : 101 = (iI m).toInt8.toInt32 ↔ m.toNat = 101 := b5
    by_cases c1 : 100 = (iI m).toInt8.toInt32
    · rw [if_pos c1, zb_some, zb_some]
      exact ⟨_, rfl, fun _ => Or.inl (by have := b1.mp c1; omega), fun _ => by decide⟩
    · rw [if_neg c1]
      by_cases c2 : 117 = (iI m).toInt8.toInt32
      · rw [if_pos c2, zb_some, zb_some]
        exact ⟨_, rfl, fun _ => Or.inr (Or.inl (by have := b2.mp c2; omega)), fun _ => by decide⟩
      · rw [if_neg c2]
        by_cases c3 : 104 = (iI m).toInt8.toInt32
        · rw [if_pos c3, zb_some, zb_some]
          exact ⟨_, rfl, fun _ => Or.inr (Or.inr (Or.inl (by have := b3.mp c3; omega))), fun _ => by decide⟩
        · rw [if_neg c3]
          by_cases c4 : 108 = (iI m).toInt8.toInt32
          · rw [if_pos c4, zb_some, zb_some]
            exact ⟨_, rfl, fun _ => Or.inr (Or.inr (Or.inr (Or.inl (by have := b4.mp c4; omega)))), fun _ => by decide⟩
          · rw [if_neg c4]
            by_cases c5 : 101 = (iI m).toInt8.toInt32
            · rw [if_pos c5, zb_some, zb_some]
              exact ⟨_, rfl, fun _ => Or.inr (Or.inr (Or.inr (Or.inr (by have := b5.mp c5; omega)))), fun _ => by decide⟩
            · rw [if_neg c5, zb_some, zb_some]
              refine ⟨_, rfl, fun h => absurd h (by decide), fun h => ?_⟩
              exfalso
              rcases h with h|h|h|h|h
              · exact c1 (b1.mpr (by omega))
              · exact c2 (b2.mpr (by omega))
              · exact c3 (b3.mpr (by omega))
              · exact c4 (b4.mpr (by omega))
              · exact c5 (b5.mpr (by omega))
  · have hc : F_J1_canEncode_9a6ad (iI m) = some (iI 0) := by
      simp (disch := omega) only [zl_eq, zb_some, zc_ok, zc_err, zo_some, zo_none, ii_add, ii_sub, ii_mul, ii_neg, ii_lt, ii_le, ii_eq, ii_nat, ii_div, ii_toL, ll_add, ll_sub, ll_mul, ll_neg, ll_lt, ll_le, ll_eq, ll_div, ll_toI, md_eq, tn_0, tn_1, tn_2, tn_3, tn_c, tn_l0, tn_l1, tn_l2, tn_l3, zi_z, ii_L0, ii_L1, ii_L2, ii_L3, ii_L4, ii_L5, ii_L6, ii_L7, ii_L8, ii_L9, ii_L10, ii_L20, ii_L28, ii_L31, ii_L32, ii_L40, ii_L41, ii_L45, ii_L46, ii_L47, ii_L48, ii_L57, ii_L58, ii_L59, ii_L60, ii_L63, ii_L64, ii_L80, ii_L100, ii_L101, ii_L104, ii_L108, ii_L117, ii_L196, ii_L224, ii_L305, ii_L255, ii_L999, ii_L1000, ii_L9999, ii_L10000, ii_L65535, ii_L999999, ll_L0, ll_L1, ll_L2, ll_L4, ll_L5, ll_L6, ll_L9, ll_L10, ll_L20, ll_L48, ll_L57, ll_L100, ll_L999, ll_L1000, ll_L9999, ll_L10000, ll_L999999, ll_L10000000000, ll_L9223372036854775807, F_J1_canEncode_9a6ad]
      repeat' split
      all_goals first | rfl | omega
    rw [hc, zb_some, if_pos (by decide), zb_some, zb_some]
    refine ⟨_, rfl, fun h => absurd h (by decide), fun h => ?_⟩
    exfalso
    rcases h with h|h|h|h|h <;> omega
theorem f10_mdY {m : Int} (h : md m) {fu : Nat} (hf : 10 ≤ fu) : F_X10_requireMode fu (iI m) = some (.ok ()) := by
  have hb := md_bd h
  obtain ⟨x, e, hx⟩ := f1_index (m := m) ⟨by omega, by omega⟩ hf
  unfold F_X10_requireMode
  rw [e, zb_some, if_pos (hx.mpr h)]
theorem f10_mdN {m : Int} (hm : r32 m) (h : ¬ md m) {fu : Nat} (hf : 10 ≤ fu) : F_X10_requireMode fu (iI m) = some (.error (0, ())) := by
  obtain ⟨x, e, hx⟩ := f1_index hm hf
  unfold F_X10_requireMode
  rw [e, zb_some, if_neg (fun g => h (hx.mp g))]
/-- the two results of a change agree -/
def CH {T : Type} (L : List (Nat × Int)) (B : Int) (st : SS) (mm : Nat → Int64) (t : Int32) (x : Option (Except (Nat × SS) (T × SS))) (y : Option (T × (Nat → Int64) × Int32)) : Prop :=
  (∃ e k q, (e, k) ∈ L ∧ x = some (.error (e, st)) ∧ y = some (q, mm, iI k)) ∨ ∃ r st' mm' a', x = some (.ok (r, st')) ∧ y = some (r, mm', t) ∧ CR st' a' ∧ MR mm' a' ∧ OKA (B + 10) a'
theorem OKA.mono {B B' : Int} {a : AS} (h : OKA B a) (hB : B ≤ B') (hB' : B' ≤ 1000000) : OKA B' a := by
  obtain ⟨o1, o2, o3, o4, o5, o6, o7, o8⟩ := h
  exact ⟨o1, o2, by omega, o4, by omega, hB', fun k hk => by have := o7 k hk; omega, o8⟩
theorem oka_ent {B : Int} {a : AS} (h : OKA B a) (hB : B + 10 ≤ 1000000) (hc : a_c a < 6) {v s m : Int} (hv : 0 ≤ v ∧ v < 10000000000) (hs : scl s) (hm : md m) (hd : v % stp s = 0) : OKA (B + 10) (ent a v s m) := by
  obtain ⟨o1, o2, o3, o4, o5, o6, o7, o8, o9, o10, o11, o12⟩ := h
  refine ⟨?_, ?_, ?_, o4, ?_, hB, ?_, ?_, ?_, ?_, ?_, ?_⟩
  · show a_c a + 1 ≤ 6; omega
  · show 0 ≤ a_n a + 1; omega
  · show a_n a + 1 ≤ B + 10; omega
  · show a_e a ≤ B + 10; omega
  · intro k hk
    show 0 ≤ up (a_I a) (a_c a) (a_n a) k ∧ up (a_I a) (a_c a) (a_n a) k ≤ B + 10
    by_cases e : k = a_c a
    · rw [e, up_s]; omega
    · have hk' : k < a_c a + 1 := hk
      rw [up_n e]; have := o7 k (by omega); omega
  · intro k hk
    show 0 ≤ up (a_V a) (a_c a) v k ∧ up (a_V a) (a_c a) v k < 10000000000
    by_cases e : k = a_c a
    · rw [e, up_s]; omega
    · have hk' : k < a_c a + 1 := hk
      rw [up_n e]; exact o8 k (by omega)
  · intro k hk
    show 0 ≤ up (a_S a) (a_c a) s k ∧ up (a_S a) (a_c a) s k ≤ 4
    by_cases e : k = a_c a
    · rw [e, up_s]; exact hs
    · have hk' : k < a_c a + 1 := hk
      rw [up_n e]; exact o9 k (by omega)
  · intro k hk
    show md (up (a_M a) (a_c a) m k)
    by_cases e : k = a_c a
    · rw [e, up_s]; exact hm
    · have hk' : k < a_c a + 1 := hk
      rw [up_n e]; exact o10 k (by omega)
  · intro k hk
    show up (a_V a) (a_c a) v k % stp (up (a_S a) (a_c a) s k) = 0
    by_cases e : k = a_c a
    · rw [e, up_s, up_s]; exact hd
    · have hk' : k < a_c a + 1 := hk
      rw [up_n e, up_n e]; exact o11 k (by omega)
  · show sm (a_c a) (up (a_V a) (a_c a) v) + up (a_V a) (a_c a) v (a_c a) = a_A a + v + a_F a + a_f a - a_R a - 10000000000 * a_e a
    rw [sm_up' (Nat.le_refl _), up_s]; omega
theorem oka_tak {B : Int} {a : AS} (h : OKA B a) (hB : B + 10 ≤ 1000000) {j : Nat} (hj : j < a_c a) : OKA (B + 10) (tak a j) := by
  obtain ⟨o1, o2, o3, o4, o5, o6, o7, o8, o9, o10, o11, o12⟩ := h
  refine ⟨?_, o2, ?_, o4, ?_, hB, ?_, ?_, ?_, ?_, ?_, ?_⟩
  · show a_c a - 1 ≤ 6; omega
  · show a_n a ≤ B + 10; omega
  · show a_e a ≤ B + 10; omega
  · intro k hk
    have hk' : k < a_c a - 1 := hk
    show 0 ≤ rm (a_I a) j k ∧ rm (a_I a) j k ≤ B + 10
    unfold rm
    split
    · have := o7 k (by omega); omega
    · have := o7 (k + 1) (by omega); omega
  · intro k hk
    have hk' : k < a_c a - 1 := hk
    show 0 ≤ rm (a_V a) j k ∧ rm (a_V a) j k < 10000000000
    unfold rm
    split
    · exact o8 k (by omega)
    · exact o8 (k + 1) (by omega)
  · intro k hk
    have hk' : k < a_c a - 1 := hk
    show 0 ≤ rm (a_S a) j k ∧ rm (a_S a) j k ≤ 4
    unfold rm
    split
    · exact o9 k (by omega)
    · exact o9 (k + 1) (by omega)
  · intro k hk
    have hk' : k < a_c a - 1 := hk
    show md (rm (a_M a) j k)
    unfold rm
    split
    · exact o10 k (by omega)
    · exact o10 (k + 1) (by omega)
  · intro k hk
    have hk' : k < a_c a - 1 := hk
    show rm (a_V a) j k % stp (rm (a_S a) j k) = 0
    unfold rm
    split
    · exact o11 k (by omega)
    · exact o11 (k + 1) (by omega)
  · show sm (a_c a - 1) (rm (a_V a) j) = a_A a + a_F a + a_f a - (a_R a + a_V a j) - 10000000000 * a_e a
    rw [sm_rm (by omega), show a_c a - 1 + 1 = a_c a from by omega]; omega
theorem md_sub {r p : Int} (h : r % p = 0) (hp : 10000000000 % p = 0) : (r - 10000000000) % p = 0 :=
  Int.emod_eq_zero_of_dvd (Int.dvd_sub (Int.dvd_of_emod_eq_zero h) (Int.dvd_of_emod_eq_zero hp))
/-- a state that is right but for number k, which takes the rounded sum s -/
theorem oka_bec {B : Int} {a : AS} {k : Nat} {s r : Int} (hk : k < a_c a) (o1 : a_c a ≤ 6) (o2 : 0 ≤ a_n a) (o3 : a_n a ≤ B) (o4 : 0 ≤ a_e a) (o5 : a_e a ≤ B) (o6 : B + 1 ≤ 1000000) (o7 : ∀ k, k < a_c a → 0 ≤ a_I a k ∧ a_I a k ≤ B) (o8 : ∀ i, i < a_c a → i ≠ k → 0 ≤ a_V a i ∧ a_V a i < 10000000000) (o9 : ∀ k, k < a_c a → 0 ≤ a_S a k ∧ a_S a k ≤ 4) (o10 : ∀ k, k < a_c a → md (a_M a k)) (o11 : ∀ i, i < a_c a → i ≠ k → a_V a i % stp (a_S a i) = 0)
    (o12 : sm (a_c a) (a_V a) + (s - a_V a k) = a_A a + a_F a + a_f a - a_R a - 10000000000 * a_e a) (hr : 0 ≤ r) (hr' : r < 20000000000) (hm : r % stp (a_S a k) = 0) : OKA (B + 1) (bec a k s r) := by
  refine ⟨o1, o2, ?_, ?_, ?_, o6, ?_, ?_, o9, o10, ?_, ?_⟩
  · show a_n a ≤ B + 1; omega
  · show 0 ≤ (if r < 10000000000 then a_e a else a_e a + 1); split <;> omega
  · show (if r < 10000000000 then a_e a else a_e a + 1) ≤ B + 1; split <;> omega
  · intro i hi
    have := o7 i hi
    show 0 ≤ a_I a i ∧ a_I a i ≤ B + 1
    omega
  · intro i hi
    show 0 ≤ up (a_V a) k (if r < 10000000000 then r else r - 10000000000) i ∧ up (a_V a) k (if r < 10000000000 then r else r - 10000000000) i < 10000000000
    by_cases e : i = k
    · rw [e, up_s]; split <;> omega
    · rw [up_n e]; exact o8 i hi e
  · intro i hi
    show up (a_V a) k (if r < 10000000000 then r else r - 10000000000) i % stp (a_S a i) = 0
    by_cases e : i = k
    · rw [e, up_s]
      split
      · exact hm
      · exact md_sub hm (stp_dv _).1
    · rw [up_n e]; exact o11 i hi e
  · show sm (a_c a) (up (a_V a) k (if r < 10000000000 then r else r - 10000000000)) = a_A a + a_F a + (a_f a + (r - s)) - a_R a - 10000000000 * (if r < 10000000000 then a_e a else a_e a + 1)
    rw [sm_up hk]
    split <;> omega
