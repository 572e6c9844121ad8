-- what can be undone, and what is saved
theorem ti_le28 {α : Type} {i : Nat} (h : i < 1000) {x y : α} : (if (28 : Int32) ≤ iI (i : Int) then x else y) = if ((28 : Nat) : Int) ≤ (i : Int) then x else y := by
  rw [show (28 : Int32) = iI ((28 : Nat) : Int) from rfl, ti_le (by omega) (by omega) (by omega) (by omega)]
theorem cpy_in {α : Type} (f g : Nat → α) {k : Nat} (h : k < 6) : va_cpy f g 0 0 6 k = f k := by
  unfold va_cpy
  rw [if_pos (by omega)]
  congr 1
  omega
theorem f8_copy (st : SS) {su : SS} {a : AS} (h : CR su a) (hc : a_c a ≤ 6) : ∃ st', F_X8_copyFrom st su = some st' ∧ CR st' a := by
  obtain ⟨h1, h2, h3, h4, h5, h6, h7, h8, h9, h10, h11, h12⟩ := h
  unfold F_X8_copyFrom
  rw [if_neg (fun n => n (zfit6_of.mpr h12))]
  refine ⟨_, rfl, h1, h2, h3, h4, h5, h6, h7, fun k hk => ?_, fun k hk => ?_, fun k hk => ?_, fun k hk => ?_, fun k hk => ?_⟩
  · exact (cpy_in _ _ (show k < 6 by omega)).trans (h8 k hk)
  · exact (cpy_in _ _ (show k < 6 by omega)).trans (h9 k hk)
  · exact (cpy_in _ _ (show k < 6 by omega)).trans (h10 k hk)
  · exact (cpy_in _ _ (show k < 6 by omega)).trans (h11 k hk)
  · have := cpy_in (s_mds su) (s_mds st) hk
    show 0 ≤ va_cpy (s_mds su) (s_mds st) 0 0 6 k ∧ va_cpy (s_mds su) (s_mds st) 0 0 6 k ≤ 65535
    rw [this]; exact h12 k hk
theorem MR_ext {f g : Nat → Int64} {a : AS} (hc : a_c a ≤ 6) (h : MR g a) (e : ∀ i, i < 28 → f i = g i) : MR f a := by
  obtain ⟨h1, h2, h3, h4, h5, h6, h7, h8⟩ := h
  refine ⟨(e 0 (by omega)).trans h1, (e 1 (by omega)).trans h2, (e 2 (by omega)).trans h3, (e 3 (by omega)).trans h4, fun k hk => (e _ (by omega)).trans (h5 k hk), fun k hk => (e _ (by omega)).trans (h6 k hk), fun k hk => (e _ (by omega)).trans (h7 k hk), fun k hk => (e _ (by omega)).trans (h8 k hk)⟩
def HR (B : Int) (hst : Nat → SS) (spare undo mchg : Int32) (mpst : Nat → Int64) : Prop :=
  ∃ (d sp : Nat) (hs : Nat → AS), d ≤ 8 ∧ sp < 9 ∧ spare = iI (sp : Int) ∧ undo = iI (d : Int) ∧ mchg = iI (d : Int) ∧ ∀ j, j < d → CR (hst ((sp + 8 - j) % 9)) (hs j) ∧ MR (fun i => mpst (28 * (d - 1 - j) + i)) (hs j) ∧ OKA B (hs j)
theorem HR.mono {B B' : Int} {hst : Nat → SS} {spare undo mchg : Int32} {mpst : Nat → Int64} (h : HR B hst spare undo mchg mpst) (hB : B ≤ B') (hB' : B' ≤ 1000000) : HR B' hst spare undo mchg mpst := by
  obtain ⟨d, sp, hs, h1, h2, h3, h4, h5, h6⟩ := h
  exact ⟨d, sp, hs, h1, h2, h3, h4, h5, fun j hj => ⟨(h6 j hj).1, (h6 j hj).2.1, (h6 j hj).2.2.mono hB hB'⟩⟩
theorem h_rem {B : Int} {st : SS} {a : AS} {hst : Nat → SS} {spare undo mchg : Int32} {mpst : Nat → Int64} (h : HR B hst spare undo mchg mpst) (hc : CR st a) (ha : a_c a ≤ 6) : ∃ hst', F_X2_remember st hst spare = some hst' ∧ HR B hst' spare undo mchg mpst ∧ CR (hst' spare.toNatClampNeg) a := by
  obtain ⟨d, sp, hs, h1, h2, rfl, h4, h5, h6⟩ := h
  obtain ⟨s', e1, c1⟩ := f8_copy (hst sp) hc ha
  unfold F_X2_remember
  rw [if_neg (ii_gd h2 (by omega)), ii_nc sp (by omega), e1, zb_some]
  refine ⟨_, rfl, ⟨d, sp, hs, h1, h2, rfl, h4, h5, fun j hj => ?_⟩, ?_⟩
  · have hne : (sp + 8 - j) % 9 ≠ sp := by omega
    show CR (if (sp + 8 - j) % 9 = sp then s' else hst ((sp + 8 - j) % 9)) (hs j) ∧ _
    rw [if_neg hne]
    exact h6 j hj
  · show CR (if sp = sp then s' else hst sp) a
    rw [if_pos rfl]
    exact c1
theorem h_back {st : SS} {a : AS} {hst : Nat → SS} {spare : Int32} {sp : Nat} (hs : spare = iI (sp : Int)) (h9 : sp < 9) (h : CR (hst spare.toNatClampNeg) a) (ha : a_c a ≤ 6) : ∃ st', F_X2_takeBack st hst spare = some st' ∧ CR st' a := by
  subst hs
  obtain ⟨s', e1, c1⟩ := f8_copy st h ha
  unfold F_X2_takeBack
  rw [if_neg (ii_gd h9 (by omega)), e1, zb_some]
  exact ⟨s', rfl, c1⟩
theorem f11_starts7 {fu : Nat} {mm : Nat → Int64} (t : Int32) : ∀ (n i : Nat) (masd : Nat → Int64), i ≤ 28 → 28 < n + i → (∀ k, k < i → masd k = mm k) → ∃ masd', F_X11_starts_7 fu n mm masd t (iI (i : Int)) = some (masd', t) ∧ ∀ k, k < 28 → masd' k = mm k := by
  intro n
  induction n with
  | zero => intro i masd _ _; omega
  | succ n ih =>
    intro i masd hi hn hs
    unfold F_X11_starts_7
    rw [show (28 : Int32) = iI ((28 : Nat) : Int) from rfl, ti_le (by omega) (by omega) (by omega) (by omega)]
    by_cases e : ((28 : Nat) : Int) ≤ (i : Int)
    · rw [if_pos e]
      exact ⟨masd, rfl, fun k hk => hs k (by omega)⟩
    · rw [if_neg e, if_neg (ii_gd (by omega) (by omega)), if_neg (ii_gd (by omega) (by omega)), zl_eq, ii_nc i (by omega), ii_L1, ii_add, ii_nx]
      refine ih (i + 1) _ (by omega) (by omega) (fun k hk => ?_)
      rw [up_L]
      by_cases hki : k = i
      · rw [if_pos hki, hki]
      · rw [if_neg hki]; exact hs k (by omega)
theorem f11_starts {fu : Nat} (hf : 40 ≤ fu) (mm masd : Nat → Int64) (t : Int32) : ∃ masd', F_X11_starts fu mm masd t = some (masd', 0) ∧ ∀ k, k < 28 → masd' k = mm k :=
  f11_starts7 (fu := fu) 0 fu 0 masd (by omega) (by omega) (fun k hk => by omega)
theorem f11_ends59 {fu : Nat} {masd : Nat → Int64} {d : Nat} (hd : d < 8) (t : Int32) {p0 : Nat → Int64} : ∀ (n i : Nat) (mpst : Nat → Int64), i ≤ 28 → 28 < n + i → (∀ k, k < i → mpst (28 * d + k) = masd k) → (∀ k, k < 28 * d → mpst k = p0 k) →
    ∃ mpst', F_X11_ends_59 fu n masd mpst (iI (d : Int)) t (iI (i : Int)) = some (mpst', iI ((d + 1 : Nat) : Int)) ∧ (∀ k, k < 28 → mpst' (28 * d + k) = masd k) ∧ ∀ k, k < 28 * d → mpst' k = p0 k := by
  intro n
  induction n with
  | zero => intro i mpst _ _; omega
  | succ n ih =>
    intro i mpst hi hn hs hp
    unfold F_X11_ends_59
    rw [ti_le28 (by omega)]
    by_cases e : ((28 : Nat) : Int) ≤ (i : Int)
    · rw [if_pos e, ii_L1, ii_add, ii_nx]
      exact ⟨mpst, rfl, fun k hk => hs k (by omega), hp⟩
    · have ex : (28 : Int32) * iI (d : Int) + iI (i : Int) = iI ((28 * d + i : Nat) : Int) := by
        rw [show (28 : Int32) * iI (d : Int) = iI ((28 * d : Nat) : Int) from ni_ml 28 d, ii_add]; rfl
      rw [if_neg e, ex, if_neg (ii_gd (by omega) (by omega)), if_neg (ii_gd (by omega) (by omega)), zl_eq, ii_nc i (by omega), ii_nc (28 * d + i) (by omega), ii_L1, ii_add, ii_nx]
      refine ih (i + 1) _ (by omega) (by omega) (fun k hk => ?_) (fun k hk => ?_)
      · rw [up_L]
        by_cases hki : k = i
        · rw [if_pos (by omega), hki]
        · rw [if_neg (by omega)]; exact hs k (by omega)
      · rw [up_L, if_neg (by omega)]; exact hp k hk
theorem f11_ends19 {fu : Nat} {masd : Nat → Int64} (t : Int32) {p0 : Nat → Int64} (hf : 40 ≤ fu) : ∀ (n i : Nat) (mpst : Nat → Int64), i ≤ 196 → 196 < n + i → (∀ k, k < 224 → mpst k = if k < i then p0 (k + 28) else p0 k) →
    ∃ mpst', F_X11_ends_19 fu n masd mpst (iI ((8 : Nat) : Int)) t (iI (i : Int)) = some (mpst', iI ((8 : Nat) : Int)) ∧ (∀ k, k < 28 → mpst' (28 * 7 + k) = masd k) ∧ ∀ k, k < 28 * 7 → mpst' k = p0 (k + 28) := by
  intro n
  induction n with
  | zero => intro i mpst _ _; omega
  | succ n ih =>
    intro i mpst hi hn hs
    unfold F_X11_ends_19
    rw [show (196 : Int32) = iI ((196 : Nat) : Int) from rfl, ti_le (by omega) (by omega) (by omega) (by omega)]
    by_cases e : ((196 : Nat) : Int) ≤ (i : Int)
    · rw [if_pos e, show iI ((8 : Nat) : Int) - 1 = iI ((7 : Nat) : Int) from rfl]
      exact f11_ends59 (fu := fu) (d := 7) (by omega) t (p0 := fun k => p0 (k + 28)) fu 0 mpst (by omega) (by omega) (fun k hk => by omega) (fun k hk => by
        have := hs k (by omega)
        rw [if_pos (by omega)] at this
        exact this)
    · have ex : iI (i : Int) + 28 = iI ((i + 28 : Nat) : Int) := by rw [ii_L28, ii_add]; rfl
      rw [if_neg e, ex, if_neg (ii_gd (by omega) (by omega)), if_neg (ii_gd (by omega) (by omega)), zl_eq, ii_nc i (by omega), ii_nc (i + 28) (by omega), ii_L1, ii_add, ii_nx]
      refine ih (i + 1) _ (by omega) (by omega) (fun k hk => ?_)
      rw [up_L]
      by_cases hki : k = i
      · rw [if_pos hki, if_pos (by omega), hs (i + 28) (by omega), if_neg (by omega), hki]
      · rw [if_neg hki, hs k hk]
        by_cases h2 : k < i
        · rw [if_pos h2, if_pos (by omega)]
        · rw [if_neg h2, if_neg (by omega)]
theorem f11_endsN {fu : Nat} (masd mpst : Nat → Int64) (mchg : Int32) {k : Int} (h : 1 ≤ k) (h' : k ≤ 10) : F_X11_ends fu masd mpst mchg (iI k) = some (mpst, mchg) := by
  unfold F_X11_ends
  rw [if_neg (by rw [ii_L0, ii_le (by omega) (by omega) (by omega) (by omega)]; omega)]
theorem h_keep {fu : Nat} (hf : 300 ≤ fu) {B : Int} {a : AS} {hst : Nat → SS} {spare undo mchg : Int32} {mpst masd : Nat → Int64} (h : HR B hst spare undo mchg mpst) (hc : CR (hst spare.toNatClampNeg) a) (hm : MR masd a) (ho : OKA B a) : ∃ spare' undo' mpst' mchg', F_X2_keep spare undo = some (spare', undo') ∧ F_X11_ends fu masd mpst mchg 0 = some (mpst', mchg') ∧ HR B hst spare' undo' mchg' mpst' := by
  obtain ⟨d, sp, hs, h1, h2, rfl, rfl, rfl, h6⟩ := h
  have ha := ho.1
  rw [ii_nc sp (by omega)] at hc
  have ek : F_X2_keep (iI (sp : Int)) (iI (d : Int)) = some (iI (((sp + 1) % 9 : Nat) : Int), iI ((if 8 < d + 1 then 8 else d + 1 : Nat) : Int)) := by
    have e1 : (if (8 : Int32) < iI (d : Int) + 1 then (8 : Int32) else iI (d : Int) + 1) = iI ((if 8 < d + 1 then 8 else d + 1 : Nat) : Int) := by
      rw [ii_L1, ii_add, ii_nx, show (8 : Int32) = iI ((8 : Nat) : Int) from rfl, ti_lt (by omega) (by omega) (by omega) (by omega)]
      by_cases e : 8 < d + 1
      · rw [if_pos (by omega), if_pos e]
      · rw [if_neg (by omega), if_neg e]
    unfold F_X2_keep
    have e8 : (iI (sp : Int) = 8) = (sp = 8) := by
      rw [show (8 : Int32) = iI ((8 : Nat) : Int) from rfl, ii_eq (by omega) (by omega) (by omega) (by omega)]
      exact propext ⟨fun _ => by omega, fun _ => by omega⟩
    rw [e1]
    by_cases e : sp = 8
    · rw [if_pos (by rw [e8]; exact e), e]; rfl
    · rw [if_neg (by rw [e8]; exact e), ii_L1, ii_add, ii_nx, show (sp + 1) % 9 = sp + 1 from by omega]
  by_cases hd : d < 8
  · obtain ⟨p', q1, q2, q3⟩ := f11_ends59 (fu := fu) (masd := masd) hd 0 (p0 := mpst) fu 0 mpst (by omega) (by omega) (fun k hk => by omega) (fun k _ => rfl)
    rw [if_neg (by omega)] at ek
    refine ⟨_, _, p', _, ek, ?_, ⟨d + 1, (sp + 1) % 9, fun j => if j = 0 then a else hs (j - 1), by omega, by omega, rfl, rfl, rfl, fun j hj => ?_⟩⟩
    · unfold F_X11_ends
      rw [if_pos (by decide), if_neg (by rw [show (8 : Int32) = iI ((8 : Nat) : Int) from rfl, ii_eq (by omega) (by omega) (by omega) (by omega)]; omega)]
      exact q1
    · by_cases hj0 : j = 0
      · subst hj0
        refine ⟨?_, ?_, ?_⟩
        · rw [show ((sp + 1) % 9 + 8 - 0) % 9 = sp from by omega]; exact hc
        · exact MR_ext ha hm (fun i hi => by show p' (28 * (d + 1 - 1 - 0) + i) = masd i; rw [show d + 1 - 1 - 0 = d from by omega]; exact q2 i hi)
        · exact ho
      · obtain ⟨r1, r2, r3⟩ := h6 (j - 1) (by omega)
        have es : (if j = 0 then a else hs (j - 1)) = hs (j - 1) := if_neg hj0
        show CR _ (if j = 0 then a else hs (j - 1)) ∧ MR _ (if j = 0 then a else hs (j - 1)) ∧ OKA B (if j = 0 then a else hs (j - 1))
        rw [es]
        refine ⟨?_, ?_, r3⟩
        · rw [show ((sp + 1) % 9 + 8 - j) % 9 = (sp + 8 - (j - 1)) % 9 from by omega]; exact r1
        · exact MR_ext r3.1 r2 (fun i hi => by show p' (28 * (d + 1 - 1 - j) + i) = mpst (28 * (d - 1 - (j - 1)) + i); rw [show d + 1 - 1 - j = d - 1 - (j - 1) from by omega]; exact q3 _ (by omega))
  · obtain rfl : d = 8 := by omega
    obtain ⟨p', q1, q2, q3⟩ := f11_ends19 (fu := fu) (masd := masd) 0 (p0 := mpst) (by omega) fu 0 mpst (by omega) (by omega) (fun k hk => by rw [if_neg (by omega)])
    rw [if_pos (by omega)] at ek
    refine ⟨_, _, p', _, ek, ?_, ⟨8, (sp + 1) % 9, fun j => if j = 0 then a else hs (j - 1), by omega, by omega, rfl, rfl, rfl, fun j hj => ?_⟩⟩
    · unfold F_X11_ends
      rw [if_pos (by decide), if_pos (by decide)]
      exact q1
    · by_cases hj0 : j = 0
      · subst hj0
        refine ⟨?_, ?_, ?_⟩
        · rw [show ((sp + 1) % 9 + 8 - 0) % 9 = sp from by omega]; exact hc
        · exact MR_ext ha hm (fun i hi => q2 i hi)
        · exact ho
      · obtain ⟨r1, r2, r3⟩ := h6 (j - 1) (by omega)
        have es : (if j = 0 then a else hs (j - 1)) = hs (j - 1) := if_neg hj0
        show CR _ (if j = 0 then a else hs (j - 1)) ∧ MR _ (if j = 0 then a else hs (j - 1)) ∧ OKA B (if j = 0 then a else hs (j - 1))
        rw [es]
        refine ⟨?_, ?_, r3⟩
        · rw [show ((sp + 1) % 9 + 8 - j) % 9 = (sp + 8 - (j - 1)) % 9 from by omega]; exact r1
        · exact MR_ext r3.1 r2 (fun i hi => by
            show p' (28 * (8 - 1 - j) + i) = mpst (28 * (8 - 1 - (j - 1)) + i)
            rw [q3 _ (by omega)]
            congr 1; omega)
theorem f11_undo30 {fu : Nat} {mpst : Nat → Int64} {d : Nat} (hd : d < 8) (t : Int32) : ∀ (n i : Nat) (mm : Nat → Int64), i ≤ 28 → 28 < n + i → (∀ k, k < i → mm k = mpst (28 * d + k)) → ∃ mm', F_X11_undo_30 fu n mm mpst (iI (d : Int)) t (iI (i : Int)) = some (iI (d : Int), mm', iI (d : Int), t) ∧ ∀ k, k < 28 → mm' k = mpst (28 * d + k) := by
  intro n
  induction n with
  | zero => intro i mm _ _; omega
  | succ n ih =>
    intro i mm hi hn hs
    unfold F_X11_undo_30
    rw [ti_le28 (by omega)]
    by_cases e : ((28 : Nat) : Int) ≤ (i : Int)
    · rw [if_pos e]
      exact ⟨mm, rfl, fun k hk => hs k (by omega)⟩
    · have ex : (28 : Int32) * iI (d : Int) + iI (i : Int) = iI ((28 * d + i : Nat) : Int) := by
        rw [show (28 : Int32) * iI (d : Int) = iI ((28 * d : Nat) : Int) from ni_ml 28 d, ii_add]; rfl
      rw [if_neg e, ex, if_neg (ii_gd (by omega) (by omega)), if_neg (ii_gd (by omega) (by omega)), zl_eq, ii_nc i (by omega), ii_nc (28 * d + i) (by omega), ii_L1, ii_add, ii_nx]
      refine ih (i + 1) _ (by omega) (by omega) (fun k hk => ?_)
      rw [up_L]
      by_cases hki : k = i
      · rw [if_pos hki, hki]
      · rw [if_neg hki]; exact hs k (by omega)
/-- undo -/
theorem h_undo {fu : Nat} (hf : 300 ≤ fu) {B : Int} (st : SS) (mm : Nat → Int64) (t : Int32) {hst : Nat → SS} {spare undo mchg : Int32} {mpst : Nat → Int64} (h : HR B hst spare undo mchg mpst) :
    (F_X10_undo st hst spare undo = some (.error (1, (st, spare, undo))) ∧ F_X11_undo fu mm mpst mchg t = some (-1, mm, mchg, 1)) ∨
    ∃ r st' spare' mm' a, F_X10_undo st hst spare undo = some (.ok (r, st', spare', r)) ∧ F_X11_undo fu mm mpst mchg t = some (r, mm', r, 0) ∧ CR st' a ∧ MR mm' a ∧ OKA B a ∧ HR B hst spare' r r mpst := by
  obtain ⟨d, sp, hs, h1, h2, rfl, rfl, rfl, h6⟩ := h
  unfold F_X10_undo F_X11_undo
  by_cases hd : d = 0
  · left
    subst hd
    rw [if_pos (show iI ((0 : Nat) : Int) = 0 from rfl), if_pos (show iI ((0 : Nat) : Int) = 0 from rfl), f11_throw, zb_some]
    exact ⟨rfl, rfl⟩
  · right
    obtain ⟨r1, r2, r3⟩ := h6 0 (by omega)
    have hnz : ¬ iI (d : Int) = 0 := of_eq_false (ni_nz (by omega) (by omega))
    have e1 : iI (d : Int) - 1 = iI ((d - 1 : Nat) : Int) := by rw [ii_L1, ii_sub]; congr 1; omega
    obtain ⟨mm', q1, q2⟩ := f11_undo30 (fu := fu) (mpst := mpst) (d := d - 1) (by omega) 0 fu 0 mm (by omega) (by omega) (fun k hk => by omega)
    have gb : ∃ st', F_X2_goBack st hst (iI (sp : Int)) (iI (d : Int)) = some (st', iI (((sp + 8) % 9 : Nat) : Int), iI ((d - 1 : Nat) : Int)) ∧ CR st' (hs 0) := by
      obtain ⟨s', b1, b2⟩ := h_back (st := st) (hst := hst) (sp := (sp + 8) % 9) (spare := iI (((sp + 8) % 9 : Nat) : Int)) rfl (by omega) (by rw [ii_nc _ (by omega)]; exact r1) r3.1
      refine ⟨s', ?_, b2⟩
      unfold F_X2_goBack F_X2_goBack_19
      by_cases hs0 : sp = 0
      · subst hs0
        rw [if_pos (show iI ((0 : Nat) : Int) = 0 from rfl), show F_X2_takeBack st hst 8 = some s' from b1, zb_some, e1]; rfl
      · rw [if_neg (of_eq_false (ni_nz (by omega) (by omega))), show iI (sp : Int) - 1 = iI (((sp + 8) % 9 : Nat) : Int) from by rw [ii_L1, ii_sub]; congr 1; omega, b1, zb_some, e1]
    obtain ⟨s', g1, g2⟩ := gb
    rw [if_neg hnz, if_neg hnz, g1, zb_some, e1]
    refine ⟨iI ((d - 1 : Nat) : Int), s', iI (((sp + 8) % 9 : Nat) : Int), mm', hs 0, rfl, q1, g2, ?_, r3, ?_⟩
    · exact MR_ext r3.1 r2 (fun i hi => by rw [q2 i hi, show d - 1 - 0 = d - 1 from rfl])
    · refine ⟨d - 1, (sp + 8) % 9, fun j => hs (j + 1), by omega, by omega, rfl, rfl, rfl, fun j hj => ?_⟩
      obtain ⟨a1, a2, a3⟩ := h6 (j + 1) (by omega)
      refine ⟨?_, ?_, a3⟩
      · rw [show ((sp + 8) % 9 + 8 - j) % 9 = (sp + 8 - (j + 1)) % 9 from by omega]; exact a1
      · rw [show d - 1 - 1 - j = d - 1 - (j + 1) from by omega]; exact a2
theorem f11_save7 {fu : Nat} {mm : Nat → Int64} (mi t : Int32) : ∀ (n i : Nat) (msav : Nat → Int64), i ≤ 28 → 28 < n + i → (∀ k, k < i → msav k = mm k) → ∃ msav', F_X11_save_7 fu n mm msav mi t (iI (i : Int)) = some (msav', 1, t) ∧ ∀ k, k < 28 → msav' k = mm k := by
  intro n
  induction n with
  | zero => intro i msav _ _; omega
  | succ n ih =>
    intro i msav hi hn hs
    unfold F_X11_save_7
    rw [ti_le28 (by omega)]
    by_cases e : ((28 : Nat) : Int) ≤ (i : Int)
    · rw [if_pos e]
      exact ⟨msav, rfl, fun k hk => hs k (by omega)⟩
    · rw [if_neg e, if_neg (ii_gd (by omega) (by omega)), if_neg (ii_gd (by omega) (by omega)), zl_eq, ii_nc i (by omega), ii_L1, ii_add, ii_nx]
      refine ih (i + 1) _ (by omega) (by omega) (fun k hk => ?_)
      rw [up_L]
      by_cases hki : k = i
      · rw [if_pos hki, hki]
      · rw [if_neg hki]; exact hs k (by omega)
theorem f11_rest21 {fu : Nat} {msav : Nat → Int64} (mi mc t : Int32) : ∀ (n i : Nat) (mm : Nat → Int64), i ≤ 28 → 28 < n + i → (∀ k, k < i → mm k = msav k) → ∃ mm', F_X11_restore_21 fu n mm msav mi mc t (iI (i : Int)) = some (mm', 0, t) ∧ ∀ k, k < 28 → mm' k = msav k := by
  intro n
  induction n with
  | zero => intro i mm _ _; omega
  | succ n ih =>
    intro i mm hi hn hs
    unfold F_X11_restore_21
    rw [ti_le28 (by omega)]
    by_cases e : ((28 : Nat) : Int) ≤ (i : Int)
    · rw [if_pos e]
      exact ⟨mm, rfl, fun k hk => hs k (by omega)⟩
    · rw [if_neg e, if_neg (ii_gd (by omega) (by omega)), if_neg (ii_gd (by omega) (by omega)), zl_eq, ii_nc i (by omega), ii_L1, ii_add, ii_nx]
      refine ih (i + 1) _ (by omega) (by omega) (fun k hk => ?_)
      rw [up_L]
      by_cases hki : k = i
      · rw [if_pos hki, hki]
      · rw [if_neg hki]; exact hs k (by omega)
