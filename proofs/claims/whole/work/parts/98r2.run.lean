-- the commands carried out one by one
abbrev RT := Option (Except (Nat × (SS × (Nat → SS) × Int32 × Int32 × Int32 × Int32 × Int32 × (Nat → CC) × Int32 × Int32)) (Int32 × SS × (Nat → SS) × Int32 × Int32 × Int32 × Int32 × Int32 × (Nat → CC) × Int32 × Int32))
abbrev RN := SS → (Nat → SS) → Int32 → Int32 → (Nat → Int32) → Int32 → Int32 → Int32 → (Nat → CC) → Int32 → Int32 → Int32 → RT
def rbody (fu : Nat) (N : RN) (st : SS) (hst : Nat → SS) (spare : Int32) (undo : Int32) (ptx : Nat → Int32) (plen : Int32) (ppos : Int32) (pcnt : Int32) (cmds : Nat → CC) (stE : Int32) (stF : Int32) (x2 : Int32) : RT :=
  if pcnt ≤ x2 then (zbind (F_X2_keep spare undo) fun zo2 =>
    some (.ok (pcnt, st, hst, zo2.1, zo2.2, plen, ppos, pcnt, cmds, stE, stF)))
    else (if x2 < 0 ∨ 9 ≤ Int32.toNatClampNeg x2 then none else
    zbind (F_X10_succeeds fu st cmds (Int32.toNatClampNeg x2)) fun zo4 =>
    if zo4.1 = 0 then (zbind (F_X2_takeBack zo4.2 hst spare) fun zo7 =>
    some (.error (2, (zo7, hst, spare, undo, plen, ppos, pcnt, cmds, stE, x2))))
    else (zlet (x2 + 1) fun zv6 => N zo4.2 hst spare undo ptx plen ppos pcnt cmds stE stF zv6))
section run
variable {fu : Nat} {T M mltr mbeg : Nat → Int32} {B : Int} {hst : Nat → SS} {spare undo plen ppos stE stF : Int32} {sp c : Nat} {cmds : Nat → CC} {f : Nat → Int32} {a0 : AS} {masd mpst : Nat → Int64} {mchg merr mfai minM mpl msz : Int32}
def RP (fu : Nat) (T M mltr mbeg : Nat → Int32) (B : Int) (hst : Nat → SS) (spare undo plen ppos stE stF : Int32) (c : Nat) (cmds : Nat → CC) (f : Nat → Int32) (a0 : AS) (masd mpst : Nat → Int64) (mchg merr mfai minM mpl msz : Int32) (N : RN) (i : Nat) : Prop :=
  ∀ (st : SS) (mm : Nat → Int64) (a : AS) (mUp : Nat → Int32) (m : Nat), CR st a → MR mm a → OKA (B + 10 * (i : Int)) a → 11 ≤ m + i →
    (∃ (st' : SS) (mm' : Nat → Int64) (j : Int32) (w : Nat → Int32), N st hst spare undo T plen ppos (iI (c : Int)) cmds stE stF (iI (i : Int)) = some (.error (2, (st', hst, spare, undo, plen, ppos, iI (c : Int), cmds, stE, j))) ∧
      F_X11_run_115 fu m mm masd mpst mchg merr mfai 0 M minM mUp mltr mbeg f (iI (c : Int)) mpl msz 0 (iI (i : Int)) = some (-1, mm', masd, mpst, mchg, merr, j, 2, minM, w, f, iI (c : Int), mpl, msz, 0) ∧ CR st' a0 ∧ MR mm' a0) ∨
    ∃ (st' : SS) (mm' : Nat → Int64) (a' : AS) (w : Nat → Int32), N st hst spare undo T plen ppos (iI (c : Int)) cmds stE stF (iI (i : Int)) = (zbind (F_X2_keep spare undo) fun zo => some (.ok (iI (c : Int), st', hst, zo.1, zo.2, plen, ppos, iI (c : Int), cmds, stE, stF))) ∧
      F_X11_run_115 fu m mm masd mpst mchg merr mfai 0 M minM mUp mltr mbeg f (iI (c : Int)) mpl msz 0 (iI (i : Int)) = (zbind (F_X11_ends fu masd mpst mchg 0) fun zo7 => some (iI (c : Int), mm', masd, zo7.1, zo7.2, merr, mfai, 0, minM, w, f, iI (c : Int), mpl, msz, 0)) ∧ CR st' a' ∧ MR mm' a' ∧ OKA (B + 100) a'
theorem r_step (hf : 60 ≤ fu) (hB : B + 110 ≤ 1000000) (hc9 : c ≤ 9) (hcv : ∀ j, j < c → CV (cmds j) f (5 * j)) (hsp : spare = iI (sp : Int)) (h9 : sp < 9) (hr : CR (hst spare.toNatClampNeg) a0) (ha0 : a_c a0 ≤ 6) (hm0 : MR masd a0) (N : RN) (i : Nat) (hi : i ≤ 9)
    (hN : i < 9 → RP fu T M mltr mbeg B hst spare undo plen ppos stE stF c cmds f a0 masd mpst mchg merr mfai minM mpl msz N (i + 1)) :
    RP fu T M mltr mbeg B hst spare undo plen ppos stE stF c cmds f a0 masd mpst mchg merr mfai minM mpl msz (rbody fu N) i := by
  intro st mm a mUp m h g ho hm
  obtain ⟨m, rfl⟩ : ∃ m', m = m' + 1 := ⟨m - 1, by omega⟩
  unfold rbody F_X11_run_115
  by_cases e : c ≤ i
  · have e' : iI (c : Int) ≤ iI (i : Int) := by rw [ii_le (by omega) (by omega) (by omega) (by omega)]; omega
    rw [if_pos e', if_pos e']
    exact Or.inr ⟨st, mm, a, mUp, rfl, rfl, h, g, ho.mono (by omega) (by omega)⟩
  · have e' : ¬ iI (c : Int) ≤ iI (i : Int) := by rw [ii_le (by omega) (by omega) (by omega) (by omega)]; omega
    have e5 : (5 : Int32) * iI (i : Int) = iI ((5 * i : Nat) : Int) := ni_ml 5 i
    have e1 : iI (i : Int) + 1 = iI ((i + 1 : Nat) : Int) := by rw [ii_L1, ii_add]; rfl
    rw [if_neg e', if_neg e', if_neg (ii_gd (by omega) (by omega)), ii_nc i (by omega), e5]
    rcases co_all (fu := fu) (by omega) h g ho (by omega) mUp (show i < 10 by omega) (hcv i (by omega)) with ⟨k, w, hk, d1, d2⟩ | ⟨st', mm', a', w, d1, d2, c1, c2, c3⟩
    · rw [d1, d2, zb_some, zb_some, if_pos rfl, if_neg (show ¬ iI k ≤ 0 by rw [ii_L0, ii_le (by omega) (by omega) (by omega) (by omega)]; omega)]
      obtain ⟨s', b1, b2⟩ := h_back (st := st) hsp h9 hr ha0
      obtain ⟨mm', b3, b4⟩ := f11_run139 (fu := fu) (masd := masd) mpst mchg merr mfai (iI k) M minM w mltr mbeg f (iI (c : Int)) mpl msz 0 (iI (i : Int)) fu 0 mm (by omega) (by omega) (fun k hk => by omega)
      refine Or.inl ⟨s', mm', iI (i : Int), w, ?_, b3, b2, MR_ext ha0 hm0 b4⟩
      rw [b1, zb_some]
    · rw [d1, d2, zb_some, zb_some, if_neg (show ¬ (1 : Int32) = 0 by decide), if_pos (show (0 : Int32) ≤ 0 by decide), zl_eq, zl_eq, e1]
      exact hN (by omega) st' mm' a' w m c1 c2 (c3.mono (by omega) (by omega)) (by omega)
theorem r_all (hf : 60 ≤ fu) (hB : B + 110 ≤ 1000000) (hc9 : c ≤ 9) (hcv : ∀ j, j < c → CV (cmds j) f (5 * j)) (hsp : spare = iI (sp : Int)) (h9 : sp < 9) (hr : CR (hst spare.toNatClampNeg) a0) (ha0 : a_c a0 ≤ 6) (hm0 : MR masd a0) :
    RP fu T M mltr mbeg B hst spare undo plen ppos stE stF c cmds f a0 masd mpst mchg merr mfai minM mpl msz (F_X10_run_55 fu) 0 := by
  have k9 := r_step (T := T) (M := M) (mltr := mltr) (mbeg := mbeg) (plen := plen) (undo := undo) (ppos := ppos) (stE := stE) (stF := stF) (mpst := mpst) (mchg := mchg) (merr := merr) (mfai := mfai) (minM := minM) (mpl := mpl) (msz := msz) hf hB hc9 hcv hsp h9 hr ha0 hm0 (fun _ _ _ _ _ _ _ _ _ _ _ _ => none) 9 (by omega) (by omega)
  have k8 := r_step hf hB hc9 hcv hsp h9 hr ha0 hm0 _ 8 (by omega) (fun _ => k9)
  have k7 := r_step hf hB hc9 hcv hsp h9 hr ha0 hm0 _ 7 (by omega) (fun _ => k8)
  have k6 := r_step hf hB hc9 hcv hsp h9 hr ha0 hm0 _ 6 (by omega) (fun _ => k7)
  have k5 := r_step hf hB hc9 hcv hsp h9 hr ha0 hm0 _ 5 (by omega) (fun _ => k6)
  have k4 := r_step hf hB hc9 hcv hsp h9 hr ha0 hm0 _ 4 (by omega) (fun _ => k5)
  have k3 := r_step hf hB hc9 hcv hsp h9 hr ha0 hm0 _ 3 (by omega) (fun _ => k4)
  have k2 := r_step hf hB hc9 hcv hsp h9 hr ha0 hm0 _ 2 (by omega) (fun _ => k3)
  have k1 := r_step hf hB hc9 hcv hsp h9 hr ha0 hm0 _ 1 (by omega) (fun _ => k2)
  have k0 := r_step hf hB hc9 hcv hsp h9 hr ha0 hm0 _ 0 (by omega) (fun _ => k1)
  exact k0
end run
/-- a whole text read and carried out -/
theorem h_run {fu : Nat} (hf : 300 ≤ fu) {B : Int} {st : SS} {mm : Nat → Int64} {a : AS} {hst : Nat → SS} {spare undo mchg : Int32} {mpst : Nat → Int64} {T M mltr mbeg : Nat → Int32} {len : Nat} (h : CR st a) (g : MR mm a) (ho : OKA B a) (hB : B + 110 ≤ 1000000) (hh : HR B hst spare undo mchg mpst) (hT : TX T M len) (hL : LB mltr mbeg) (ppos pcnt : Int32) (cmds : Nat → CC) (stE stF : Int32) (masd : Nat → Int64) (merr mfai t minM : Int32) (mUp mcmd : Nat → Int32) (mcmM mpl msz mwr : Int32) (hm : minM = iI (len : Int)) :
    ∃ (r : Except Nat Int32) (st' : SS) (hst' : Nat → SS) (sp' un' pp' pc' : Int32) (cm' : Nat → CC) (sE sF : Int32) (q : Int32) (mm' ma' mp' : Nat → Int64) (mc' me' mf' mt' : Int32) (mu' mk' : Nat → Int32) (x1 x2 x3 x4 : Int32) (a' : AS),
      F_X10_run fu st hst spare undo T (iI (len : Int)) ppos pcnt cmds stE stF = (match r with
        | .error e => some (.error (e, (st', hst', sp', un', 0, pp', pc', cm', sE, sF)))
        | .ok v => some (.ok (v, st', hst', sp', un', 0, pp', pc', cm', sE, sF))) ∧
      F_X11_run fu mm masd mpst mchg merr mfai t M minM mUp mltr mbeg mcmd mcmM mpl msz mwr = some (q, mm', ma', mp', mc', me', mf', mt', 0, mu', mk', x1, x2, x3, x4) ∧
      ((r = .error 0 ∧ mt' = 1 ∧ sE = me' ∧ sF = stF ∧ mf' = mfai) ∨ (r = .error 2 ∧ mt' = 2 ∧ sE = stE ∧ me' = merr ∧ sF = mf') ∨ (r = .ok q ∧ mt' = 0 ∧ (∃ n : Nat, q = iI (n : Int) ∧ n ≤ 9) ∧ sE = stE ∧ me' = merr ∧ sF = stF ∧ mf' = mfai)) ∧
      CR st' a' ∧ MR mm' a' ∧ OKA (B + 100) a' ∧ HR (B + 100) hst' sp' un' mc' mp' := by
  subst hm
  have ho' := ho.mono (show B ≤ B + 100 by omega) (by omega)
  have hh' := hh.mono (show B ≤ B + 100 by omega) (by omega)
  obtain ⟨ma, s1, s2⟩ := f11_starts (fu := fu) (by omega) mm masd t
  have hma : MR ma a := MR_ext ho.1 g s2
  have eM : F_X11_run fu mm masd mpst mchg merr mfai t M (iI (len : Int)) mUp mltr mbeg mcmd mcmM mpl msz mwr = F_X11_run_34 fu fu mm ma mpst mchg merr mfai 0 M 0 mUp mltr mbeg mcmd (iI ((0 : Nat) : Int)) (iI ((0 : Nat) : Int)) (iI (len : Int)) 0 1 := by
    unfold F_X11_run
    rw [s1, zb_some]
    rfl
  have eC : F_X6_read fu T (iI (len : Int)) ppos pcnt cmds = F_X6_read_10 fu fu T (iI (len : Int)) (iI ((0 : Nat) : Int)) (iI ((0 : Nat) : Int)) cmds := rfl
  rw [eM]
  unfold F_X10_run
  rw [eC]
  rcases p_run (fu := fu) (by omega) hL hT mm ma mpst mchg merr mfai 0 mUp fu 0 0 cmds mcmd (by omega) (by omega) (by omega) (by omega) (fun j hj => by omega) with ⟨k', c', cm', f', hc9, p1, hcv, p2⟩ | ⟨p, q, n', cm', f', p1, p2⟩
  · obtain ⟨hst', e1, hh1, hcr⟩ := h_rem hh h ho.1
    obtain ⟨d, sp, hs, hd1, hd2, hsp, hd4⟩ := hh1
    have hh1 : HR B hst' spare undo mchg mpst := ⟨d, sp, hs, hd1, hd2, hsp, hd4⟩
    rw [p1, p2, zb_some, if_neg (show ¬ (1 : Int32) = 0 by decide), e1, zb_some]
    rcases r_all (fu := fu) (T := T) (M := M) (mltr := mltr) (mbeg := mbeg) (B := B) (hst := hst') (spare := spare) (undo := undo) (plen := 0) (ppos := iI (k' : Int)) (stE := stE) (stF := stF) (sp := sp) (c := c') (cmds := cm') (f := f') (a0 := a) (masd := ma) (mpst := mpst) (mchg := mchg) (merr := merr) (mfai := mfai) (minM := 0) (mpl := iI (k' : Int)) (msz := iI (len : Int)) (by omega) hB hc9 hcv hsp hd2 hcr ho.1 hma st mm a mUp fu h g (ho.mono (by omega) (by omega)) (by omega) with ⟨st', mm', j, w, r1, r2, r3, r4⟩ | ⟨st', mm', a', w, r1, r2, r3, r4, r5⟩
    · exact ⟨.error 2, st', hst', spare, undo, _, _, _, stE, j, _, mm', ma, mpst, mchg, merr, j, 2, w, f', _, _, _, _, a, r1, r2, Or.inr (Or.inl ⟨rfl, rfl, rfl, rfl, rfl⟩), r3, r4, ho', hh1.mono (by omega) (by omega)⟩
    · obtain ⟨spare', undo', mpst', mchg', b1, b2, b3⟩ := h_keep (fu := fu) hf hh1 hcr hma ho
      rw [b1, zb_some] at r1
      rw [b2, zb_some] at r2
      exact ⟨.ok (iI (c' : Int)), st', hst', spare', undo', _, _, _, stE, stF, _, mm', ma, mpst', mchg', merr, mfai, 0, w, f', _, _, _, _, a', r1, r2, Or.inr (Or.inr ⟨rfl, rfl, ⟨c', rfl, hc9⟩, rfl, rfl, rfl, rfl⟩), r3, r4, r5, b3.mono (by omega) (by omega)⟩
  · rw [p1, p2, zb_some, if_pos rfl]
    exact ⟨.error 0, st, hst, spare, undo, _, _, _, p, stF, _, mm, ma, mpst, mchg, p, mfai, 1, mUp, f', _, _, _, _, a, rfl, rfl, Or.inl ⟨rfl, rfl, rfl, rfl, rfl⟩, h, g, ho', hh'⟩
