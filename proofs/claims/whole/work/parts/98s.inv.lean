-- what holds before each call
def BB (k : Nat) : Int := 110 * (k : Int)
def SV (B : Int) (sv : SS) (isS : Int32) (msav : Nat → Int64) (misS : Int32) : Prop := (isS = 0 ∧ misS = 0) ∨ (isS = 1 ∧ misS = 1 ∧ ∃ b, CR sv b ∧ MR msav b ∧ OKA B b)
def TXI (ptx : Nat → Int32) (plen : Int32) (minp : Nat → Int32) (minM : Int32) : Prop := ∃ n : Nat, plen = iI (n : Int) ∧ minM = iI (n : Int) ∧ TX ptx minp n
def LRI (lch : Nat → Int32) (llen : Int32) (mlin : Nat → Int32) (mliM : Int32) : Prop := ∃ n : Nat, n ≤ 61 ∧ LR n lch llen mlin mliM
def IS (B : Int) (st : SS) (mm : Nat → Int64) : Prop := ∃ a, CR st a ∧ MR mm a ∧ OKA B a
def InvA (k : Nat) (st sv : SS) (isS : Int32) (hst : Nat → SS) (spare undo : Int32) (ptx : Nat → Int32) (plen stE stF : Int32) (lch : Nat → Int32) (llen : Int32) (mm msav : Nat → Int64) (misS : Int32) (mpst : Nat → Int64) (mchg merr mfai : Int32) (minp : Nat → Int32) (minM : Int32) (mltr mbeg mlin : Nat → Int32) (mliM : Int32) : Prop :=
  IS (BB k) st mm ∧ SV (BB k) sv isS msav misS ∧ HR (BB k) hst spare undo mchg mpst ∧ TXI ptx plen minp minM ∧ (stE = merr ∧ stF = mfai) ∧ LRI lch llen mlin mliM ∧ LB mltr mbeg
def Inv (k : Nat) (z : LW) : Prop := InvA k (l_st z) (l_sv z) (l_isS z) (l_hst z) (l_spare z) (l_undo z) (l_ptx z) (l_plen z) (l_stE z) (l_stF z) (l_lch z) (l_llen z) (l_mm z) (l_msav z) (l_misS z) (l_mpst z) (l_mchg z) (l_merr z) (l_mfai z) (l_minp z) (l_minM z) (l_mltr z) (l_mbeg z) (l_mlin z) (l_mliM z)
theorem BB_s (k : Nat) : BB (k + 1) = BB k + 110 := by unfold BB; omega
theorem BB_b {k : Nat} (h : k < 512) : 0 ≤ BB k ∧ BB k + 110 ≤ 1000000 := by unfold BB; omega
theorem IS.mono {B B' : Int} {st : SS} {mm : Nat → Int64} (h : IS B st mm) (h1 : B ≤ B') (h2 : B' ≤ 1000000) : IS B' st mm := by
  obtain ⟨a, x, y, o⟩ := h
  exact ⟨a, x, y, o.mono h1 h2⟩
theorem SV.mono {B B' : Int} {sv : SS} {isS : Int32} {msav : Nat → Int64} {misS : Int32} (h : SV B sv isS msav misS) (h1 : B ≤ B') (h2 : B' ≤ 1000000) : SV B' sv isS msav misS := by
  rcases h with h | ⟨x, y, z⟩
  · exact Or.inl h
  · exact Or.inr ⟨x, y, IS.mono z h1 h2⟩
section inv
variable {k : Nat} {st sv : SS} {isS : Int32} {hst : Nat → SS} {spare undo : Int32} {ptx : Nat → Int32} {plen stE stF : Int32} {lch : Nat → Int32} {llen : Int32} {mm msav : Nat → Int64} {misS : Int32} {mpst : Nat → Int64} {mchg merr mfai : Int32} {minp : Nat → Int32} {minM : Int32} {mltr mbeg mlin : Nat → Int32} {mliM : Int32}
theorem inv_mono (hk : k < 512) (h : InvA k st sv isS hst spare undo ptx plen stE stF lch llen mm msav misS mpst mchg merr mfai minp minM mltr mbeg mlin mliM) : InvA (k + 1) st sv isS hst spare undo ptx plen stE stF lch llen mm msav misS mpst mchg merr mfai minp minM mltr mbeg mlin mliM := by
  have hb := BB_b hk
  have hs := BB_s k
  obtain ⟨h1, h2, h3, h4⟩ := h
  exact ⟨h1.mono (by omega) (by omega), h2.mono (by omega) (by omega), h3.mono (by omega) (by omega), h4⟩
theorem inv_chg (hk : k < 512) (h : InvA k st sv isS hst spare undo ptx plen stE stF lch llen mm msav misS mpst mchg merr mfai minp minM mltr mbeg mlin mliM) {st' : SS} {mm' : Nat → Int64} {a' : AS} {hst' : Nat → SS} {sp' un' mc' : Int32} {mp' : Nat → Int64} {B' : Int} (hB : B' ≤ BB k + 110) (c1 : CR st' a') (c2 : MR mm' a') (c3 : OKA B' a') (c4 : HR B' hst' sp' un' mc' mp') : InvA (k + 1) st' sv isS hst' sp' un' ptx plen stE stF lch llen mm' msav misS mp' mc' merr mfai minp minM mltr mbeg mlin mliM := by
  have hb := BB_b hk
  have hs := BB_s k
  obtain ⟨h1, h2, h3, h4⟩ := h
  exact ⟨⟨a', c1, c2, c3.mono (by omega) (by omega)⟩, h2.mono (by omega) (by omega), c4.mono (by omega) (by omega), h4⟩
end inv
theorem thr_ (t : Int32) : F_X11_thrown t = some t := rfl
theorem joS (f : Nat → Int64) (n : Nat) (v : Int64) : vp_updL f n v n = v := by rw [up_L, if_pos rfl]
theorem jdS (f : Nat → UInt64) (n : Nat) (v : UInt64) : vf_upd f n v n = v := by unfold vf_upd; rw [if_pos rfl]
theorem c0_ : iI 0 = (0 : Int32) := rfl
theorem c1_ : iI 1 = (1 : Int32) := rfl
theorem c2_ : iI 2 = (2 : Int32) := rfl
theorem c3_ : iI 3 = (3 : Int32) := rfl
theorem c4_ : iI 4 = (4 : Int32) := rfl
theorem y10 : ((1 : Int32) = 0) = False := by decide
theorem y20 : ((2 : Int32) = 0) = False := by decide
theorem y30 : ((3 : Int32) = 0) = False := by decide
theorem y40 : ((4 : Int32) = 0) = False := by decide
theorem x10 : ((1 : Nat) = 0) = False := by decide
theorem x20 : ((2 : Nat) = 0) = False := by decide
theorem x21 : ((2 : Nat) = 1) = False := by decide
theorem x30 : ((3 : Nat) = 0) = False := by decide
theorem x31 : ((3 : Nat) = 1) = False := by decide
theorem x32 : ((3 : Nat) = 2) = False := by decide
theorem x40 : ((4 : Nat) = 0) = False := by decide
theorem x43 : ((4 : Nat) = 3) = False := by decide
theorem x50 : ((5 : Nat) = 0) = False := by decide
theorem x53 : ((5 : Nat) = 3) = False := by decide
theorem zrng (x : Int32) : (0 ≤ zchar x ∧ zchar x ≤ 65535) = True := by
  obtain ⟨m, e, h1, h2⟩ := zc_ex x
  rw [e]
  exact eq_true (ch_fit h1 h2)
theorem zch_ch {r : Int32} (h : 0 ≤ r ∧ r ≤ 65535) : zchar r = r := by
  obtain ⟨m, rfl, h1, h2⟩ := ii_ex r
  have a := h.1; have b := h.2
  rw [ii_L0, ii_le (by omega) (by omega) (by omega) (by omega)] at a
  rw [ii_L65535, ii_le (by omega) (by omega) (by omega) (by omega)] at b
  exact zc_id a b
theorem ii_e32 (x : Int32) : ∃ a : Int, x = iI a ∧ r32 a := ii_ex x
/-- one change through history -/
theorem chg {T : Type} {L : List (Nat × Int)} {fu : Nat} (hf : 300 ≤ fu) {B : Int} {st : SS} {mm : Nat → Int64} {a : AS} {hst : Nat → SS} {spare undo mchg : Int32} {mpst : Nat → Int64} (h : CR st a) (g : MR mm a) (ho : OKA B a) (hB : B + 110 ≤ 1000000) (hh : HR B hst spare undo mchg mpst) (masd : Nat → Int64) (t : Int32) {X : Option (Except (Nat × SS) (T × SS))} {Y : Option (T × (Nat → Int64) × Int32)} (hL : ∀ p ∈ L, 1 ≤ p.2 ∧ p.2 ≤ 10) (hX : CH L B st mm 0 X Y) :
    ∃ hst' masd', F_X2_remember st hst spare = some hst' ∧ F_X11_starts fu mm masd t = some (masd', 0) ∧
    ((∃ e k q, (e, k) ∈ L ∧ X = some (.error (e, st)) ∧ Y = some (q, mm, iI k) ∧ F_X11_ends fu masd' mpst mchg (iI k) = some (mpst, mchg) ∧ CR st a ∧ MR mm a ∧ OKA (B + 10) a ∧ HR (B + 10) hst' spare undo mchg mpst) ∨
     ∃ r st' mm' a' sp' un' mp' mc', X = some (.ok (r, st')) ∧ Y = some (r, mm', 0) ∧ F_X2_keep spare undo = some (sp', un') ∧ F_X11_ends fu masd' mpst mchg 0 = some (mp', mc') ∧ CR st' a' ∧ MR mm' a' ∧ OKA (B + 10) a' ∧ HR (B + 10) hst' sp' un' mc' mp') := by
  obtain ⟨hst', e1, hh1, hcr⟩ := h_rem hh h ho.1
  obtain ⟨ma, s1, s2⟩ := f11_starts (fu := fu) (by omega) mm masd t
  refine ⟨hst', ma, e1, s1, ?_⟩
  rcases hX with ⟨e, k, q, hl, x1, x2⟩ | ⟨r, st', mm', a', x1, x2, k1, k2, k3⟩
  · have hk := hL _ hl
    exact Or.inl ⟨e, k, q, hl, x1, x2, f11_endsN ma mpst mchg hk.1 hk.2, h, g, ho.mono (by omega) (by omega), hh1.mono (by omega) (by omega)⟩
  · obtain ⟨sp', un', mp', mc', b1, b2, b3⟩ := h_keep (fu := fu) hf hh1 hcr (MR_ext ho.1 g s2) ho
    exact Or.inr ⟨r, st', mm', a', sp', un', mp', mc', x1, x2, b1, b2, k1, k2, k3, b3.mono (by omega) (by omega)⟩
theorem chgT {L : List (Nat × Int)} {fu : Nat} (hf : 300 ≤ fu) {B : Int} {st : SS} {mm : Nat → Int64} {a : AS} {hst : Nat → SS} {spare undo mchg : Int32} {mpst : Nat → Int64} (h : CR st a) (g : MR mm a) (ho : OKA B a) (hB : B + 110 ≤ 1000000) (hh : HR B hst spare undo mchg mpst) (masd : Nat → Int64) (t : Int32) {X : Option (Except (Nat × SS) (Int32 × SS))} {Y : Option (Int32 × (Nat → Int64) × Int32 × (Nat → Int32))} (hL : ∀ p ∈ L, 1 ≤ p.2 ∧ p.2 ≤ 10) (hX : CHT L B st mm 0 X Y) :
    ∃ hst' masd', F_X2_remember st hst spare = some hst' ∧ F_X11_starts fu mm masd t = some (masd', 0) ∧
    ((∃ e k q w, (e, k) ∈ L ∧ X = some (.error (e, st)) ∧ Y = some (q, mm, iI k, w) ∧ F_X11_ends fu masd' mpst mchg (iI k) = some (mpst, mchg) ∧ CR st a ∧ MR mm a ∧ OKA (B + 10) a ∧ HR (B + 10) hst' spare undo mchg mpst) ∨
     ∃ r st' mm' a' sp' un' mp' mc' w, X = some (.ok (r, st')) ∧ Y = some (r, mm', 0, w) ∧ F_X2_keep spare undo = some (sp', un') ∧ F_X11_ends fu masd' mpst mchg 0 = some (mp', mc') ∧ CR st' a' ∧ MR mm' a' ∧ OKA (B + 10) a' ∧ HR (B + 10) hst' sp' un' mc' mp') := by
  obtain ⟨hst', e1, hh1, hcr⟩ := h_rem hh h ho.1
  obtain ⟨ma, s1, s2⟩ := f11_starts (fu := fu) (by omega) mm masd t
  refine ⟨hst', ma, e1, s1, ?_⟩
  rcases hX with ⟨e, k, q, w, hl, x1, x2⟩ | ⟨r, st', mm', a', w, x1, x2, k1, k2, k3⟩
  · have hk := hL _ hl
    exact Or.inl ⟨e, k, q, w, hl, x1, x2, f11_endsN ma mpst mchg hk.1 hk.2, h, g, ho.mono (by omega) (by omega), hh1.mono (by omega) (by omega)⟩
  · obtain ⟨sp', un', mp', mc', b1, b2, b3⟩ := h_keep (fu := fu) hf hh1 hcr (MR_ext ho.1 g s2) ho
    exact Or.inr ⟨r, st', mm', a', sp', un', mp', mc', w, x1, x2, b1, b2, k1, k2, k3, b3.mono (by omega) (by omega)⟩
/-- what changeMode answers is a mode -/
theorem mode_r {fu : Nat} (hf : 30 ≤ fu) {st : SS} {mm : Nat → Int64} {a : AS} {B : Int} (h : CR st a) (g : MR mm a) (ho : OKA B a) (hB : B + 10 ≤ 1000000) (t : Int32) {p m : Int} (hp : r32 p) (hm : 0 ≤ m ∧ m ≤ 65535) : ∀ r s, F_X10_changeMode fu st (iI p) (iI m) = some (.ok (r, s)) → 0 ≤ r ∧ r ≤ 65535 := by
  have hm' : r32 m := ⟨by omega, by omega⟩
  have hc := ho.1
  unfold F_X10_changeMode
  rcases f_find (fu := fu) (by omega) h g ho hp with ⟨j, hj, e1, e2, _⟩ | ⟨e1, e2⟩
  · by_cases hM : md m
    · have hMj := md_bd (ho.2.2.2.2.2.2.2.2.2.1 j hj)
      have hfit : (¬ (0 ≤ iI (a_M a j) ∧ iI (a_M a j) ≤ 65535)) = False := eq_false (fun n => n (ch_fit hMj.1 hMj.2))
      simp only [zb_some, zc_ok, zc_err, zl_eq, f11_throw, i1_0, i0_0, im_m, if_true, if_false, not_true_eq_false, not_false_eq_true, e1, e2, f10_mdY hM (show 10 ≤ fu by omega), ik_g (show j < 6 by omega) (show 6 < 2147483648 by omega), ik_gx (show j < 6 by omega) (show 6 < 2147483648 by omega), cs_M h hj hc, ii_nc j (show j < 2147483648 by omega), h.2.2.2.2.2.2.2.2.2.2.1 j hj]
      intro r s e
      rw [if_neg (fun n => n (ch_fit hMj.1 hMj.2))] at e
      cases e
      exact ch_fit hMj.1 hMj.2
    · simp only [zb_some, zc_ok, zc_err, zl_eq, f11_throw, i1_0, i0_0, im_m, if_true, if_false, not_true_eq_false, not_false_eq_true, e1, f10_mdN hm' hM (show 10 ≤ fu by omega)]
      intro r s e
      cases e
  · simp only [zb_some, zc_ok, zc_err, zl_eq, f11_throw, i1_0, i0_0, im_m, if_true, if_false, not_true_eq_false, not_false_eq_true, e1]
    intro r s e
    cases e
theorem q_out {n : Nat} {lch : Nat → Int32} {llen : Int32} {mlin : Nat → Int32} {mliM : Int32} (hn : n ≤ 61) (h : LR n lch llen mlin mliM) (t : Int32) {p : Int} (hp : r32 p) : QH [(4, 1)] (F_X10_outputAt lch llen (iI p)) (F_X11_outputAt t mlin mliM (iI p)) := by
  obtain ⟨rfl, rfl, h3⟩ := h
  have a1 := hp.1; have a2 := hp.2
  have hin : F_X11_in (Int32.toInt64 (iI p)) 0 (Int32.toInt64 (iI (n : Int) - 1)) = some (iI (if 0 ≤ p ∧ p ≤ (n : Int) - 1 then 1 else 0)) := by
    rw [ii_L1, ii_sub, ii_toL a1 a2, ii_toL (by omega) (by omega), ll_L0, f_in (by omega) (by omega) (by omega) (by omega) (by omega) (by omega)]
  have ht0 : (iI p < 0) = (p < 0) := by rw [ii_L0, ii_lt (by omega) (by omega) (by omega) (by omega)]
  have htc : (iI p < iI (n : Int)) = (p < n) := by rw [ii_lt (by omega) (by omega) (by omega) (by omega)]
  unfold F_X10_outputAt F_X11_outputAt
  rw [hin, zb_some]
  by_cases e : 0 ≤ p ∧ p < n
  · obtain ⟨k, rfl⟩ : ∃ k : Nat, p = k := ⟨p.toNat, by omega⟩
    obtain ⟨b1, b2, b3⟩ := h3 k (by omega)
    refine Or.inl ⟨lch k, ?_, ?_⟩
    · rw [if_neg (by rw [ht0]; omega), if_pos (by rw [htc]; omega), if_neg (ii_gd (by omega) (by omega)), ii_nc k (by omega), if_neg (fun n => n ⟨b2, b3⟩)]
    · rw [if_pos (show 0 ≤ (k : Int) ∧ (k : Int) ≤ (n : Int) - 1 by omega), if_neg (by decide), if_neg (ii_gd (by omega) (by omega)), if_neg (fun n => n (of_eq_true (zrng _))), ii_nc k (by omega), ← b1, zch_ch ⟨b2, b3⟩]; rfl
  · refine Or.inr ⟨4, 1, zchar (-1), by simp, ?_, ?_⟩
    · by_cases e0 : p < 0
      · rw [if_pos (by rw [ht0]; exact e0)]
      · rw [if_neg (by rw [ht0]; exact e0), if_neg (by rw [htc]; omega)]
    · rw [if_neg (show ¬ (0 ≤ p ∧ p ≤ (n : Int) - 1) by omega), if_pos (by decide), f11_throw, zb_some, if_neg (fun n => n (of_eq_true (zrng _)))]; rfl
theorem q_app {ptx minp : Nat → Int32} {plen minM : Int32} (h : TXI ptx plen minp minM) (t : Int32) {m : Int} (hm : 0 ≤ m ∧ m ≤ 65535) :
    (∃ r ptx' minp', F_X10_append ptx plen (iI m) = some (.ok (r, ptx', r)) ∧ F_X11_append t minp minM (iI m) = some (r, 0, minp', r) ∧ TXI ptx' r minp' r) ∨ ∃ q, F_X10_append ptx plen (iI m) = some (.error (1, (ptx, plen))) ∧ F_X11_append t minp minM (iI m) = some (q, 1, minp, minM) := by
  obtain ⟨n, rfl, rfl, h60, hT⟩ := h
  unfold F_X10_append F_X11_append F_X6_isFull F_X6_put
  have t60 : (iI (n : Int) < 60) = ((n : Int) < 60) := by rw [ii_L60, ii_lt (by omega) (by omega) (by omega) (by omega)]
  have q60 : (iI (n : Int) = 60) = ((n : Int) = 60) := by rw [ii_L60, ii_eq (by omega) (by omega) (by omega) (by omega)]
  by_cases e : n < 60
  · left
    have e1 : iI (n : Int) + 1 = iI ((n + 1 : Nat) : Int) := by rw [ii_L1, ii_add]; rfl
    rw [if_pos (show iI (n : Int) < 60 by rw [t60]; omega), zb_some, if_pos rfl, if_neg (ii_gd (by omega) (by omega)), zb_some, if_neg (show ¬ iI (n : Int) = 60 by rw [q60]; omega), if_neg (ii_gd (by omega) (by omega)), ii_nc n (by omega), nr_id hm.1 hm.2, e1]
    refine ⟨_, _, _, rfl, rfl, n + 1, rfl, rfl, by omega, fun i hi => ?_⟩
    show upd ptx n (iI m) i = upd minp n (iI m) i ∧ 0 ≤ upd ptx n (iI m) i ∧ upd ptx n (iI m) i ≤ 65535
    rw [up_I, up_I]
    by_cases hin : i = n
    · rw [if_pos hin, if_pos hin]
      have := ch_fit hm.1 hm.2
      exact ⟨rfl, this.1, this.2⟩
    · rw [if_neg hin, if_neg hin]
      exact hT i (by omega)
  · right
    rw [if_neg (show ¬ iI (n : Int) < 60 by rw [t60]; omega), zb_some, if_neg (by decide), if_pos (show iI (n : Int) = 60 by rw [q60]; omega), f11_throw, zb_some]
    exact ⟨-1, rfl, rfl⟩
theorem inv_0 : Inv 0 zL0 := by
  refine ⟨⟨(fun _ => 0, fun _ => 0, fun _ => 0, fun _ => 0, 0, 0, 0, 0, 0, 0, 0), ⟨rfl, rfl, rfl, rfl, rfl, rfl, rfl, fun k hk => absurd hk (Nat.not_lt_zero k), fun k hk => absurd hk (Nat.not_lt_zero k), fun k hk => absurd hk (Nat.not_lt_zero k), fun k hk => absurd hk (Nat.not_lt_zero k), fun k hk => ?_⟩, ⟨rfl, rfl, rfl, rfl, fun k hk => absurd hk (Nat.not_lt_zero k), fun k hk => absurd hk (Nat.not_lt_zero k), fun k hk => absurd hk (Nat.not_lt_zero k), fun k hk => absurd hk (Nat.not_lt_zero k)⟩, ?_⟩, Or.inl ⟨rfl, rfl⟩, ?_, ?_, ⟨rfl, rfl⟩, ?_, ?_⟩
  · exact (show (0 : Int32) ≤ 0 ∧ (0 : Int32) ≤ 65535 from by decide)
  · refine ⟨by decide, by decide, by decide, by decide, by decide, by decide, fun k hk => absurd hk (Nat.not_lt_zero k), fun k hk => absurd hk (Nat.not_lt_zero k), fun k hk => absurd hk (Nat.not_lt_zero k), fun k hk => absurd hk (Nat.not_lt_zero k), fun k hk => absurd hk (Nat.not_lt_zero k), by decide⟩
  · exact ⟨0, 0, fun _ => (fun _ => 0, fun _ => 0, fun _ => 0, fun _ => 0, 0, 0, 0, 0, 0, 0, 0), by omega, by omega, rfl, rfl, rfl, fun j hj => absurd hj (Nat.not_lt_zero j)⟩
  · exact ⟨0, rfl, rfl, by omega, fun i hi => absurd hi (Nat.not_lt_zero i)⟩
  · exact ⟨0, by omega, rfl, rfl, fun i hi => absurd hi (Nat.not_lt_zero i)⟩
  · constructor
    · intro w i hw hi
      have h1 : ∀ w : Fin 8, ∀ i : Fin (wl w.val), l_mltr zL0 (bg w.val + i.val) = iI (wc w.val i.val) := by decide
      exact h1 ⟨w, hw⟩ ⟨i, hi⟩
    · intro w hw
      have h1 : ∀ w : Fin 9, l_mbeg zL0 w.val = iI (bg w.val : Int) := by decide
      exact h1 ⟨w, hw⟩
