-- the whole text, and what it asks for
theorem CV_ext {cc : CC} {f f' : Nat → Int32} {q : Nat} (h : CV cc f q) (e : ∀ i, i < 5 → f' (q + i) = f (q + i)) : CV cc f' q := by
  obtain ⟨w, hw, hk, h0, ha⟩ := h
  have e0 : f' q = f q := e 0 (by omega)
  have e1 := e 1 (by omega)
  have e2 := e 2 (by omega)
  have e3 := e 3 (by omega)
  have e4 := e 4 (by omega)
  refine ⟨w, hw, hk, e0.trans h0, ?_⟩
  have hw8 : w = 0 ∨ w = 1 ∨ w = 2 ∨ w = 3 ∨ w = 4 ∨ w = 5 ∨ w = 6 ∨ w = 7 := by omega
  rcases hw8 with x|x|x|x|x|x|x|x <;> subst x <;> simp only [AR, e1, e2, e3, e4] at ha ⊢ <;> exact ha
theorem p_run {fu : Nat} (hf : 30 ≤ fu) {T M mltr mbeg : Nat → Int32} (hL : LB mltr mbeg) {len : Nat} (h : TX T M len) (mm masd mpst : Nat → Int64) (mchg merr mfai minM : Int32) (mUp : Nat → Int32) : ∀ (n k c : Nat) (cmds : Nat → CC) (mcmd : Nat → Int32), c ≤ 8 → 7 * c ≤ k → k ≤ len → 11 ≤ n + c → (∀ j, j < c → CV (cmds j) mcmd (5 * j)) →
    (∃ (k' c' : Nat) (cmds' : Nat → CC) (f' : Nat → Int32), c' ≤ 9 ∧ F_X6_read_10 fu n T (iI (len : Int)) (iI (k : Int)) (iI (c : Int)) cmds = some (1, iI (k' : Int), iI (c' : Int), cmds') ∧ (∀ j, j < c' → CV (cmds' j) f' (5 * j)) ∧
      F_X11_run_34 fu n mm masd mpst mchg merr mfai 0 M minM mUp mltr mbeg mcmd (iI (c : Int)) (iI (k : Int)) (iI (len : Int)) 0 1 = F_X11_run_115 fu fu mm masd mpst mchg merr mfai 0 M minM mUp mltr mbeg f' (iI (c' : Int)) (iI (k' : Int)) (iI (len : Int)) 0 0) ∨
    ∃ (p q n' : Int32) (cmds' : Nat → CC) (f' : Nat → Int32), F_X6_read_10 fu n T (iI (len : Int)) (iI (k : Int)) (iI (c : Int)) cmds = some (0, p, q, cmds') ∧
      F_X11_run_34 fu n mm masd mpst mchg merr mfai 0 M minM mUp mltr mbeg mcmd (iI (c : Int)) (iI (k : Int)) (iI (len : Int)) 0 1 = some (-1, mm, masd, mpst, mchg, p, mfai, 1, minM, mUp, f', n', p, iI (len : Int), 1) := by
  have h60 := h.1
  intro n
  induction n with
  | zero => intro k c _ _ hc _ _ hn _; omega
  | succ n ih =>
    intro k c cmds mcmd hc hk hkl hn hcv
    obtain ⟨n, rfl⟩ : ∃ m, n = m + 1 := ⟨n - 1, by omega⟩
    have hc9 : ¬ (9 : Int32) ≤ iI (c : Int) := by
      rw [show (9 : Int32) = iI ((9 : Nat) : Int) from rfl, ii_le (by omega) (by omega) (by omega) (by omega)]; omega
    have hgd : ¬ (iI (c : Int) < 0 ∨ 9 ≤ (iI (c : Int)).toNatClampNeg) := ii_gd (by omega) (by omega)
    have eC : F_X6_read_10 fu (n + 1 + 1) T (iI (len : Int)) (iI (k : Int)) (iI (c : Int)) cmds =
      zbind (F_X6_readCommand fu T (iI (len : Int)) (iI (k : Int)) (cmds c)) fun zo3 =>
      if zo3.1 = 0 then (some (0, zo3.2.1, iI (c : Int), (fun i => if i = c then zo3.2.2 else cmds i)))
      else (if zo3.2.1 = iI (len : Int) then (some (1, zo3.2.1, (iI (c : Int) + 1), (fun i => if i = c then zo3.2.2 else cmds i)))
      else (zbind (F_X6_readCharacter T (iI (len : Int)) zo3.2.1 59) fun zo6 =>
      if zo6.1 = 0 then (some (0, zo6.2, (iI (c : Int) + 1), (fun i => if i = c then zo3.2.2 else cmds i)))
      else ((F_X6_read_10 fu (n + 1)) T (iI (len : Int)) zo6.2 (iI (c : Int) + 1) (fun i => if i = c then zo3.2.2 else cmds i)))) := by
      conv => lhs; unfold F_X6_read_10
      rw [if_neg hc9, if_neg hgd, ii_nc c (by omega)]
    have eM : F_X11_run_34 fu (n + 1 + 1) mm masd mpst mchg merr mfai 0 M minM mUp mltr mbeg mcmd (iI (c : Int)) (iI (k : Int)) (iI (len : Int)) 0 1 =
      zbind (F_X11_readCommand fu M mltr mbeg mcmd (iI (c : Int)) (iI (k : Int)) (iI (len : Int)) 0) fun zo17 =>
      if zo17.2.2.2 = 0 then (if iI (len : Int) ≤ zo17.2.2.1 then (F_X11_run_65 (F_X11_run_34 fu (n + 1)) fu mm masd mpst mchg merr mfai 0 M minM mUp mltr mbeg zo17.1 zo17.2.1 zo17.2.2.1 (iI (len : Int)) zo17.2.2.2 0)
      else (F_X11_run_65 (F_X11_run_34 fu (n + 1)) fu mm masd mpst mchg merr mfai 0 M minM mUp mltr mbeg zo17.1 zo17.2.1 zo17.2.2.1 (iI (len : Int)) zo17.2.2.2 1))
      else (F_X11_run_65 (F_X11_run_34 fu (n + 1)) fu mm masd mpst mchg merr mfai 0 M minM mUp mltr mbeg zo17.1 zo17.2.1 zo17.2.2.1 (iI (len : Int)) zo17.2.2.2 0) := by
      conv => lhs; unfold F_X11_run_34
      rw [if_neg (by decide)]
    rw [eC, eM]
    have e1 : iI (c : Int) + 1 = iI ((c + 1 : Nat) : Int) := by rw [ii_L1, ii_add]; rfl
    rcases p_cmd hf hL h hkl (show c < 10 by omega) (cmds c) mcmd 0 with ⟨k', cc', f', a1, a2, a3, a4, a5, a6⟩ | ⟨k', cc', f', n', a1, a2, a3, a4⟩
    · rw [a3, a4, zb_some, zb_some, if_neg (show ¬ (1 : Int32) = 0 by decide), if_pos rfl, e1]
      have hcv' : ∀ j, j < c + 1 → CV (if j = c then cc' else cmds j) f' (5 * j) := by
        intro j hj
        by_cases hjc : j = c
        · rw [if_pos hjc, hjc]; exact a6
        · rw [if_neg hjc]; exact CV_ext (hcv j (by omega)) (fun i hi => a5 _ (by omega))
      by_cases hend : k' = len
      · subst hend
        rw [if_pos rfl, if_pos (by rw [ii_le (by omega) (by omega) (by omega) (by omega)]; omega)]
        refine Or.inl ⟨k', c + 1, _, f', by omega, rfl, hcv', ?_⟩
        unfold F_X11_run_65
        rw [if_pos rfl]
        unfold F_X11_run_34
        rw [if_pos rfl, if_pos rfl]
      · have hne : ¬ iI (k' : Int) = iI (len : Int) := by rw [ii_eq (by omega) (by omega) (by omega) (by omega)]; omega
        rw [if_neg hne, if_neg (by rw [ii_le (by omega) (by omega) (by omega) (by omega)]; omega)]
        have e65 : F_X11_run_65 (F_X11_run_34 fu (n + 1)) fu mm masd mpst mchg merr mfai 0 M minM mUp mltr mbeg f' (iI ((c + 1 : Nat) : Int)) (iI (k' : Int)) (iI (len : Int)) 0 1 = zbind (F_X11_expects M (iI (k' : Int)) (iI (len : Int)) 0 59) fun zo12 =>
            if zo12.2 = 0 then (F_X11_run_34 fu (n + 1) mm masd mpst mchg merr mfai 0 M minM mUp mltr mbeg f' (iI ((c + 1 : Nat) : Int)) zo12.1 (iI (len : Int)) zo12.2 1)
            else (F_X11_run_34 fu (n + 1) mm masd mpst mchg merr mfai 0 M minM mUp mltr mbeg f' (iI ((c + 1 : Nat) : Int)) zo12.1 (iI (len : Int)) zo12.2 0) := by
          unfold F_X11_run_65
          rw [if_neg (show ¬ (1 : Int32) = 0 by decide)]
        rw [e65]
        rcases p_char h (show k' ≤ len by omega) (c := 59) (v := 59) ii_L59 (by omega) (by omega) with ⟨b1, b2, b3⟩ | ⟨b2, b3⟩
        · rw [b2, b3, zb_some, zb_some, if_neg (show ¬ (1 : Int32) = 0 by decide), if_pos rfl]
          exact ih (k' + 1) (c + 1) _ f' (by omega) (by omega) (by omega) (by omega) hcv'
        · rw [b2, b3, zb_some, zb_some, if_pos rfl, if_neg (show ¬ (1 : Int32) = 0 by decide)]
          refine Or.inr ⟨iI (k' : Int), _, iI ((c + 1 : Nat) : Int), _, f', rfl, ?_⟩
          unfold F_X11_run_34
          rw [if_pos rfl, if_neg (show ¬ (1 : Int32) = 0 by decide), f11_throw, zb_some]
    · rw [a3, a4, zb_some, zb_some, if_pos rfl, if_neg (show ¬ (1 : Int32) = 0 by decide)]
      refine Or.inr ⟨iI (k' : Int), _, n', _, f', rfl, ?_⟩
      unfold F_X11_run_65
      rw [if_pos rfl]
      unfold F_X11_run_34
      rw [if_pos rfl, if_neg (show ¬ (1 : Int32) = 0 by decide), f11_throw, zb_some]
theorem f11_run139 {fu : Nat} {masd : Nat → Int64} (mpst : Nat → Int64) (mchg merr mfai t : Int32) (M : Nat → Int32) (minM : Int32) (mUp mltr mbeg f : Nat → Int32) (nc mpl msz mwr x2 : Int32) : ∀ (n i : Nat) (mm : Nat → Int64), i ≤ 28 → 28 < n + i → (∀ k, k < i → mm k = masd k) → ∃ mm', F_X11_run_139 fu n mm masd mpst mchg merr mfai t M minM mUp mltr mbeg f nc mpl msz mwr x2 (iI (i : Int)) = some (-1, mm', masd, mpst, mchg, merr, x2, 2, minM, mUp, f, nc, mpl, msz, mwr) ∧ ∀ k, k < 28 → mm' k = masd k := by
  intro n
  induction n with
  | zero => intro i mm _ _; omega
  | succ n ih =>
    intro i mm hi hn hs
    unfold F_X11_run_139
    rw [ti_le28 (by omega)]
    by_cases e : ((28 : Nat) : Int) ≤ (i : Int)
    · rw [if_pos e, f11_throw, zb_some]
      exact ⟨mm, rfl, fun k hk => hs k (by omega)⟩
    · rw [if_neg e, if_neg (ii_gd (by omega) (by omega)), if_neg (ii_gd (by omega) (by omega)), zl_eq, ii_nc i (by omega), ii_L1, ii_add, ii_nx]
      refine ih (i + 1) _ (by omega) (by omega) (fun k hk => ?_)
      rw [up_L]
      by_cases hki : k = i
      · rw [if_pos hki, hki]
      · rw [if_neg hki]; exact hs k (by omega)
def sux {T : Type} (x : Option (Except (Nat × SS) (T × SS))) : Option (Int32 × SS) :=
    zbind (zbind x fun zo => zcase zo (fun za => some (Except.ok za.2 : Except (Nat × SS) SS)) (fun zw => some (.error (zw.1, zw.2)))) fun zo1 => zcase zo1 (fun za1 =>
    some (1, za1))
    (fun zw1 => if zw1.1 = 0 then (some (0, zw1.2))
    else if zw1.1 = 1 then (some (0, zw1.2))
    else if zw1.1 = 2 then (some (0, zw1.2))
    else if zw1.1 = 3 then (some (0, zw1.2))
    else none)
def dox {T : Type} (y : Option (T × (Nat → Int64) × Int32)) (mUp : Nat → Int32) : Option ((Nat → Int64) × Int32 × (Nat → Int32)) := zbind y fun zo => some (zo.2.1, zo.2.2, mUp)
def DOES (B : Int) (st : SS) (mm : Nat → Int64) (x : Option (Int32 × SS)) (y : Option ((Nat → Int64) × Int32 × (Nat → Int32))) : Prop :=
  (∃ k w, (1 ≤ k ∧ k ≤ 9) ∧ x = some (0, st) ∧ y = some (mm, iI k, w)) ∨ ∃ st' mm' a' w, x = some (1, st') ∧ y = some (mm', 0, w) ∧ CR st' a' ∧ MR mm' a' ∧ OKA (B + 10) a'
theorem sux_er {T : Type} {e : Nat} {st : SS} (he : e < 4) : sux (T := T) (some (.error (e, st))) = some (0, st) := by
  have h : e = 0 ∨ e = 1 ∨ e = 2 ∨ e = 3 := by omega
  rcases h with h|h|h|h <;> subst h <;> rfl
theorem co_CH {T : Type} {L : List (Nat × Int)} {B : Int} {st : SS} {mm : Nat → Int64} {x : Option (Except (Nat × SS) (T × SS))} {y : Option (T × (Nat → Int64) × Int32)} (mUp : Nat → Int32) (hL : ∀ p ∈ L, p.1 < 4 ∧ 1 ≤ p.2 ∧ p.2 ≤ 9) (h : CH L B st mm 0 x y) : DOES B st mm (sux x) (dox y mUp) := by
  rcases h with ⟨e, k, q, hl, h1, h2⟩ | ⟨r, st', mm', a', h1, h2, c1, c2, c3⟩
  · subst h1; subst h2
    have := hL _ hl
    exact Or.inl ⟨k, mUp, this.2, sux_er this.1, rfl⟩
  · subst h1; subst h2
    exact Or.inr ⟨st', mm', a', mUp, rfl, rfl, c1, c2, c3⟩
theorem co_CHT {L : List (Nat × Int)} {B : Int} {st : SS} {mm : Nat → Int64} {x : Option (Except (Nat × SS) (Int32 × SS))} {y : Option (Int32 × (Nat → Int64) × Int32 × (Nat → Int32))} (hL : ∀ p ∈ L, p.1 < 4 ∧ 1 ≤ p.2 ∧ p.2 ≤ 9) (h : CHT L B st mm 0 x y) : DOES B st mm (sux x) (zbind y fun zo24 => some (zo24.2.1, zo24.2.2.1, zo24.2.2.2)) := by
  rcases h with ⟨e, k, q, w, hl, h1, h2⟩ | ⟨r, st', mm', a', w, h1, h2, c1, c2, c3⟩
  · subst h1; subst h2
    have := hL _ hl
    exact Or.inl ⟨k, w, this.2, sux_er this.1, rfl⟩
  · subst h1; subst h2
    exact Or.inr ⟨st', mm', a', w, rfl, rfl, c1, c2, c3⟩
theorem does_g {fu : Nat} {mm : Nat → Int64} {t : Int32} {mUp f : Nat → Int32} {j : Nat} (hj : j < 10) : F_X11_does fu mm t mUp f (iI ((5 * j : Nat) : Int)) =
    if f (5 * j) = 0 then (dox (F_X11_addIt fu mm t (f (5 * j + 1)) (f (5 * j + 2)) (f (5 * j + 3)) (f (5 * j + 4))) mUp)
    else if f (5 * j) = 1 then (dox (F_X11_overIt fu mm t (f (5 * j + 1)) (f (5 * j + 2)) (f (5 * j + 3)) (f (5 * j + 4))) mUp)
    else if f (5 * j) = 2 then (dox (F_X11_freeIt fu mm t (f (5 * j + 1))) mUp)
    else if f (5 * j) = 3 then (dox (F_X11_feedIt fu mm t (f (5 * j + 1)) (f (5 * j + 2)) (f (5 * j + 3))) mUp)
    else if f (5 * j) = 4 then (dox (F_X11_tradeIt fu mm t (f (5 * j + 1)) (f (5 * j + 2)) (f (5 * j + 3)) (f (5 * j + 4))) mUp)
    else if f (5 * j) = 5 then (dox (F_X11_scaleIt fu mm t (f (5 * j + 1)) (f (5 * j + 2))) mUp)
    else if f (5 * j) = 6 then (dox (F_X11_modeIt fu mm t (f (5 * j + 1)) (f (5 * j + 2))) mUp)
    else (zbind (F_X11_togetherIt fu mm t mUp (f (5 * j + 1))) fun zo24 => some (zo24.2.1, zo24.2.2.1, zo24.2.2.2)) := by
  have e : ∀ i : Nat, i < 5 → ¬ (iI ((5 * j + i : Nat) : Int) < 0 ∨ 305 ≤ (iI ((5 * j + i : Nat) : Int)).toNatClampNeg) := fun i hi => ii_gd (by omega) (by omega)
  have e1 : iI ((5 * j : Nat) : Int) + 1 = iI ((5 * j + 1 : Nat) : Int) := by rw [ii_L1, ii_add]; rfl
  have e2 : iI ((5 * j : Nat) : Int) + 2 = iI ((5 * j + 2 : Nat) : Int) := by rw [ii_L2, ii_add]; rfl
  have e3 : iI ((5 * j : Nat) : Int) + 3 = iI ((5 * j + 3 : Nat) : Int) := by rw [ii_L3, ii_add]; rfl
  have e4 : iI ((5 * j : Nat) : Int) + 4 = iI ((5 * j + 4 : Nat) : Int) := by rw [ii_L4, ii_add]; rfl
  unfold F_X11_does
  rw [e1, e2, e3, e4, if_neg (e 1 (by omega)), zl_eq, if_neg (e 2 (by omega)), zl_eq, if_neg (e 3 (by omega)), zl_eq, if_neg (e 4 (by omega)), zl_eq, if_neg (show ¬ (iI ((5 * j : Nat) : Int) < 0 ∨ 305 ≤ (iI ((5 * j : Nat) : Int)).toNatClampNeg) from ii_gd (by omega) (by omega))]
  rw [ii_nc _ (by omega), ii_nc _ (by omega), ii_nc _ (by omega), ii_nc _ (by omega), ii_nc _ (by omega)]
  rfl
theorem md_zb {d : Int} (h : md d) : 0 ≤ d ∧ d ≤ 65535 := md_bd h
theorem co_all {fu : Nat} (hf : 30 ≤ fu) {st : SS} {mm : Nat → Int64} {a : AS} {B : Int} (h : CR st a) (g : MR mm a) (ho : OKA B a) (hB : B + 10 ≤ 1000000) (mUp : Nat → Int32) {cmds : Nat → CC} {f : Nat → Int32} {j : Nat} (hj : j < 10) (hcv : CV (cmds j) f (5 * j)) : DOES B st mm (F_X10_succeeds fu st cmds j) (F_X11_does fu mm 0 mUp f (iI ((5 * j : Nat) : Int))) := by
  obtain ⟨w, hw, hk, h0, ha⟩ := hcv
  rw [does_g hj, h0]
  unfold F_X10_succeeds F_X10_carryOut F_Jx29ce0_ordinal_8abf5
  rw [hk]
  have hw8 : w = 0 ∨ w = 1 ∨ w = 2 ∨ w = 3 ∨ w = 4 ∨ w = 5 ∨ w = 6 ∨ w = 7 := by omega
  rcases hw8 with x|x|x|x|x|x|x|x <;> subst x
  · obtain ⟨x, y, z, u, hx, hy, hz, hu, c1, c2, c3, c4, d1, d2, d3, d4⟩ := ha
    rw [c1, c2, c3, c4, d1, d2, d3, d4]
    exact co_CH mUp (by decide) (c_add hf h g ho hB 0 ⟨by omega, by omega⟩ ⟨by omega, by omega⟩ ⟨by omega, by omega⟩ (md_bd hu))
  · obtain ⟨x, y, z, u, hx, hy, hz, hu, c1, c2, c3, c4, d1, d2, d3, d4⟩ := ha
    rw [c1, c2, c3, c4, d1, d2, d3, d4]
    exact co_CH mUp (by decide) (c_over hf h g ho hB 0 ⟨by omega, by omega⟩ ⟨by omega, by omega⟩ ⟨by omega, by omega⟩ (md_bd hu))
  · obtain ⟨x, hx, c1, d1⟩ := ha
    rw [c1, d1]
    exact co_CH mUp (by decide) (c_free hf h g ho hB 0 ⟨by omega, by omega⟩)
  · obtain ⟨x, y, z, hx, hy, hz, c1, c2, c3, d1, d2, d3⟩ := ha
    rw [c1, c2, c3, d1, d2, d3]
    exact co_CH mUp (by decide) (c_feed hf h g ho hB 0 ⟨by omega, by omega⟩ ⟨by omega, by omega⟩ ⟨by omega, by omega⟩)
  · obtain ⟨x, y, z, u, hx, hy, hz, hu, c1, c2, c3, c4, d1, d2, d3, d4⟩ := ha
    rw [c1, c2, c3, c4, d1, d2, d3, d4]
    exact co_CH mUp (by decide) (c_trade hf h g ho hB 0 ⟨by omega, by omega⟩ ⟨by omega, by omega⟩ ⟨by omega, by omega⟩ ⟨by omega, by omega⟩)
  · obtain ⟨x, y, hx, hy, c1, c2, d1, d2⟩ := ha
    rw [c1, c2, d1, d2]
    exact co_CH mUp (by decide) (c_scale hf h g ho hB 0 ⟨by omega, by omega⟩ ⟨by omega, by omega⟩)
  · obtain ⟨x, y, hx, hy, c1, c2, d1, d2⟩ := ha
    rw [c1, c2, d1, d2]
    exact co_CH mUp (by decide) (c_mode hf h g ho hB 0 ⟨by omega, by omega⟩ (md_bd hy))
  · obtain ⟨x, hx, c1, d1⟩ := ha
    rw [c1, d1]
    exact co_CHT (by decide) (c_tog hf h g ho hB 0 mUp ⟨by omega, by omega⟩)
