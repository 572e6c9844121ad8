-- which word comes, and a whole command, on both sides
def Wd : List (List Int) := [[97, 100, 100, 32], [111, 118, 101, 114, 32], [102, 114, 101, 101, 32], [102, 101, 101, 100, 32], [116, 114, 97, 100, 101, 32], [115, 99, 97, 108, 101, 32], [109, 111, 100, 101, 32], [116, 111, 103, 101, 116, 104, 101, 114, 32]]
def wc (w i : Nat) : Int := (Wd.getD w []).getD i 0
def wl (w : Nat) : Nat := (Wd.getD w []).length
def bg (w : Nat) : Nat := [0, 4, 9, 14, 19, 25, 31, 36, 45].getD w 0
theorem wl_bd : ∀ w : Fin 8, 4 ≤ wl w.val ∧ wl w.val ≤ 9 ∧ bg (w.val + 1) = bg w.val + wl w.val ∧ bg (w.val + 1) ≤ 45 ∧ 6 ≤ wl w.val + (if w.val = 0 then 2 else 1) := by decide
theorem wc_bd : ∀ (w : Fin 8) (i : Fin 9), 0 ≤ wc w.val i.val ∧ wc w.val i.val ≤ 200 := by decide
theorem wd_df : ∀ v w : Fin 8, v ≠ w → ∃ i : Fin 9, i.val < wl v.val ∧ i.val < wl w.val ∧ wc v.val i.val ≠ wc w.val i.val := by decide +kernel
theorem j0_len : ∀ w : Fin 8, F_J0_length_8abf5 (w.val + 1) = some (iI (wl w.val : Int)) := by decide +kernel
theorem j0_chr : ∀ (w : Fin 8) (i : Fin 9), i.val < wl w.val → F_J0_charAt_5068e (w.val + 1) (iI (i.val : Int)) = some (iI (wc w.val i.val)) := by decide +kernel
/-- the reference's letters -/
def LB (mltr mbeg : Nat → Int32) : Prop := (∀ w i : Nat, w < 8 → i < wl w → mltr (bg w + i) = iI (wc w i)) ∧ ∀ w : Nat, w < 9 → mbeg w = iI (bg w : Int)
def fitP (T : Nat → Int32) (len k w j : Nat) : Prop := j ≤ wl w ∧ (∀ i, i < j → k + i < len ∧ T (k + i) = iI (wc w i)) ∧ (j = wl w ∨ ¬ (k + j < len ∧ T (k + j) = iI (wc w j)))
theorem fit_ex (T : Nat → Int32) (len k w : Nat) : ∃ j, fitP T len k w j := by
  have key : ∀ m, m ≤ wl w → (∃ j, j < m ∧ fitP T len k w j) ∨ ∀ i, i < m → k + i < len ∧ T (k + i) = iI (wc w i) := by
    intro m
    induction m with
    | zero => intro _; right; intro i hi; omega
    | succ m ih =>
      intro hm
      rcases ih (by omega) with ⟨j, h1, h2⟩ | h
      · exact Or.inl ⟨j, by omega, h2⟩
      · by_cases e : k + m < len ∧ T (k + m) = iI (wc w m)
        · right
          intro i hi
          by_cases him : i = m
          · rw [him]; exact e
          · exact h i (by omega)
        · exact Or.inl ⟨m, by omega, by omega, h, Or.inr e⟩
  rcases key (wl w) (Nat.le_refl _) with ⟨j, _, h⟩ | h
  · exact ⟨j, h⟩
  · exact ⟨wl w, Nat.le_refl _, h, Or.inl rfl⟩
theorem fit_le {T : Nat → Int32} {len k w j : Nat} (h : fitP T len k w j) (hk : k ≤ len) : k + j ≤ len := by
  rcases Nat.eq_zero_or_pos j with e | e
  · omega
  · have := (h.2.1 (j - 1) (by omega)).1; omega
theorem f6_fit {fu : Nat} {T M : Nat → Int32} {len : Nat} (h : TX T M len) {k w j : Nat} (hk : k ≤ len) (hw : w < 8) (hj : fitP T len k w j) : ∀ (n i : Nat), i ≤ j → 9 < n + i → F_X6_fittingCharacters_2 fu n T (iI (len : Int)) (iI (k : Int)) (w + 1) (iI (i : Int)) = some (iI (j : Int)) := by
  have h60 := h.1
  obtain ⟨j1, j2, j3⟩ := hj
  obtain ⟨b1, b2, b3, b4, _⟩ := wl_bd ⟨w, hw⟩
  have b1 : 4 ≤ wl w := b1
  have b2 : wl w ≤ 9 := b2
  intro n
  induction n with
  | zero => intro i _ _; omega
  | succ n ih =>
    intro i hi hn
    unfold F_X6_fittingCharacters_2
    rw [show F_J0_length_8abf5 (w + 1) = some (iI (wl w : Int)) from j0_len ⟨w, hw⟩, zb_some, ti_le (by omega) (by omega) (by omega) (by omega)]
    by_cases e1 : (wl w : Int) ≤ (i : Int)
    · rw [if_pos e1, show i = j from by omega]
    · rw [if_neg e1, ii_add, show (k : Int) + (i : Int) = ((k + i : Nat) : Int) from rfl, ti_le (by omega) (by omega) (by omega) (by omega)]
      by_cases e2 : (len : Int) ≤ ((k + i : Nat) : Int)
      · rw [if_pos e2]
        rcases Nat.lt_or_ge i j with hlt | hge
        · have := (j2 i hlt).1; omega
        · rw [show i = j from by omega]
      · rw [if_neg e2, if_neg (ii_gd (by omega) (by omega)), show F_J0_charAt_5068e (w + 1) (iI (i : Int)) = some (iI (wc w i)) from j0_chr ⟨w, hw⟩ ⟨i, by omega⟩ (by show i < wl w; omega), zb_some, ii_nc (k + i) (by omega)]
        rcases Nat.lt_or_ge i j with hlt | hge
        · rw [if_pos (j2 i hlt).2, zl_eq, ii_L1, ii_add, ii_nx]
          exact ih (i + 1) (by omega) (by omega)
        · obtain rfl : i = j := by omega
          rcases j3 with j3 | j3
          · omega
          · rw [if_neg (fun g => j3 ⟨by omega, g⟩)]
theorem f11_like {fu : Nat} {T M mltr mbeg : Nat → Int32} (hL : LB mltr mbeg) {len : Nat} (h : TX T M len) {k w j : Nat} (hk : k ≤ len) (hw : w < 8) (hj : fitP T len k w j) : ∀ (n i : Nat), i ≤ j → 9 < n + i → F_X11_likeness_18 fu n M mltr mbeg (iI (k : Int)) (iI (len : Int)) (iI (w : Int)) (iI (i : Int)) (iI (wl w : Int)) = some (iI (j : Int)) := by
  have h60 := h.1
  obtain ⟨j1, j2, j3⟩ := hj
  obtain ⟨b1, b2, b3, b4, _⟩ := wl_bd ⟨w, hw⟩
  have b2 : wl w ≤ 9 := b2
  have b3 : bg (w + 1) = bg w + wl w := b3
  have b4 : bg (w + 1) ≤ 45 := b4
  intro n
  induction n with
  | zero => intro i _ _; omega
  | succ n ih =>
    intro i hi hn
    unfold F_X11_likeness_18
    rw [ti_le (by omega) (by omega) (by omega) (by omega)]
    by_cases e1 : (wl w : Int) ≤ (i : Int)
    · rw [if_pos e1, show i = j from by omega]
    · rw [if_neg e1, ii_add, show (k : Int) + (i : Int) = ((k + i : Nat) : Int) from rfl, ti_le (by omega) (by omega) (by omega) (by omega)]
      by_cases e2 : (len : Int) ≤ ((k + i : Nat) : Int)
      · rw [if_pos e2]
        rcases Nat.lt_or_ge i j with hlt | hge
        · have := (j2 i hlt).1; omega
        · rw [show i = j from by omega]
      · have hi' : i < wl w := by omega
        have eb : mbeg ((iI (w : Int)).toNatClampNeg) + iI (i : Int) = iI ((bg w + i : Nat) : Int) := by rw [ii_nc w (by omega), hL.2 w (by omega), ii_add]; rfl
        have eT : M (k + i) = T (k + i) := (h.2 (k + i) (by omega)).1.symm
        rw [if_neg e2, if_neg (ii_gd (by omega) (by omega)), if_neg (ii_gd (by omega) (by omega)), eb, if_neg (ii_gd (by omega) (by omega)), ii_nc (k + i) (by omega), ii_nc (bg w + i) (by omega), hL.1 w i hw hi', eT]
        rcases Nat.lt_or_ge i j with hlt | hge
        · rw [if_pos (j2 i hlt).2, zl_eq, ii_L1, ii_add, ii_nx]
          exact ih (i + 1) (by omega) (by omega)
        · obtain rfl : i = j := by omega
          rcases j3 with j3 | j3
          · omega
          · rw [if_neg (fun g => j3 ⟨by omega, g⟩)]
theorem f11_like0 {fu : Nat} (hf : 30 ≤ fu) {T M mltr mbeg : Nat → Int32} (hL : LB mltr mbeg) {len : Nat} (h : TX T M len) {k w j : Nat} (hk : k ≤ len) (hw : w < 8) (hj : fitP T len k w j) : F_X11_likeness fu M mltr mbeg (iI (k : Int)) (iI (len : Int)) (iI (w : Int)) = some (iI (j : Int)) := by
  obtain ⟨b1, b2, b3, b4, _⟩ := wl_bd ⟨w, hw⟩
  have b3 : bg (w + 1) = bg w + wl w := b3
  have b4 : bg (w + 1) ≤ 45 := b4
  have e1 : iI (w : Int) + 1 = iI ((w + 1 : Nat) : Int) := by rw [ii_L1, ii_add]; rfl
  have e2 : mbeg (w + 1) - mbeg w = iI (wl w : Int) := by
    rw [hL.2 (w + 1) (by omega), hL.2 w (by omega), ii_sub]; congr 1; omega
  unfold F_X11_likeness
  rw [e1, if_neg (ii_gd (by omega) (by omega)), if_neg (ii_gd (by omega) (by omega)), zl_eq, ii_nc (w + 1) (by omega), ii_nc w (by omega), e2]
  exact f11_like hL h hk hw hj fu 0 (by omega) (by omega)
theorem fit_un {T : Nat → Int32} {len k v w j : Nat} (hv : v < 8) (hw : w < 8) (hne : v ≠ w) (h1 : fitP T len k v j) (h2 : fitP T len k w (wl w)) : j < wl w := by
  obtain ⟨i, a1, a2, a3⟩ := wd_df ⟨v, hv⟩ ⟨w, hw⟩ (fun e => hne (congrArg Fin.val e))
  have a1 : i.val < wl v := a1
  have a2 : i.val < wl w := a2
  have a3 : wc v i.val ≠ wc w i.val := a3
  apply Classical.byContradiction
  intro hge
  have e1 := (h1.2.1 i.val (by omega)).2
  have e2 := (h2.2.1 i.val a2).2
  have c1 := wc_bd ⟨v, hv⟩ i
  have c2 := wc_bd ⟨w, hw⟩ i
  have c1 : 0 ≤ wc v i.val ∧ wc v i.val ≤ 200 := c1
  have c2 : 0 ≤ wc w i.val ∧ wc w i.val ≤ 200 := c2
  have : iI (wc v i.val) = iI (wc w i.val) := e1.symm.trans e2
  rw [ii_eq (by omega) (by omega) (by omega) (by omega)] at this
  exact a3 this
/-- the greatest of the first, and where it stands -/
def mxJ (J : Nat → Nat) : Nat → Nat
  | 0 => 0
  | i + 1 => if mxJ J i < J i then J i else mxJ J i
def bxJ (J : Nat → Nat) : Nat → Nat
  | 0 => 0
  | i + 1 => if J (i + 1) ≤ J (bxJ J i) then bxJ J i else i + 1
theorem bx_le (J : Nat → Nat) : ∀ i, bxJ J i ≤ i ∧ (∀ v, v ≤ i → J v ≤ J (bxJ J i)) := by
  intro i
  induction i with
  | zero => exact ⟨Nat.le_refl _, fun v hv => by rw [show v = 0 from by omega]; exact Nat.le_refl _⟩
  | succ i ih =>
    obtain ⟨i1, i2⟩ := ih
    unfold bxJ
    by_cases e : J (i + 1) ≤ J (bxJ J i)
    · rw [if_pos e]
      refine ⟨by omega, fun v hv => ?_⟩
      by_cases hvi : v = i + 1
      · rw [hvi]; exact e
      · exact i2 v (by omega)
    · rw [if_neg e]
      refine ⟨Nat.le_refl _, fun v hv => ?_⟩
      by_cases hvi : v = i + 1
      · rw [hvi]; exact Nat.le_refl _
      · have := i2 v (by omega); omega
theorem mx_bx (J : Nat → Nat) : ∀ i, mxJ J (i + 1) = J (bxJ J i) := by
  intro i
  induction i with
  | zero =>
    show (if 0 < J 0 then J 0 else 0) = J 0
    split <;> omega
  | succ i ih =>
    show (if mxJ J (i + 1) < J (i + 1) then J (i + 1) else mxJ J (i + 1)) = J (if J (i + 1) ≤ J (bxJ J i) then bxJ J i else i + 1)
    rw [ih]
    by_cases e : J (i + 1) ≤ J (bxJ J i)
    · rw [if_pos e, if_neg (by omega)]
    · rw [if_neg e, if_pos (by omega)]
theorem f6_kind {fu : Nat} (hf : 30 ≤ fu) {T M : Nat → Int32} {len : Nat} (h : TX T M len) {k : Nat} (hk : k ≤ len) {J : Nat → Nat} (hJ : ∀ w, w < 8 → fitP T len k w (J w)) : ∀ (n i : Nat), i ≤ 8 → 8 < n + i → (∀ w, w < i → J w ≠ wl w) →
    (∃ w, w < 8 ∧ J w = wl w ∧ F_X6_readKind_4 fu n T (iI (len : Int)) (iI (k : Int)) (iI (mxJ J i : Int)) (iI (i : Int)) = some (some w, iI ((k + wl w : Nat) : Int))) ∨
    ((∀ w, w < 8 → J w ≠ wl w) ∧ F_X6_readKind_4 fu n T (iI (len : Int)) (iI (k : Int)) (iI (mxJ J i : Int)) (iI (i : Int)) = some (none, iI ((k + mxJ J 8 : Nat) : Int))) := by
  have h60 := h.1
  have hmx : ∀ i, i ≤ 8 → mxJ J i ≤ 9 := by
    intro i
    induction i with
    | zero => intro _; exact Nat.zero_le _
    | succ i ih =>
      intro hi
      have h1 := (hJ i (by omega)).1
      have h2 := (wl_bd ⟨i, by omega⟩).2.1
      have h2 : wl i ≤ 9 := h2
      have := ih (by omega)
      show (if mxJ J i < J i then J i else mxJ J i) ≤ 9
      split <;> omega
  intro n
  induction n with
  | zero => intro i _ _; omega
  | succ n ih =>
    intro i hi hn hno
    have hm := hmx i hi
    unfold F_X6_readKind_4
    rw [show (8 : Int32) = iI ((8 : Nat) : Int) from rfl, ti_le (by omega) (by omega) (by omega) (by omega)]
    by_cases e : ((8 : Nat) : Int) ≤ (i : Int)
    · right
      obtain rfl : i = 8 := by omega
      rw [if_pos e, ii_add]
      exact ⟨hno, rfl⟩
    · have hi8 : i < 8 := by omega
      have hji := hJ i hi8
      have hwl : wl i ≤ 9 := (wl_bd ⟨i, hi8⟩).2.1
      have hj9 := hji.1
      have ef : F_X6_fittingCharacters fu T (iI (len : Int)) (iI (k : Int)) (i + 1) = some (iI (J i : Int)) := f6_fit (fu := fu) h hk hi8 hji fu 0 (by omega) (by omega)
      have hg : ¬ (iI (i : Int) < 0 ∨ 8 ≤ i) := ii_gx hi8
      rw [if_neg e, if_neg (ii_gd hi8 (by omega)), ii_nc i (by omega), ef, zb_some, if_neg hg, show F_J0_length_8abf5 (i + 1) = some (iI (wl i : Int)) from j0_len ⟨i, hi8⟩, zb_some, ti_eq (by omega) (by omega) (by omega) (by omega)]
      by_cases e2 : (J i : Int) = (wl i : Int)
      · left
        rw [if_pos e2, if_neg hg, ii_add, e2]
        exact ⟨i, hi8, by omega, rfl⟩
      · have ex : (if iI (mxJ J i : Int) < iI (J i : Int) then iI (J i : Int) else iI (mxJ J i : Int)) = iI (mxJ J (i + 1) : Int) := by
          rw [ti_lt (by omega) (by omega) (by omega) (by omega)]
          show _ = iI ((if mxJ J i < J i then J i else mxJ J i : Nat) : Int)
          by_cases e3 : mxJ J i < J i
          · rw [if_pos (by omega), if_pos e3]
          · rw [if_neg (by omega), if_neg e3]
        rw [if_neg e2, zl_eq, zl_eq, ex, ii_L1, ii_add, ii_nx]
        refine ih (i + 1) (by omega) (by omega) (fun w hw => ?_)
        by_cases hwi : w = i
        · rw [hwi]; omega
        · exact hno w (by omega)
theorem rc_0 {fu : Nat} {T : Nat → Int32} {pl pp p : Int32} {cc : CC} (e : F_X6_readKind fu T pl pp = some (some 0, p)) : F_X6_readCommand fu T pl pp cc = CA_0 fu T pl p (0, k_first cc, k_second cc, k_whole cc, k_frac cc, k_scale cc, k_mode cc) := by
  unfold F_X6_readCommand
  rw [e, zb_some, zo_some]
  rfl
theorem rc_1 {fu : Nat} {T : Nat → Int32} {pl pp p : Int32} {cc : CC} (e : F_X6_readKind fu T pl pp = some (some 1, p)) : F_X6_readCommand fu T pl pp cc = CA_1 fu T pl p (1, k_first cc, k_second cc, k_whole cc, k_frac cc, k_scale cc, k_mode cc) := by
  unfold F_X6_readCommand
  rw [e, zb_some, zo_some]
  rfl
theorem rc_2 {fu : Nat} {T : Nat → Int32} {pl pp p : Int32} {cc : CC} (e : F_X6_readKind fu T pl pp = some (some 2, p)) : F_X6_readCommand fu T pl pp cc = CA_2 fu T pl p (2, k_first cc, k_second cc, k_whole cc, k_frac cc, k_scale cc, k_mode cc) := by
  unfold F_X6_readCommand
  rw [e, zb_some, zo_some]
  rfl
theorem rc_3 {fu : Nat} {T : Nat → Int32} {pl pp p : Int32} {cc : CC} (e : F_X6_readKind fu T pl pp = some (some 3, p)) : F_X6_readCommand fu T pl pp cc = CA_3 fu T pl p (3, k_first cc, k_second cc, k_whole cc, k_frac cc, k_scale cc, k_mode cc) := by
  unfold F_X6_readCommand
  rw [e, zb_some, zo_some]
  rfl
theorem rc_4 {fu : Nat} {T : Nat → Int32} {pl pp p : Int32} {cc : CC} (e : F_X6_readKind fu T pl pp = some (some 4, p)) : F_X6_readCommand fu T pl pp cc = CA_4 fu T pl p (4, k_first cc, k_second cc, k_whole cc, k_frac cc, k_scale cc, k_mode cc) := by
  unfold F_X6_readCommand
  rw [e, zb_some, zo_some]
  rfl
theorem rc_5 {fu : Nat} {T : Nat → Int32} {pl pp p : Int32} {cc : CC} (e : F_X6_readKind fu T pl pp = some (some 5, p)) : F_X6_readCommand fu T pl pp cc = CA_5 fu T pl p (5, k_first cc, k_second cc, k_whole cc, k_frac cc, k_scale cc, k_mode cc) := by
  unfold F_X6_readCommand
  rw [e, zb_some, zo_some]
  rfl
theorem rc_6 {fu : Nat} {T : Nat → Int32} {pl pp p : Int32} {cc : CC} (e : F_X6_readKind fu T pl pp = some (some 6, p)) : F_X6_readCommand fu T pl pp cc = CA_6 fu T pl p (6, k_first cc, k_second cc, k_whole cc, k_frac cc, k_scale cc, k_mode cc) := by
  unfold F_X6_readCommand
  rw [e, zb_some, zo_some]
  rfl
theorem rc_7 {fu : Nat} {T : Nat → Int32} {pl pp p : Int32} {cc : CC} (e : F_X6_readKind fu T pl pp = some (some 7, p)) : F_X6_readCommand fu T pl pp cc = CA_7 fu T pl p (7, k_first cc, k_second cc, k_whole cc, k_frac cc, k_scale cc, k_mode cc) := by
  unfold F_X6_readCommand
  rw [e, zb_some, zo_some]
  rfl
/-- a command's cells agree -/
def CV (cc : CC) (f : Nat → Int32) (q : Nat) : Prop := ∃ w, w < 8 ∧ k_kind cc = w ∧ f q = iI (w : Int) ∧ AR w cc f q
theorem f11_cmd11 {fu : Nat} (hf : 30 ≤ fu) {T M mltr mbeg : Nat → Int32} (hL : LB mltr mbeg) {len : Nat} (h : TX T M len) {k : Nat} (hk : k ≤ len) {J : Nat → Nat} (hJ : ∀ w, w < 8 → fitP T len k w (J w)) (mcmd : Nat → Int32) (mcmM wr x1 : Int32) : ∀ (n i : Nat), i ≤ 7 → 8 < n + i → F_X11_readCommand_11 fu n M mltr mbeg mcmd mcmM (iI (k : Int)) (iI (len : Int)) wr x1 (iI (bxJ J i : Int)) (iI ((i + 1 : Nat) : Int)) =
    if J (bxJ J 7) = wl (bxJ J 7) then F_X11_readCommand_83 fu M mltr mbeg mcmd mcmM (iI ((k + wl (bxJ J 7) : Nat) : Int)) (iI (len : Int)) wr x1 (iI (bxJ J 7 : Int)) 0 else F_X11_readCommand_83 fu M mltr mbeg mcmd mcmM (iI ((k + J (bxJ J 7) : Nat) : Int)) (iI (len : Int)) wr x1 (iI (bxJ J 7 : Int)) 1 := by
  have h60 := h.1
  intro n
  induction n with
  | zero => intro i _ _; omega
  | succ n ih =>
    intro i hi hn
    have hb := (bx_le J i).1
    have hb8 : bxJ J i < 8 := by omega
    have hJb := (hJ _ hb8).1
    have hwb : wl (bxJ J i) ≤ 9 := (wl_bd ⟨bxJ J i, hb8⟩).2.1
    have lb := f11_like0 (fu := fu) hf hL h hk hb8 (hJ _ hb8)
    unfold F_X11_readCommand_11
    rw [show (8 : Int32) = iI ((8 : Nat) : Int) from rfl, ti_le (by omega) (by omega) (by omega) (by omega)]
    by_cases e : ((8 : Nat) : Int) ≤ ((i + 1 : Nat) : Int)
    · obtain rfl : i = 7 := by omega
      obtain ⟨_, _, b3, b4, _⟩ := wl_bd ⟨bxJ J 7, hb8⟩
      have b3 : bg (bxJ J 7 + 1) = bg (bxJ J 7) + wl (bxJ J 7) := b3
      have b4 : bg (bxJ J 7 + 1) ≤ 45 := b4
      have e1 : iI (bxJ J 7 : Int) + 1 = iI ((bxJ J 7 + 1 : Nat) : Int) := by rw [ii_L1, ii_add]; rfl
      have e2 : mbeg (bxJ J 7 + 1) - mbeg (bxJ J 7) = iI (wl (bxJ J 7) : Int) := by
        rw [hL.2 _ (by omega), hL.2 _ (by omega), ii_sub]; congr 1; omega
      rw [if_pos e, lb, zb_some, e1, if_neg (ii_gd (by omega) (by omega)), if_neg (ii_gd (by omega) (by omega)), ii_nc _ (by omega), ii_nc _ (by omega), e2, ti_le (by omega) (by omega) (by omega) (by omega), ii_add]
      by_cases e3 : J (bxJ J 7) = wl (bxJ J 7)
      · rw [if_pos (by omega), if_pos e3, e3]; rfl
      · rw [if_neg (by omega), if_neg e3]; rfl
    · have hi8 : i + 1 < 8 := by omega
      have hJi := (hJ _ hi8).1
      have hwi : wl (i + 1) ≤ 9 := (wl_bd ⟨i + 1, hi8⟩).2.1
      have li := f11_like0 (fu := fu) hf hL h hk hi8 (hJ _ hi8)
      rw [if_neg e, li, zb_some, lb, zb_some, ti_le (by omega) (by omega) (by omega) (by omega)]
      have ebx : bxJ J (i + 1) = if J (i + 1) ≤ J (bxJ J i) then bxJ J i else i + 1 := rfl
      by_cases e3 : J (i + 1) ≤ J (bxJ J i)
      · rw [if_pos e3] at ebx
        rw [if_pos (by omega), zl_eq, ii_L1, ii_add, ii_nx, ← ebx]
        exact ih (i + 1) (by omega) (by omega)
      · rw [if_neg e3] at ebx
        have q := ih (i + 1) (by omega) (by omega)
        rw [ebx] at q
        rw [if_neg (by omega), zl_eq, ii_L1, ii_add, ii_nx]
        exact q
/-- a whole command -/
theorem p_cmd {fu : Nat} (hf : 30 ≤ fu) {T M mltr mbeg : Nat → Int32} (hL : LB mltr mbeg) {len : Nat} (h : TX T M len) {k : Nat} (hk : k ≤ len) {i : Nat} (hi : i < 10) (cc : CC) (mcmd : Nat → Int32) (wr : Int32) :
    (∃ (k' : Nat) (cc' : CC) (f' : Nat → Int32), k + 6 ≤ k' ∧ k' ≤ len ∧ F_X6_readCommand fu T (iI (len : Int)) (iI (k : Int)) cc = some (1, iI (k' : Int), cc') ∧ F_X11_readCommand fu M mltr mbeg mcmd (iI (i : Int)) (iI (k : Int)) (iI (len : Int)) wr = some (f', iI ((i + 1 : Nat) : Int), iI (k' : Int), 0) ∧ (∀ j, j < 5 * i → f' j = mcmd j) ∧ CV cc' f' (5 * i)) ∨
    ∃ (k' : Nat) (cc' : CC) (f' : Nat → Int32) (n' : Int32), k ≤ k' ∧ k' ≤ len ∧ F_X6_readCommand fu T (iI (len : Int)) (iI (k : Int)) cc = some (0, iI (k' : Int), cc') ∧ F_X11_readCommand fu M mltr mbeg mcmd (iI (i : Int)) (iI (k : Int)) (iI (len : Int)) wr = some (f', n', iI (k' : Int), 1) := by
  have h60 := h.1
  obtain ⟨J, hJ⟩ : ∃ J : Nat → Nat, ∀ w, w < 8 → fitP T len k w (J w) := by
    obtain ⟨J, hJ⟩ := Classical.axiomOfChoice (fun w => fit_ex T len k w)
    exact ⟨J, fun w _ => hJ w⟩
  have hk4 := f6_kind (fu := fu) hf h hk hJ fu 0 (by omega) (by omega) (fun w hw => by omega)
  have hm := f11_cmd11 (fu := fu) hf hL h hk hJ mcmd (iI (i : Int)) wr (iI ((5 * i : Nat) : Int)) fu 0 (by omega) (by omega)
  have hm1 : F_X11_readCommand fu M mltr mbeg mcmd (iI (i : Int)) (iI (k : Int)) (iI (len : Int)) wr = F_X11_readCommand_11 fu fu M mltr mbeg mcmd (iI (i : Int)) (iI (k : Int)) (iI (len : Int)) wr (iI ((5 * i : Nat) : Int)) (iI (bxJ J 0 : Int)) (iI ((0 + 1 : Nat) : Int)) := by
    unfold F_X11_readCommand
    rw [zl_eq, show (5 : Int32) * iI (i : Int) = iI ((5 * i : Nat) : Int) from ni_ml 5 i]
    rfl
  have hm0 := hm1.trans hm
  clear hm1
  have hb7 := bx_le J 7
  rcases hk4 with ⟨w, hw, hwf, e1⟩ | ⟨hno, e1⟩
  · have hbw : bxJ J 7 = w := by
      apply Classical.byContradiction
      intro hne
      have h1 := hb7.2 w (by omega)
      have h2 := fit_un (show bxJ J 7 < 8 by omega) hw hne (hJ _ (by omega)) (hwf ▸ hJ w hw)
      omega
    have hkw : k + wl w ≤ len := fit_le (hwf ▸ hJ w hw) hk
    obtain ⟨_, _, _, _, b5⟩ := wl_bd ⟨w, hw⟩
    have b5 : 6 ≤ wl w + (if w = 0 then 2 else 1) := b5
    rw [hbw, if_pos hwf] at hm0
    have hg0 : ¬ (iI ((5 * i : Nat) : Int) < 0 ∨ 305 ≤ (iI ((5 * i : Nat) : Int)).toNatClampNeg) := ii_gd (by omega) (by omega)
    have m83 : F_X11_readCommand_83 fu M mltr mbeg mcmd (iI (i : Int)) (iI ((k + wl w : Nat) : Int)) (iI (len : Int)) wr (iI ((5 * i : Nat) : Int)) (iI (w : Int)) 0 = zbind (F_X11_readArguments fu M (upd mcmd (5 * i) (iI (w : Int))) (iI ((k + wl w : Nat) : Int)) (iI (len : Int)) 0 (iI (w : Int)) (iI ((5 * i + 1 : Nat) : Int))) fun zo4 => some (zo4.1, iI ((i + 1 : Nat) : Int), zo4.2.1, zo4.2.2) := by
      unfold F_X11_readCommand_83
      rw [if_neg (by decide), if_pos rfl, if_neg hg0, ii_nc _ (by omega), ii_L1, ii_add, ii_add, ii_nx, ii_nx]
    rw [m83] at hm0
    suffices hA : ((∃ (k' : Nat) (cc' : CC) (f' : Nat → Int32), k + wl w + (if w = 0 then 2 else 1) ≤ k' ∧ k' ≤ len ∧ F_X6_readCommand fu T (iI (len : Int)) (iI (k : Int)) cc = some (1, iI (k' : Int), cc') ∧ F_X11_readArguments fu M (upd mcmd (5 * i) (iI (w : Int))) (iI ((k + wl w : Nat) : Int)) (iI (len : Int)) 0 (iI (w : Int)) (iI ((5 * i + 1 : Nat) : Int)) = some (f', iI (k' : Int), 0) ∧ (∀ j, j < 5 * i + 1 → f' j = upd mcmd (5 * i) (iI (w : Int)) j) ∧ k_kind cc' = w ∧ AR w cc' f' (5 * i)) ∨ ∃ (k' : Nat) (cc' : CC) (f' : Nat → Int32), k + wl w ≤ k' ∧ k' ≤ len ∧ F_X6_readCommand fu T (iI (len : Int)) (iI (k : Int)) cc = some (0, iI (k' : Int), cc') ∧ F_X11_readArguments fu M (upd mcmd (5 * i) (iI (w : Int))) (iI ((k + wl w : Nat) : Int)) (iI (len : Int)) 0 (iI (w : Int)) (iI ((5 * i + 1 : Nat) : Int)) = some (f', iI (k' : Int), 1)) by
      rcases hA with ⟨k', cc', f', a1, a2, a3, a4, a5, a6, a7⟩ | ⟨k', cc', f', a1, a2, a3, a4⟩
      · rw [a4, zb_some] at hm0
        refine Or.inl ⟨k', cc', f', by omega, a2, a3, hm0, fun j hj => ?_, w, hw, a6, ?_, a7⟩
        · rw [a5 j (by omega), up_I, if_neg (by omega)]
        · rw [a5 (5 * i) (by omega), up_I, if_pos rfl]
      · rw [a4, zb_some] at hm0
        exact Or.inr ⟨k', cc', f', _, by omega, a2, a3, hm0⟩
    clear hm0 m83 hm
    have hw8 : w = 0 ∨ w = 1 ∨ w = 2 ∨ w = 3 ∨ w = 4 ∨ w = 5 ∨ w = 6 ∨ w = 7 := by omega
    rcases hw8 with e|e|e|e|e|e|e|e <;> subst e
    · rw [rc_0 e1]
      have q := A_0 hf hi h hkw (0, k_first cc, k_second cc, k_whole cc, k_frac cc, k_scale cc, k_mode cc) (upd mcmd (5 * i) (iI ((0 : Nat) : Int)))
      exact q
    · rw [rc_1 e1]
      have q := A_1 hf hi h hkw (1, k_first cc, k_second cc, k_whole cc, k_frac cc, k_scale cc, k_mode cc) (upd mcmd (5 * i) (iI ((1 : Nat) : Int)))
      exact q
    · rw [rc_2 e1]
      have q := A_2 hf hi h hkw (2, k_first cc, k_second cc, k_whole cc, k_frac cc, k_scale cc, k_mode cc) (upd mcmd (5 * i) (iI ((2 : Nat) : Int)))
      exact q
    · rw [rc_3 e1]
      have q := A_3 hf hi h hkw (3, k_first cc, k_second cc, k_whole cc, k_frac cc, k_scale cc, k_mode cc) (upd mcmd (5 * i) (iI ((3 : Nat) : Int)))
      exact q
    · rw [rc_4 e1]
      have q := A_4 hf hi h hkw (4, k_first cc, k_second cc, k_whole cc, k_frac cc, k_scale cc, k_mode cc) (upd mcmd (5 * i) (iI ((4 : Nat) : Int)))
      exact q
    · rw [rc_5 e1]
      have q := A_5 hf hi h hkw (5, k_first cc, k_second cc, k_whole cc, k_frac cc, k_scale cc, k_mode cc) (upd mcmd (5 * i) (iI ((5 : Nat) : Int)))
      exact q
    · rw [rc_6 e1]
      have q := A_6 hf hi h hkw (6, k_first cc, k_second cc, k_whole cc, k_frac cc, k_scale cc, k_mode cc) (upd mcmd (5 * i) (iI ((6 : Nat) : Int)))
      exact q
    · rw [rc_7 e1]
      have q := A_7 hf hi h hkw (7, k_first cc, k_second cc, k_whole cc, k_frac cc, k_scale cc, k_mode cc) (upd mcmd (5 * i) (iI ((7 : Nat) : Int)))
      exact q
  · have hb8 : bxJ J 7 < 8 := by omega
    have hne := hno _ hb8
    rw [if_neg hne] at hm0
    have hle := fit_le (hJ _ hb8) hk
    have e2 : F_X6_readKind fu T (iI (len : Int)) (iI (k : Int)) = some (none, iI ((k + mxJ J 8 : Nat) : Int)) := e1
    rw [mx_bx] at e2
    refine Or.inr ⟨k + J (bxJ J 7), cc, mcmd, iI (i : Int), by omega, hle, ?_, ?_⟩
    · unfold F_X6_readCommand
      rw [e2, zb_some, zo_none]
    · rw [hm0]
      unfold F_X11_readCommand_83
      rw [if_neg (by decide), if_neg (by decide)]
