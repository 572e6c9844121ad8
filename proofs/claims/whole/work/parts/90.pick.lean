-- who is rounded up: pure
def pk (r : Nat → Int) (u : Nat → Bool) : Nat → Option Nat
  | 0 => none
  | k + 1 => match pk r u k with
    | none => if u k = true then none else some k
    | some b => if u k = false ∧ r b < r k then some k else some b
def gs (r : Nat → Int) (c : Nat) : Nat → Nat → Bool
  | 0 => fun _ => false
  | n + 1 => match pk r (gs r c n) c with
    | none => gs r c n
    | some b => fun i => if i = b then true else gs r c n i
def ct (u : Nat → Bool) (c : Nat) : Int := sm c (fun i => if u i = true then 1 else 0)
theorem pk_no {r : Nat → Int} {u : Nat → Bool} : ∀ {c : Nat}, pk r u c = none → ∀ i, i < c → u i = true := by
  intro c
  induction c with
  | zero => intro _ i hi; omega
  | succ c ih =>
    intro e i hi
    unfold pk at e
    cases e2 : pk r u c with
    | none =>
      rw [e2] at e
      have e : (if u c = true then none else some c) = none := e
      by_cases hu : u c = true
      · by_cases hic : i = c
        · rw [hic]; exact hu
        · exact ih e2 i (by omega)
      · rw [if_neg hu] at e; cases e
    | some d =>
      rw [e2] at e
      have e : (if u c = false ∧ r d < r c then some c else some d) = none := e
      split at e <;> cases e
theorem pk_sp {r : Nat → Int} {u : Nat → Bool} : ∀ {c b : Nat}, pk r u c = some b → b < c ∧ u b = false ∧ ∀ i, i < c → u i = false → r i ≤ r b := by
  intro c
  induction c with
  | zero => intro b h; cases h
  | succ c ih =>
    intro b h
    unfold pk at h
    cases e : pk r u c with
    | none =>
      rw [e] at h
      have h : (if u c = true then none else some c) = some b := h
      have hn := pk_no e
      by_cases hu : u c = true
      · rw [if_pos hu] at h; cases h
      · rw [if_neg hu] at h
        injection h with h
        subst h
        refine ⟨by omega, by simpa using hu, fun i hi hui => ?_⟩
        by_cases hic : i = c
        · rw [hic]; exact Int.le_refl _
        · rw [hn i (by omega)] at hui; cases hui
    | some d =>
      rw [e] at h
      have h : (if u c = false ∧ r d < r c then some c else some d) = some b := h
      obtain ⟨h1, h2, h3⟩ := ih e
      by_cases hu : u c = false ∧ r d < r c
      · rw [if_pos hu] at h
        injection h with h
        subst h
        refine ⟨by omega, hu.1, fun i hi hui => ?_⟩
        by_cases hic : i = c
        · rw [hic]; exact Int.le_refl _
        · have := h3 i (by omega) hui; have := hu.2; omega
      · rw [if_neg hu] at h
        injection h with h
        subst h
        refine ⟨by omega, h2, fun i hi hui => ?_⟩
        by_cases hic : i = c
        · rw [hic] at hui ⊢
          exact Int.not_lt.mp (fun hh => hu ⟨hui, hh⟩)
        · exact h3 i (by omega) hui
/-- how many rests are not zero -/
def nz (r : Nat → Int) (c : Nat) : Int := sm c (fun i => if 0 < r i then 1 else 0)
/-- what the choice is after j picks -/
def gsI (r : Nat → Int) (c j : Nat) : Prop := ct (gs r c j) c = j ∧ (∀ i, gs r c j i = true → i < c ∧ 0 < r i) ∧ ∀ i k, i < c → k < c → gs r c j i = true → gs r c j k = false → r k ≤ r i
theorem gs_pick {r : Nat → Int} {c j : Nat} (h : gsI r c j) (hj : (j : Int) < nz r c) : ∃ b, pk r (gs r c j) c = some b ∧ 0 < r b ∧ b < c ∧ gs r c j b = false ∧ gsI r c (j + 1) := by
  obtain ⟨h1, h2, h3⟩ := h
  have hex : ∃ i, i < c ∧ 0 < r i ∧ gs r c j i = false := by
    apply Classical.byContradiction
    intro hno
    have : nz r c ≤ ct (gs r c j) c := by
      apply sm_le
      intro k hk
      by_cases hr : 0 < r k
      · rw [if_pos hr]
        by_cases hg : gs r c j k = true
        · rw [if_pos hg]; exact Int.le_refl _
        · exact absurd ⟨k, hk, hr, by simpa using hg⟩ hno
      · rw [if_neg hr]
        split <;> omega
    omega
  obtain ⟨i0, hi0, hr0, hg0⟩ := hex
  cases e : pk r (gs r c j) c with
  | none => rw [pk_no e i0 hi0] at hg0; cases hg0
  | some b =>
    obtain ⟨k1, k2, k3⟩ := pk_sp e
    have hb := k3 i0 hi0 hg0
    have eg : gs r c (j + 1) = fun i => if i = b then true else gs r c j i := by
      show (match pk r (gs r c j) c with | none => gs r c j | some b => fun i => if i = b then true else gs r c j i) = _
      rw [e]
    refine ⟨b, rfl, by omega, k1, k2, ?_, ?_, ?_⟩
    · rw [eg]
      have : ct (fun i => if i = b then true else gs r c j i) c = sm c (fun k => if k = b then (1 : Int) else (fun i => if gs r c j i = true then (1 : Int) else 0) k) := by
        apply sm_congr
        intro k hk
        by_cases hkb : k = b
        · simp [hkb]
        · simp [hkb]
      rw [this, sm_upd k1]
      have h1' : sm c (fun i => if gs r c j i = true then (1 : Int) else 0) = j := h1
      rw [h1', if_neg (by rw [k2]; decide)]
      omega
    · intro i hi
      rw [eg] at hi
      have hi : (if i = b then true else gs r c j i) = true := hi
      by_cases hib : i = b
      · rw [hib]; exact ⟨k1, by omega⟩
      · rw [if_neg hib] at hi; exact h2 i hi
    · intro i k hi hk hgi hgk
      rw [eg] at hgi hgk
      have hgi : (if i = b then true else gs r c j i) = true := hgi
      have hgk : (if k = b then true else gs r c j k) = false := hgk
      by_cases hkb : k = b
      · rw [if_pos hkb] at hgk; cases hgk
      · rw [if_neg hkb] at hgk
        by_cases hib : i = b
        · rw [hib]; exact k3 k hk hgk
        · rw [if_neg hib] at hgi; exact h3 i k hi hk hgi hgk
theorem gs_0 (r : Nat → Int) (c : Nat) : gsI r c 0 := by
  unfold gsI
  refine ⟨?_, ?_, ?_⟩
  rotate_left
  · intro i h; cases h
  · intro i k _ _ h; cases h
  show sm c (fun i => if (false = true) then (1 : Int) else 0) = 0
  have := sm_bd (g := fun i => if (false = true) then (1 : Int) else 0) (b := 0) (n := c) (fun k _ => by simp)
  omega
theorem gs_all {r : Nat → Int} {c : Nat} : ∀ {j : Nat}, (j : Int) ≤ nz r c → gsI r c j := by
  intro j
  induction j with
  | zero => intro _; exact gs_0 r c
  | succ j ih =>
    intro h
    obtain ⟨b, _, _, _, _, g⟩ := gs_pick (ih (by omega)) (by omega)
    exact g
/-- the error of a choice -/
def er (r : Nat → Int) (p : Int) (u : Nat → Bool) (c : Nat) : Int := sm c (fun i => if u i = true then p - r i else r i)
theorem sm_lin {g h k : Nat → Int} {x y : Int} {n : Nat} (H : ∀ i, i < n → g i = h i + x * k i) (hy : sm n k = y) : sm n g = sm n h + x * y := by
  have : sm n (fun i => h i + x * k i) = sm n h + x * y := by
    rw [sm_add, ← hy]
    have := sm_mul (g := k) (a := x) (n := n)
    rw [show (fun i => x * k i) = fun i => k i * x from funext fun i => Int.mul_comm _ _, this, Int.mul_comm]
  rw [← this]
  exact sm_congr H
/-- no choice of as many is better -/
theorem er_min {r : Nat → Int} {p : Int} {c j : Nat} (g : gsI r c j) (u : Nat → Bool) (hu : ct u c = j) : er r p (gs r c j) c ≤ er r p u c := by
  obtain ⟨h1, h2, h3⟩ := g
  -- a bar between the chosen and the others
  have hbar : ∃ t : Int, (∀ i, i < c → gs r c j i = true → t ≤ r i) ∧ ∀ i, i < c → gs r c j i = false → r i ≤ t := by
    clear hu h1 h2
    have key : ∀ n, n ≤ c → (∃ t : Int, (∀ i, i < n → gs r c j i = true → t ≤ r i) ∧ (∀ i, i < c → gs r c j i = false → r i ≤ t) ∧ True) ∨ ∀ i, i < n → gs r c j i = false := by
      intro n
      induction n with
      | zero => intro _; right; intro i hi; omega
      | succ n ih =>
        intro hn
        cases hg : gs r c j n with
        | false =>
          rcases ih (by omega) with ⟨t, t1, t2, _⟩ | hall
          · left
            refine ⟨t, fun i hi hgi => ?_, t2, trivial⟩
            by_cases e : i = n
            · rw [e, hg] at hgi; cases hgi
            · exact t1 i (by omega) hgi
          · right
            intro i hi
            by_cases e : i = n
            · rw [e]; exact hg
            · exact hall i (by omega)
        | true =>
          left
          rcases ih (by omega) with ⟨t, t1, t2, _⟩ | hall
          · by_cases ht : t ≤ r n
            · refine ⟨t, fun i hi hgi => ?_, t2, trivial⟩
              by_cases e : i = n
              · rw [e]; exact ht
              · exact t1 i (by omega) hgi
            · refine ⟨r n, fun i hi hgi => ?_, fun i hi hgi => h3 n i (by omega) hi hg hgi, trivial⟩
              by_cases e : i = n
              · rw [e]; exact Int.le_refl _
              · have := t1 i (by omega) hgi; omega
          · refine ⟨r n, fun i hi hgi => ?_, fun i hi hgi => h3 n i (by omega) hi hg hgi, trivial⟩
            by_cases e : i = n
            · rw [e]; exact Int.le_refl _
            · rw [hall i (by omega)] at hgi; cases hgi
    rcases key c (Nat.le_refl c) with ⟨t, t1, t2, _⟩ | hall
    · exact ⟨t, t1, t2⟩
    · have key2 : ∀ n, ∃ t : Int, ∀ i, i < n → r i ≤ t := by
        intro n
        induction n with
        | zero => exact ⟨0, fun i hi => by omega⟩
        | succ n ih =>
          obtain ⟨t, ht⟩ := ih
          by_cases h : t ≤ r n
          · exact ⟨r n, fun i hi => by
              by_cases e : i = n
              · rw [e]; exact Int.le_refl _
              · have := ht i (by omega); omega⟩
          · exact ⟨t, fun i hi => by
              by_cases e : i = n
              · rw [e]; omega
              · exact ht i (by omega)⟩
      obtain ⟨t, ht⟩ := key2 c
      exact ⟨t, fun i hi hgi => (by rw [hall i hi] at hgi; cases hgi), fun i hi _ => ht i hi⟩
  obtain ⟨t, t1, t2⟩ := hbar
  have e1 : ∀ v : Nat → Bool, ct v c = j → er r p v c = sm c (fun i => if v i = true then 2 * t - r i else r i) + (p - 2 * t) * j := by
    intro v hv
    refine sm_lin (fun i _ => ?_) hv
    by_cases e : v i = true
    · rw [if_pos e, if_pos e, if_pos e]; omega
    · rw [if_neg e, if_neg e, if_neg e]; omega
  rw [e1 _ h1, e1 u hu]
  have : sm c (fun i => if gs r c j i = true then 2 * t - r i else r i) ≤ sm c (fun i => if u i = true then 2 * t - r i else r i) := by
    apply sm_le
    intro k hk
    by_cases hg : gs r c j k = true
    · have := t1 k hk hg
      rw [if_pos hg]; split <;> omega
    · have := t2 k hk (by simpa using hg)
      rw [if_neg hg]; split <;> omega
  omega
