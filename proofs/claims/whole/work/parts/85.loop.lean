-- the pure side: from one call to the whole script
theorem p_ofNat {n : Nat} (h : n < 2147483648) : (Int32.ofNat n).toInt = (n : Int) := by
  have h1 : (Int32.ofNat n).toInt = ((n : Int)).bmod 4294967296 := by simp [Int32.toInt_ofNat']
  rw [h1, Int.bmod_def]
  have h2 : ((n : Int)) % ((4294967296 : Nat) : Int) = (n : Int) := Int.emod_eq_of_lt (by omega) (by omega)
  rw [h2]
  split <;> omega
theorem p_small {n : Nat} (h : n < 2147483648) : ¬ Int32.ofNat n < 0 := by
  rw [Int32.lt_iff_toInt_lt, p_ofNat h]
  simp
theorem p_nat {n : Nat} (h : n < 2147483648) : (Int32.ofNat n).toNatClampNeg = n := by
  show (Int32.ofNat n).toInt.toNat = n
  rw [p_ofNat h]
  simp
theorem p_last {L : Nat} (h : L ≤ 2560) : (Int32.ofNat L - 5).toInt = (L : Int) - 5 := by
  have h1 : (Int32.ofNat L - 5).toInt = ((Int32.ofNat L).toInt - (5 : Int32).toInt).bmod 4294967296 := by simp [Int32.toInt_sub]
  rw [h1, p_ofNat (by omega), show (5 : Int32).toInt = 5 from rfl, Int.bmod_def]
  split <;> omega
theorem p_step {k : Nat} (h : k < 1000) : Int32.ofNat (5 * k) + 5 = Int32.ofNat (5 * (k + 1)) := by
  apply Int32.toInt_inj.mp
  rw [p_ofNat (by omega)]
  have h1 : (Int32.ofNat (5 * k) + 5).toInt = ((Int32.ofNat (5 * k)).toInt + (5 : Int32).toInt).bmod 4294967296 := by simp [Int32.toInt_add]
  rw [h1, p_ofNat (by omega), show (5 : Int32).toInt = 5 from rfl, Int.bmod_def]
  split <;> omega
theorem F_loop_of (fu L : Nat) (xs : Nat → Int32) (hL : L ≤ 2560) (Inv : Nat → LW → Prop) (hstep : ∀ (k : Nat) (z : LW), k < 512 → Inv k z → 5 * k + 5 ≤ L → ∃ z1, F_disp fu L xs z (Int32.ofNat (5 * k)) ((xs (5 * k)) &&& 63) = some z1 ∧ Inv (k + 1) z1) : ∀ (n k : Nat) (z : LW), k + n = 513 → 0 < n → Inv k z → F_loop fu L xs n z (Int32.ofNat (5 * k)) = some () := by
  intro n
  induction n with
  | zero => intro k z _ h; exact absurd h (by omega)
  | succ n ih =>
    intro k z hk _ hI
    unfold F_loop
    by_cases hz : Int32.ofNat L - 5 < Int32.ofNat (5 * k)
    · rw [if_pos hz]
    · rw [if_neg hz]
      have h5 : 5 * k + 5 ≤ L := by
        rw [Int32.lt_iff_toInt_lt, p_last hL, p_ofNat (by omega)] at hz
        omega
      have hk5 : k < 512 := by omega
      rw [if_neg (by rw [p_nat (by omega)]; exact fun h => h.elim (p_small (by omega)) (by omega))]
      obtain ⟨z1, h1, h2⟩ := hstep k z hk5 hI h5
      rw [p_nat (by omega), h1]
      show F_loop fu L xs n z1 (Int32.ofNat (5 * k) + 5) = some ()
      rw [p_step (by omega)]
      exact ih (k + 1) z1 (by omega) (by omega) h2
