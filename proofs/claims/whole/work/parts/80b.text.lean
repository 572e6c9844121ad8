abbrev nU : List Cond := flatC (Jvm.Cond.and given_1 narrow_1)
abbrev zKn : String := "DecimalMenagerie$Kind"
/-- the nine texts' terms -/
def zTm : Nat → Term := fun i => [Term.string RX10 429, .string zKn 52, .string zKn 58, .string zKn 61, .string zKn 64, .string zKn 67, .string zKn 70, .string zKn 73, .string zKn 76].getD i (.int 0)
theorem b_h5_0 : ∀ j, j < zLen.getD 0 0 → Cond.eq (.elem (.field (zTm 0) "java/lang/String" "value" "[B") (.int (Int32.ofNat j))) (.int ((zByt.getD 0 []).getD j 0)) ∈ nU := by decide +kernel
theorem b_h5_1 : ∀ j, j < zLen.getD 1 0 → Cond.eq (.elem (.field (zTm 1) "java/lang/String" "value" "[B") (.int (Int32.ofNat j))) (.int ((zByt.getD 1 []).getD j 0)) ∈ nU := by decide +kernel
theorem b_h5_2 : ∀ j, j < zLen.getD 2 0 → Cond.eq (.elem (.field (zTm 2) "java/lang/String" "value" "[B") (.int (Int32.ofNat j))) (.int ((zByt.getD 2 []).getD j 0)) ∈ nU := by decide +kernel
theorem b_h5_3 : ∀ j, j < zLen.getD 3 0 → Cond.eq (.elem (.field (zTm 3) "java/lang/String" "value" "[B") (.int (Int32.ofNat j))) (.int ((zByt.getD 3 []).getD j 0)) ∈ nU := by decide +kernel
theorem b_h5_4 : ∀ j, j < zLen.getD 4 0 → Cond.eq (.elem (.field (zTm 4) "java/lang/String" "value" "[B") (.int (Int32.ofNat j))) (.int ((zByt.getD 4 []).getD j 0)) ∈ nU := by decide +kernel
theorem b_h5_5 : ∀ j, j < zLen.getD 5 0 → Cond.eq (.elem (.field (zTm 5) "java/lang/String" "value" "[B") (.int (Int32.ofNat j))) (.int ((zByt.getD 5 []).getD j 0)) ∈ nU := by decide +kernel
theorem b_h5_6 : ∀ j, j < zLen.getD 6 0 → Cond.eq (.elem (.field (zTm 6) "java/lang/String" "value" "[B") (.int (Int32.ofNat j))) (.int ((zByt.getD 6 []).getD j 0)) ∈ nU := by decide +kernel
theorem b_h5_7 : ∀ j, j < zLen.getD 7 0 → Cond.eq (.elem (.field (zTm 7) "java/lang/String" "value" "[B") (.int (Int32.ofNat j))) (.int ((zByt.getD 7 []).getD j 0)) ∈ nU := by decide +kernel
theorem b_h5_8 : ∀ j, j < zLen.getD 8 0 → Cond.eq (.elem (.field (zTm 8) "java/lang/String" "value" "[B") (.int (Int32.ofNat j))) (.int ((zByt.getD 8 []).getD j 0)) ∈ nU := by decide +kernel
theorem b_h5 : ∀ i, i < 9 → ∀ j, j < zLen.getD i 0 → Cond.eq (.elem (.field (zTm i) "java/lang/String" "value" "[B") (.int (Int32.ofNat j))) (.int ((zByt.getD i []).getD j 0)) ∈ nU := by
  intro i hi
  have h9 : i = 0 ∨ i = 1 ∨ i = 2 ∨ i = 3 ∨ i = 4 ∨ i = 5 ∨ i = 6 ∨ i = 7 ∨ i = 8 := by omega
  rcases h9 with rfl | rfl | rfl | rfl | rfl | rfl | rfl | rfl | rfl
  · exact b_h5_0
  · exact b_h5_1
  · exact b_h5_2
  · exact b_h5_3
  · exact b_h5_4
  · exact b_h5_5
  · exact b_h5_6
  · exact b_h5_7
  · exact b_h5_8
