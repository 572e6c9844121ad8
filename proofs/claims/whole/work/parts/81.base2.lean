theorem b_Nw {s : State} {args : Array Value} (hts : ∀ w ∈ lw_tbl, w.before args s = true) : ∀ w ∈ zNw, va_Nw w s := by
  intro w hw
  have hk := (List.mem_filter.mp hw).2
  refine va_Nw.of ?_ (hts w (List.mem_filter.mp hw).1)
  cases w <;> first | rfl | (cases hk; done)
theorem b_Th {s : State} {args : Array Value} {A : Nat → Prop} (hts : ∀ w ∈ lw_tbl, w.before args s = true) (hn : ∀ w ∈ nU, w.before args s = true) (hA : ∀ a : Nat, a < s.heap.size → ¬ A a) : vx_Zq Bundle.tN "UNASSIGNED_STACK" Bundle.steD A s s.heap ∧ vx_Zq Bundle.tN "SUPPRESSED_SENTINEL" Bundle.listD A s s.heap :=
  ⟨vx_Zqof (hts (Cond.laysStatic Bundle.tN "UNASSIGNED_STACK" Bundle.steD) (by decide +kernel)) (hts (Cond.initialized Bundle.tN) (by decide +kernel)) (hn (Cond.isRef (.static Bundle.tN "UNASSIGNED_STACK" Bundle.steD)) (by decide +kernel)) hA,
   vx_Zqof (hts (Cond.laysStatic Bundle.tN "SUPPRESSED_SENTINEL" Bundle.listD) (by decide +kernel)) (hts (Cond.initialized Bundle.tN) (by decide +kernel)) (hn (Cond.isRef (.static Bundle.tN "SUPPRESSED_SENTINEL" Bundle.listD)) (by decide +kernel)) hA⟩
theorem b_St {s : State} {args : Array Value} {A : Nat → Prop} (hts : ∀ w ∈ lw_tbl, w.before args s = true) (hn : ∀ w ∈ nU, w.before args s = true) (hA : ∀ a : Nat, a < s.heap.size → ¬ A a) : va_Z "java/lang/String" "COMPACT_STRINGS" "Z" (.int 1) A s s.heap ∧ va_Zq "jdk/internal/util/Preconditions" "SIOOBE_FORMATTER" "Ljava/util/function/BiFunction;" A s s.heap :=
  ⟨va_Zof (hts (Cond.laysStatic "java/lang/String" "COMPACT_STRINGS" "Z") (by decide +kernel)) (hts (Cond.initialized "java/lang/String") (by decide +kernel)) (va_eqt (hn (Cond.eq (.static "java/lang/String" "COMPACT_STRINGS" "Z") (.int 1)) (by decide +kernel))) hA,
   va_Zqof (hts (Cond.laysStatic "jdk/internal/util/Preconditions" "SIOOBE_FORMATTER" "Ljava/util/function/BiFunction;") (by decide +kernel)) (hts (Cond.initialized "jdk/internal/util/Preconditions") (by decide +kernel)) (hn (Cond.isRef (.static "jdk/internal/util/Preconditions" "SIOOBE_FORMATTER" "Ljava/util/function/BiFunction;")) (by decide +kernel)) hA⟩
abbrev zFo : List (String × String × String × List Int32) := [("java/lang/Enum", "ordinal", "I", [0, 1, 2, 3, 4, 5, 6, 7])]
theorem b_En {s : State} {args : Array Value} {A : Nat → Prop} (hts : ∀ w ∈ lw_tbl, w.before args s = true) (hn : ∀ w ∈ nU, w.before args s = true) (hA : ∀ a : Nat, a < s.heap.size → ¬ A a) : ∃ ad : Nat → Nat, va_En zKn zKd zKinds zFo ad A s s.heap ∧ ∀ i, i < zKinds.length → (Term.static zKn (zKinds.getD i "") zKd).eval args s none [] s = some (.ref (ad i)) := by
  have h1 : ∀ i, i < zKinds.length → Cond.laysStatic zKn (zKinds.getD i "") zKd ∈ lw_tbl := by decide +kernel
  have h2 : ∀ i, i < zKinds.length → Cond.exactly (.static zKn (zKinds.getD i "") zKd) zKn ∈ nU := by decide +kernel
  have h3 : ∀ q ∈ zFo, ∀ i, i < zKinds.length → Cond.eq (.field (.static zKn (zKinds.getD i "") zKd) q.1 q.2.1 q.2.2.1) (.int (q.2.2.2.getD i 0)) ∈ nU := by decide +kernel
  have h4 : ∀ i, i < zKinds.length → ∀ j, j < zKinds.length → i ≠ j → Cond.not (.eq (.static zKn (zKinds.getD i "") zKd) (.static zKn (zKinds.getD j "") zKd)) ∈ nU ∨ Cond.not (.eq (.static zKn (zKinds.getD j "") zKd) (.static zKn (zKinds.getD i "") zKd)) ∈ nU := by decide +kernel
  exact va_Enof2 (fun i hi => hts _ (h1 i hi)) (hts (Cond.initialized zKn) (by decide +kernel)) (fun i hi => hn _ (h2 i hi)) (fun q hq i hi => hn _ (h3 q hq i hi)) (fun i j hi hj hij => (h4 i hi j hj hij).imp (fun h => hn _ h) (fun h => hn _ h)) hA
theorem b_S {s : State} {args : Array Value} {A : Nat → Prop} (hn : ∀ w ∈ nU, w.before args s = true) (hA : ∀ a : Nat, a < s.heap.size → ¬ A a) : ∃ adK adV : Nat → Nat, vk_S 9 zLen zByt adK adV A s s.heap ∧ ∀ i : Nat, i < 9 → (zTm i).eval args s none [] s = some (.ref (adK i)) := by
  have h1 : ∀ i, i < 9 → Cond.exactly (zTm i) "java/lang/String" ∈ nU := by decide +kernel
  have h2 : ∀ i, i < 9 → Cond.eq (.field (zTm i) "java/lang/String" "coder" "B") (.int 0) ∈ nU := by decide +kernel
  have h3 : ∀ i, i < 9 → Cond.arrayOf (.field (zTm i) "java/lang/String" "value" "[B") .byte ∈ nU := by decide +kernel
  have h4 : ∀ i, i < 9 → Cond.eq (.length (.field (zTm i) "java/lang/String" "value" "[B")) (.int (Int32.ofNat (zLen.getD i 0))) ∈ nU := by decide +kernel
  have h5 := b_h5
  have h6 : ∀ i, i < 9 → zLen.getD i 0 < 2 ^ 31 := by decide +kernel
  have h7 : ∀ i, i < 9 → ∀ j, j < 9 → Int32.ofNat (zLen.getD i 0) = Int32.ofNat (zLen.getD j 0) → (∀ m, m < zLen.getD i 0 → (zByt.getD i []).getD m 0 = (zByt.getD j []).getD m 0) → i = j := by decide +kernel
  have h8 : ∀ i, i < 9 → ∀ j, j < 9 → Int32.ofNat (zLen.getD i 0) = Int32.ofNat (zLen.getD j 0) → zLen.getD i 0 = zLen.getD j 0 := by decide +kernel
  have h0 : ∀ i : Nat, ∃ q : Nat × Nat, i < 9 → (zTm i).eval args s none [] s = some (.ref q.1) ∧ va_O "java/lang/String" q.1 A s s.heap ∧ va_OF "java/lang/String" "coder" "B" (.int 0) q.1 A s s.heap ∧ va_OF "java/lang/String" "value" "[B" (.ref q.2) q.1 A s s.heap ∧ va_T .byte q.2 (zLen.getD i 0) (fun j => .int ((zByt.getD i []).getD j 0)) A s s.heap := by
    intro i
    by_cases hi : i < 9
    · obtain ⟨a, c, cA, kA, q1, q2, q3, q4, q5, q6, -⟩ := Cond.exactly_spec (args := args) (first := s) (o := none) (s := s) (idx := []) (t := zTm i) (cls := "java/lang/String") (hn _ (h1 i hi))
      obtain ⟨t, ht, hT⟩ := va_Tof (f := fun j => .int ((zByt.getD i []).getD j 0)) (A := A) (h6 i hi) (hn _ (h3 i hi)) (va_eqt (hn _ (h4 i hi))) (fun j hj => va_eqt (hn _ (h5 i hi j hj))) hA
      exact ⟨(a, t), fun _ => ⟨q1, ⟨cA, q3, q5, by rw [q6]; exact q2, hA a (Array.getElem?_eq_some_iff.mp q3).1⟩, vk_OFof q1 (va_eqt (hn _ (h2 i hi))) hA, vk_OFof q1 ht hA, hT⟩⟩
    · exact ⟨(0, 0), fun h => absurd h hi⟩
  obtain ⟨f, hf⟩ := Classical.axiomOfChoice h0
  refine ⟨fun i => (f i).1, fun i => (f i).2, ⟨fun i hi => (hf i hi).2, fun i j hi hj e => ?_⟩, fun i hi => (hf i hi).1⟩
  obtain ⟨-, -, -, v1, t1⟩ := hf i hi
  obtain ⟨-, -, -, v2, t2⟩ := hf j hj
  obtain ⟨a1, a2, a3, a4, a5, a6, -, a7, -, a8, -⟩ := v1
  obtain ⟨b1, b2, b3, b4, b5, b6, -, b7, -, b8, -⟩ := v2
  have e : (f i).1 = (f j).1 := e
  rw [e] at a7
  cases a7.symm.trans b7
  cases a6.symm.trans b6
  have e2 : (f i).2 = (f j).2 := by
    have := a8.symm.trans b8
    simpa using this
  obtain ⟨cell, x1, -, -, -, x2, x3, -⟩ := t1
  obtain ⟨cell2, y1, -, -, -, y2, y3, -⟩ := t2
  rw [e2] at x1
  cases x1.symm.trans y1
  have hL := x2.symm.trans y2
  refine h7 i hi j hj hL (fun m hm => ?_)
  have hm2 : m < zLen.getD j 0 := by rw [← h8 i hi j hj hL]; exact hm
  have h9 := (x3 m hm).symm.trans (y3 m hm2)
  simpa using h9
