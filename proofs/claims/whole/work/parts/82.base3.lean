abbrev zKS : String := "[LDecimalMenagerie$Kind;"
abbrev zSwC : String := "DecimalMenagerie$1"
abbrev zSwN : String := "$SwitchMap$DecimalMenagerie$Kind"
theorem b_KI {s : State} {args : Array Value} {A : Nat → Prop} (hts : ∀ w ∈ lw_tbl, w.before args s = true) (hn : ∀ w ∈ nU, w.before args s = true) (hA : ∀ a : Nat, a < s.heap.size → ¬ A a) {adE : Nat → Nat} (hev : ∀ i, i < zKinds.length → (Term.static zKn (zKinds.getD i "") zKd).eval args s none [] s = some (.ref (adE i))) : ∃ t : Nat, va_Z RX6 "KINDS" zKS (.ref t) A s s.heap ∧ va_T (.object zKn) t 8 (fun j => .ref (adE j)) A s s.heap := by
  have h1 : ∀ j, j < 8 → Cond.eq (.elem (.static RX6 "KINDS" zKS) (.int (Int32.ofNat j))) (.static zKn (zKinds.getD j "") zKd) ∈ nU := by decide +kernel
  obtain ⟨t, ht, hT⟩ := va_Tof (tm := .static RX6 "KINDS" zKS) (ty := .object zKn) (N := 8) (f := fun j => .ref (adE j)) (A := A) (by decide) (hn _ (by decide +kernel)) (va_eqt (hn (Cond.eq (.length (.static RX6 "KINDS" zKS)) (.int (Int32.ofNat 8))) (by decide +kernel))) (fun j hj => va_eqv (hn _ (h1 j hj)) (hev j hj)) hA
  exact ⟨t, va_Zref (hts (Cond.laysStatic RX6 "KINDS" zKS) (by decide +kernel)) (hts (Cond.initialized RX6) (by decide +kernel)) ht hA, hT⟩
theorem b_Sw {s : State} {args : Array Value} {A : Nat → Prop} (hts : ∀ w ∈ lw_tbl, w.before args s = true) (hn : ∀ w ∈ nU, w.before args s = true) (hA : ∀ a : Nat, a < s.heap.size → ¬ A a) : ∃ t : Nat, va_Z zSwC zSwN "[I" (.ref t) A s s.heap ∧ va_T .int t 8 (fun j => .int (if j = 7 then 0 else nI (j + 1))) A s s.heap := by
  have h1 : ∀ j, j < 8 → Cond.eq (.elem (.static zSwC zSwN "[I") (.int (Int32.ofNat j))) (.int (if j = 7 then 0 else nI (j + 1))) ∈ nU := by decide +kernel
  obtain ⟨t, ht, hT⟩ := va_Tof (tm := .static zSwC zSwN "[I") (ty := .int) (N := 8) (f := fun j => .int (if j = 7 then 0 else nI (j + 1))) (A := A) (by decide) (hn _ (by decide +kernel)) (va_eqt (hn (Cond.eq (.length (.static zSwC zSwN "[I")) (.int (Int32.ofNat 8))) (by decide +kernel))) (fun j hj => va_eqt (hn _ (h1 j hj))) hA
  exact ⟨t, va_Zref (hts (Cond.laysStatic zSwC zSwN "[I") (by decide +kernel)) (hts (Cond.initialized zSwC) (by decide +kernel)) ht hA, hT⟩
theorem b_Ef {s : State} {args : Array Value} {A : Nat → Prop} (hn : ∀ w ∈ nU, w.before args s = true) (hA : ∀ a : Nat, a < s.heap.size → ¬ A a) {adE adK : Nat → Nat} (hev : ∀ i, i < zKinds.length → (Term.static zKn (zKinds.getD i "") zKd).eval args s none [] s = some (.ref (adE i))) (hek : ∀ i : Nat, i < 9 → (zTm i).eval args s none [] s = some (.ref (adK i))) : va_Ef 8 zKn "word" "Ljava/lang/String;" (fun i => .ref (adK (i + 1))) adE A s s.heap := by
  have h1 : ∀ i, i < 8 → Cond.eq (.field (.static zKn (zKinds.getD i "") zKd) zKn "word" "Ljava/lang/String;") (zTm (i + 1)) ∈ nU := by decide +kernel
  exact va_Efof (nm := zKinds) (d0 := zKd) (tm := fun i => zTm (i + 1)) hev (fun i hi => hn _ (h1 i hi)) (fun i hi => hek (i + 1) (Nat.succ_lt_succ hi)) hA
theorem b_R {s : State} {args : Array Value} (hts : ∀ w ∈ lw_tbl, w.before args s = true) (hn : ∀ w ∈ nU, w.before args s = true) {a : Nat} (h : (zTm 0).eval args s none [] s = some (.ref a)) : vk_R RX10 429 "duhle" a s ∧ vk_R RX6 128 "duhle" a s := by
  have e0 : (Term.string RX10 429).eval args s none [] s = some (.ref a) := h
  obtain ⟨a2, c, cell, k, e1, -⟩ := Cond.exactly_spec (args := args) (first := s) (o := none) (s := s) (idx := []) (hn (Cond.exactly (.string RX6 128) "java/lang/String") (by decide +kernel))
  have e2 := va_eqv (hn (Cond.eq (.string RX10 429) (.string RX6 128)) (by decide +kernel)) e1
  have e3 : a2 = a := by
    have := e2.symm.trans e0
    simpa using this
  rw [e3] at e1
  exact ⟨vk_R.of (hts (Cond.stringRef RX10 429 "duhle") (by decide +kernel)) e0, vk_R.of (hts (Cond.stringRef RX6 128 "duhle") (by decide +kernel)) e1⟩
theorem e_base {s : State} {args : Array Value} {A : Nat → Prop} (hts : ∀ w ∈ lw_tbl, w.before args s = true) (hn : ∀ w ∈ nU, w.before args s = true) (hA : ∀ a : Nat, a < s.heap.size → ¬ A a) : ∃ g : GG, va_K (gD g) zCl (gT g) s ∧ KB g A s s.heap ∧ va_AO RX8 s ∧ va_AO RX1 s := by
  obtain ⟨hO1, hO2⟩ := b_AO1 hts
  obtain ⟨D, T, hK⟩ := b_K (args := args) (fun w hw => hts w (List.mem_filter.mp hw).1) hO1 hO2
  obtain ⟨adK, adV, hS, hek⟩ := b_S (A := A) hn hA
  obtain ⟨adE, hE, hev⟩ := b_En (A := A) hts hn hA
  obtain ⟨tK, k1, k2⟩ := b_KI (A := A) hts hn hA hev
  obtain ⟨tS, w1, w2⟩ := b_Sw (A := A) hts hn hA
  obtain ⟨r1, r2⟩ := b_R hts hn (hek 0 (by decide))
  exact ⟨(D, T, (adK, adV, adE), (tK, tS)), hK _, ⟨b_Th hts hn hA, ⟨b_Nw hts, b_Nc hn, b_Tx hts hn, r1, r2⟩, ⟨hS, b_St hts hn hA⟩, ⟨hE, b_Ef hn hA hev hek⟩, ⟨k1, k2⟩, w1, w2⟩, hO1, hO2⟩
