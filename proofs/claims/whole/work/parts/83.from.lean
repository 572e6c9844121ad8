/-- the whole walk, out of what is left: that the plain function of the law's loop answers for every script -/
theorem whole_from (hpure : ∀ (L : Nat) (xs : Nat → Int32), L ≤ 2560 → ∃ fu : Nat, F_loop fu L xs 513 zL0 0 = some ()) {p : Program} {e : Env} {s : State} {m : MethodId} {below : List Frame} {meth : Method} {c : Code} (l : Launch) (hl0 : l.stackTraces = false) {b L : Nat} {xs : Nat → Int32} (hL : L ≤ 2560) (C0 : lw_At p s m meth c b L xs) : W p l e room_1 s m #[Value.ref b] below meth c s.heap [] 0 0 (lw_Z below #[Value.ref b] s) (entryFrame m ([Value.ref b] : List Value).toArray 9) := by
  obtain ⟨hx, hb, hr, hml, hown, hts, hX, hbl, hlocks, hgv⟩ := C0
  obtain ⟨fu, hF⟩ := hpure L xs hL
  have hA : ∀ a : Nat, a < s.heap.size → ¬ (s.heap.size ≤ a) := fun a h => Nat.not_le.mpr h
  obtain ⟨g, hK, hB, h1, h2⟩ := e_base (A := fun q => s.heap.size ≤ q) hts (flat_of_before _ hgv) hA
  exact e_start l hl0 hx hb hml hown (fun w hw => hts w (List.mem_filter.mp hw).1) hX hbl rfl g hK hB h1 h2 hr hlocks fu hF
