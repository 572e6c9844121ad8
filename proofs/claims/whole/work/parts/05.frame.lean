-- the world of this claim: what never changes (statics, texts, constants), and calls with the frame put back in place
abbrev zCl : List vw_C := [(RX1, TX1, 7), (RX2, TX2, 3), (RX4, TX4, 2), (RX5, TX5, 3), (RX6, TX6, 5), (RX8, TX8, 11), (RX10, TX10, 9), (RX11, TX11, 25)]
/-- places that never change: the tables' numbers; the array kinds char, int, long, boolean, State, Command, double; texts' objects, their bytes, the kinds' objects; the two static arrays -/
abbrev GG : Type := va_G × (ClassId × ClassId × ClassId × ClassId × ClassId × ClassId × ClassId) × ((Nat → Nat) × (Nat → Nat) × (Nat → Nat)) × (Nat × Nat)
abbrev gD (g : GG) : va_G := g.1
abbrev gcC (g : GG) : ClassId := g.2.1.1
abbrev gcI (g : GG) : ClassId := g.2.1.2.1
abbrev gcJ (g : GG) : ClassId := g.2.1.2.2.1
abbrev gcZ (g : GG) : ClassId := g.2.1.2.2.2.1
abbrev gcS (g : GG) : ClassId := g.2.1.2.2.2.2.1
abbrev gcK (g : GG) : ClassId := g.2.1.2.2.2.2.2.1
abbrev gcD (g : GG) : ClassId := g.2.1.2.2.2.2.2.2
abbrev gaK (g : GG) : Nat → Nat := g.2.2.1.1
abbrev gaV (g : GG) : Nat → Nat := g.2.2.1.2.1
abbrev gaE (g : GG) : Nat → Nat := g.2.2.1.2.2
abbrev gtK (g : GG) : Nat := g.2.2.2.1
abbrev gtS (g : GG) : Nat := g.2.2.2.2
abbrev gT (g : GG) : List (ClassId × FieldType) := [(gcC g, .char), (gcI g, .int), (gcJ g, .long), (gcZ g, .boolean), (gcS g, .object RX8), (gcK g, .object RX1), (gcD g, .double)]
def zNk : Cond → Bool
  | .fieldLinkNest .. => true
  | .methodLinkNest .. => true
  | .castable .. => true
  | .declares _ => true
  | _ => false
def zNw : List Cond := lw_tbl.filter zNk
theorem zNw_of {w : Cond} (i : Nat) (h : lw_tbl[i]? = some w) (hg : zNk w = true) : w ∈ zNw := List.mem_filter.mpr ⟨List.mem_of_getElem? h, hg⟩
theorem zNw_warm {s U : State} (hW : s.WarmedH U.vm) {w : Cond} (h : w ∈ zNw) (hZ : va_Nw w s) : va_Nw w U := by
  have hk := (List.mem_filter.mp h).2
  cases w <;> first | (cases hk; done) | skip
  all_goals first | exact va_Nw.warmC hW hZ | exact va_Nw.warmF hW hZ | exact va_Nw.warmM hW hZ | exact va_tabs rfl (rfl : (s.setVm U.vm).vm = U.vm) (by rw [Cond.declares_setVm hW.alike]; exact hZ)
theorem zNw_same {s U : State} (hv : s.vm = U.vm) {w : Cond} (h : w ∈ zNw) (hZ : va_Nw w s) : va_Nw w U := by
  have hk := (List.mem_filter.mp h).2
  refine va_Nw.same ?_ hv hZ
  cases w <;> first | rfl | (cases hk; done)
def zKinds : List String := ["ADD", "OVER", "FREE", "FEED", "TRADE", "SCALE", "MODE", "TOGETHER"]
abbrev zKd : String := "LDecimalMenagerie$Kind;"
/-- the texts' lengths and bytes: the modes, then the kinds' words -/
def zLen : List Nat := [5, 4, 5, 5, 5, 6, 6, 5, 9]
def zByt : List (List Int32) := [[100, 117, 104, 108, 101], [97, 100, 100, 32], [111, 118, 101, 114, 32], [102, 114, 101, 101, 32], [102, 101, 101, 100, 32], [116, 114, 97, 100, 101, 32], [115, 99, 97, 108, 101, 32], [109, 111, 100, 101, 32], [116, 111, 103, 101, 116, 104, 101, 114, 32]]
/-- the written texts of what is thrown -/
def zTx : List (Nat × String) := [(118, "the value is not a multiple of the step"), (154, "a number cannot trade with itself"), (159, "the value is less than the amount"), (166, "the amount is not a multiple of the step"), (201, "no number at this position"), (207, "no such place"), (220, "no number at this rank"), (226, "no such number of parts"), (228, "no such part"), (252, "no such position"), (284, "no numbers have no mean"), (289, "nothing has no shares"), (304, "the text buffer is full"), (318, "the text is not a program"), (334, "a command fails"), (378, "no error position was stored"), (381, "no failed command was stored"), (398, "no character at this index"), (406, "no call can be undone"), (418, "no state was saved"), (420, "no number with this id"), (422, "there are 6 numbers"), (425, "the whole part or the fraction is out of range"), (427, "the scale is out of range"), (436, "no such mode"), (438, "the dividend or the divisor is out of range")]
/-- pairs of names, the first no kind of the second -/
def zNc : List (String × String) := [("java/lang/IllegalStateException", "java/lang/IllegalArgumentException"), ("java/lang/UnsupportedOperationException", "java/lang/IllegalArgumentException"), ("java/util/NoSuchElementException", "java/lang/IllegalArgumentException"), ("java/lang/IndexOutOfBoundsException", "java/lang/IllegalArgumentException"), ("java/lang/ArithmeticException", "java/lang/IllegalArgumentException"), ("java/lang/IllegalArgumentException", "java/lang/IllegalStateException"), ("java/lang/UnsupportedOperationException", "java/lang/IllegalStateException"), ("java/util/NoSuchElementException", "java/lang/IllegalStateException"), ("java/lang/IndexOutOfBoundsException", "java/lang/IllegalStateException"), ("java/lang/ArithmeticException", "java/lang/IllegalStateException"), ("java/lang/IllegalArgumentException", "java/lang/UnsupportedOperationException"), ("java/lang/IllegalStateException", "java/lang/UnsupportedOperationException"), ("java/util/NoSuchElementException", "java/lang/UnsupportedOperationException"), ("java/lang/IndexOutOfBoundsException", "java/lang/UnsupportedOperationException"), ("java/lang/ArithmeticException", "java/lang/UnsupportedOperationException"), ("java/lang/IllegalArgumentException", "java/util/NoSuchElementException"), ("java/lang/IllegalStateException", "java/util/NoSuchElementException"), ("java/lang/UnsupportedOperationException", "java/util/NoSuchElementException"), ("java/lang/IndexOutOfBoundsException", "java/util/NoSuchElementException"), ("java/lang/ArithmeticException", "java/util/NoSuchElementException"), ("java/lang/IllegalArgumentException", "java/lang/IndexOutOfBoundsException"), ("java/lang/IllegalStateException", "java/lang/IndexOutOfBoundsException"), ("java/lang/UnsupportedOperationException", "java/lang/IndexOutOfBoundsException"), ("java/util/NoSuchElementException", "java/lang/IndexOutOfBoundsException"), ("java/lang/ArithmeticException", "java/lang/IndexOutOfBoundsException"), ("java/lang/IllegalArgumentException", "java/lang/ArithmeticException"), ("java/lang/IllegalStateException", "java/lang/ArithmeticException"), ("java/lang/UnsupportedOperationException", "java/lang/ArithmeticException"), ("java/util/NoSuchElementException", "java/lang/ArithmeticException"), ("java/lang/IndexOutOfBoundsException", "java/lang/ArithmeticException")]
/-- what every call finds and leaves as it is -/
def KB (g : GG) (A : Nat → Prop) (U : State) (H : Heap) : Prop :=
  (vx_Zq Bundle.tN "UNASSIGNED_STACK" Bundle.steD A U H ∧ vx_Zq Bundle.tN "SUPPRESSED_SENTINEL" Bundle.listD A U H) ∧
  ((∀ w ∈ zNw, va_Nw w U) ∧ (∀ q ∈ zNc, va_Nc q.1 q.2 U) ∧ (∀ q ∈ zTx, ∃ a, vk_R RX10 q.1 q.2 a U) ∧ vk_R RX10 429 "duhle" (gaK g 0) U ∧ vk_R RX6 128 "duhle" (gaK g 0) U) ∧
  (vk_S 9 zLen zByt (gaK g) (gaV g) A U H ∧ va_Z "java/lang/String" "COMPACT_STRINGS" "Z" (.int 1) A U H ∧ va_Zq "jdk/internal/util/Preconditions" "SIOOBE_FORMATTER" "Ljava/util/function/BiFunction;" A U H) ∧
  (va_En "DecimalMenagerie$Kind" zKd zKinds [("java/lang/Enum", "ordinal", "I", [0, 1, 2, 3, 4, 5, 6, 7])] (gaE g) A U H ∧ va_Ef 8 "DecimalMenagerie$Kind" "word" "Ljava/lang/String;" (fun i => .ref (gaK g (i + 1))) (gaE g) A U H) ∧
  (va_Z RX6 "KINDS" "[LDecimalMenagerie$Kind;" (.ref (gtK g)) A U H ∧ va_T (.object "DecimalMenagerie$Kind") (gtK g) 8 (fun j => .ref (gaE g j)) A U H) ∧
  (va_Z "DecimalMenagerie$1" "$SwitchMap$DecimalMenagerie$Kind" "[I" (.ref (gtS g)) A U H ∧ va_T .int (gtS g) 8 (fun j => .int (if j = 7 then 0 else nI (j + 1))) A U H)
theorem KB.alike {g : GG} {A : Nat → Prop} {s U : State} {H : Heap} (ha : s.vm.Alike U.vm) (hw : ∀ w ∈ zNw, va_Nw w s → va_Nw w U) (hr : ∀ (own tx : String) (k a : Nat), vk_R own k tx a s → vk_R own k tx a U) (h : KB g A s H) : KB g A U H := by
  obtain ⟨⟨a1, a2⟩, ⟨b1, b2, b3, b4, b5⟩, ⟨c1, c2, c3⟩, ⟨d1, d2⟩, ⟨e1, e2⟩, f1, f2⟩ := h
  exact ⟨⟨vx_Zq.moved ha a1, vx_Zq.moved ha a2⟩, ⟨fun w h => hw w h (b1 w h), fun q h => va_Nc.moved ha (b2 q h), fun q h => by obtain ⟨a, h⟩ := b3 q h; exact ⟨a, hr _ _ _ _ h⟩, hr _ _ _ _ b4, hr _ _ _ _ b5⟩, ⟨vk_S.moved ha c1, va_Z.moved ha c2, va_Zq.moved ha c3⟩, ⟨va_En.moved ha d1, va_Ef.moved ha d2⟩, ⟨va_Z.moved ha e1, va_T.moved ha e2⟩, va_Z.moved ha f1, va_T.moved ha f2⟩
theorem KB.warm {g : GG} {A : Nat → Prop} {s U : State} {H : Heap} (hW : s.WarmedH U.vm) (h : KB g A s H) : KB g A U H := h.alike hW.alike (fun _ hw hz => zNw_warm hW hw hz) (fun _ _ _ _ hr => vk_R.warm hW hr)
theorem KB.same {g : GG} {A : Nat → Prop} {s U : State} {H : Heap} (hv : s.vm = U.vm) (h : KB g A s H) : KB g A U H := h.alike (by rw [hv]; exact Vm.Alike.refl _) (fun _ hw hz => zNw_same hv hw hz) (fun _ _ _ _ hr => vk_R.same hv.symm hr)
theorem KB.kept {g : GG} {A : Nat → Prop} {U : State} {H H1 : Heap} (h : KB g A U H) (hq : ∀ a : Nat, a < H.size → ¬ A a → H1[a]? = H[a]?) : KB g A U H1 := by
  obtain ⟨⟨a1, a2⟩, b, ⟨c1, c2, c3⟩, ⟨d1, d2⟩, ⟨e1, e2⟩, f1, f2⟩ := h
  exact ⟨⟨a1.kept hq, a2.kept hq⟩, b, ⟨c1.kept hq, c2.kept hq, c3.kept hq⟩, ⟨d1.kept hq, d2.kept hq⟩, ⟨e1.kept hq, e2.kept hq⟩, f1.kept hq, f2.kept hq⟩
theorem KB.narrow {g : GG} {A B : Nat → Prop} {U : State} {H : Heap} (h : KB g A U H) (hAB : ∀ q, B q → A q) : KB g B U H := by
  obtain ⟨⟨a1, a2⟩, b, ⟨c1, c2, c3⟩, ⟨d1, d2⟩, ⟨e1, e2⟩, f1, f2⟩ := h
  exact ⟨⟨a1.narrow hAB, a2.narrow hAB⟩, b, ⟨c1.narrow hAB, c2.narrow hAB, c3.narrow hAB⟩, ⟨d1.narrow hAB, d2.narrow hAB⟩, ⟨e1.narrow hAB, e2.narrow hAB⟩, f1.narrow hAB, f2.narrow hAB⟩
/-- a method's start: the heap's size, its world, the tables, what never changes -/
def zP (g : GG) (ws : va_W) (sz : Nat) (U : State) : Prop := U.heap.size = sz ∧ va_P (gD g) zCl ws U.heap ∧ va_K (gD g) zCl (gT g) U ∧ va_D (fun _ => True) ws ∧ KB g (va_A ws sz) U U.heap
theorem z_blind (av : List Value) (g : GG) (ws : va_W) (sz : Nat) : FrameBlind (va_Pc av (zP g ws sz)) := fun a U f mk q => by
  obtain ⟨q0, q1, q2, q3, q4, q5⟩ := q
  exact ⟨q0, q1, q2, va_K.moved (u := U) (U := U.calling f mk a) (Vm.Alike.refl U.vm) q3, q4, KB.same (s := U) (U := U.calling f mk a) rfl q5⟩
theorem z_pre {g : GG} {s U : State} {H : Heap} {ws wc : va_W} {A : Nat → Prop} {locs : List Loc} {av : List Value} (isC : List Nat) (hP : va_P (gD g) zCl ws H) (hD : va_D A ws) (hK : va_K (gD g) zCl (gT g) s) (hB : KB g A s s.heap) (hS : va_S A s.heap H locs) (hA : ∀ q, s.heap.size ≤ q → A q)
    (hC : isC.map (fun i => ws[i]?) = wc.map some) (hn : va_nd isC = true) (hU : U.heap = H) (hW : s.WarmedH U.vm) : va_Pc av (zP g wc H.size) av.toArray U := by
  refine ⟨rfl, by rw [hU], ?_, va_K.moved hW.alike hK, (hD.sub isC hn hC).weaken (fun _ _ _ _ => trivial), ?_⟩
  · rw [hU]
    intro k q hk
    have h1 : (isC.map (fun i => ws[i]?))[k]? = some (some q) := by rw [hC, List.getElem?_map, hk]; rfl
    rw [List.getElem?_map] at h1
    cases hi : isC[k]? with
    | none => rw [hi] at h1; cases h1
    | some i => rw [hi] at h1; exact hP i q (Option.some.inj h1)
  · rw [hU]
    exact ((hB.kept hS.2.1).narrow (va_free hD hS hA isC hC)).warm hW
/-- a world with some of its cells changed -/
def zset : va_W → List Nat → va_W → va_W
  | ws, i :: is, e :: es => zset (ws.set i e) is es
  | ws, _, _ => ws
theorem zset_get : ∀ (isC : List Nat) (w1 ws : va_W) (k : Nat) (q : Nat × va_E), (zset ws isC w1)[k]? = some q → (∃ j : Nat, isC[j]? = some k ∧ w1[j]? = some q) ∨ ((∀ j : Nat, j < w1.length → isC[j]? ≠ some k) ∧ ws[k]? = some q)
  | [], w1, ws, k, q, h => Or.inr ⟨fun j _ => by simp, by simpa [zset] using h⟩
  | i :: is, [], ws, k, q, h => Or.inr ⟨fun j hj => absurd hj (Nat.not_lt_zero j), by simpa [zset] using h⟩
  | i :: is, e :: es, ws, k, q, h => by
    rcases zset_get is es (ws.set i e) k q (by simpa [zset] using h) with ⟨j, h1, h2⟩ | ⟨h1, h2⟩
    · exact Or.inl ⟨j + 1, by simpa using h1, by simpa using h2⟩
    · by_cases hk : i = k
      · subst hk
        have hl : i < (ws.set i e).length := (List.getElem?_eq_some_iff.mp h2).1
        rw [List.length_set] at hl
        rw [List.getElem?_set_self hl] at h2
        exact Or.inl ⟨0, rfl, h2⟩
      · rw [List.getElem?_set_ne hk] at h2
        refine Or.inr ⟨fun j hj => ?_, h2⟩
        cases j with
        | zero => simpa using hk
        | succ j => simpa using h1 j (by simpa using hj)
theorem zjoin {A0 : Nat → Prop} {D : va_G} {cl : List vw_C} {ws wc w1 : va_W} {H H1 : Heap} (hP : va_P D cl ws H) (hD : va_D A0 ws) (isC : List Nat) (hC : isC.map (fun i => ws[i]?) = wc.map some) (ha : w1.map Prod.fst = wc.map Prod.fst)
    (hk : ∀ q : Nat, q < H.size → ¬ va_A wc H.size q → H1[q]? = H[q]?) (hP1 : va_P D cl w1 H1) : va_P D cl (zset ws isC w1) H1 ∧ va_D A0 (zset ws isC w1) := by
  have hat : ∀ (j i : Nat) (q : Nat × va_E), isC[j]? = some i → wc[j]? = some q → ws[i]? = some q := by
    intro j i q h1 h2
    have h3 : (isC.map (fun i => ws[i]?))[j]? = some (some q) := by rw [hC, List.getElem?_map, h2]; rfl
    rw [List.getElem?_map, h1] at h3
    exact Option.some.inj h3
  have hln : isC.length = wc.length := by
    have h := congrArg List.length hC
    simpa using h
  have hl1 : w1.length = wc.length := by
    have h := congrArg List.length ha
    simpa using h
  have hfs : ∀ (j : Nat) (q : Nat × va_E), w1[j]? = some q → ∃ e, wc[j]? = some (q.1, e) := by
    intro j q h1
    have h2 : (w1.map Prod.fst)[j]? = some q.1 := by rw [List.getElem?_map, h1]; rfl
    rw [ha, List.getElem?_map] at h2
    cases h3 : wc[j]? with
    | none => rw [h3] at h2; cases h2
    | some x =>
      rw [h3] at h2
      obtain ⟨x1, x2⟩ := x
      cases (Option.some.inj h2)
      exact ⟨x2, rfl⟩
  have hsame : ∀ (k : Nat) (q : Nat × va_E), (zset ws isC w1)[k]? = some q → ∃ q', ws[k]? = some q' ∧ q'.1 = q.1 := by
    intro k q h
    rcases zset_get isC w1 ws k q h with ⟨j, h1, h2⟩ | ⟨-, h2⟩
    · obtain ⟨e, h3⟩ := hfs j q h2
      exact ⟨(q.1, e), hat j k _ h1 h3, rfl⟩
    · exact ⟨q, h2, rfl⟩
  refine ⟨fun k q h => ?_, fun i j p q hi hj hpq => ?_, fun k q h => ?_⟩
  · rcases zset_get isC w1 ws k q h with ⟨j, h1, h2⟩ | ⟨h1, h2⟩
    · exact hP1 j q h2
    · refine (hP k q h2).kept (hk q.1 (hP k q h2).lt ?_)
      rintro (⟨j, e, h3⟩ | h3)
      · have hj : j < wc.length := (List.getElem?_eq_some_iff.mp h3).1
        have h4 : isC[j]? = some (isC[j]'(by omega)) := List.getElem?_eq_getElem _
        have h5 := hat j _ _ h4 h3
        have h6 := hD.1 _ _ _ _ h5 h2 rfl
        rw [h6] at h4
        exact h1 j (by omega) h4
      · have := (hP k q h2).lt
        omega
  · obtain ⟨p', h1, h2⟩ := hsame i p hi
    obtain ⟨q', h3, h4⟩ := hsame j q hj
    exact hD.1 i j p' q' h1 h3 (by rw [h2, h4]; exact hpq)
  · obtain ⟨q', h1, h2⟩ := hsame k q h
    rw [← h2]
    exact hD.2 k q' h1
section ZCALL
variable {p : Program} {l : Launch} {e : Env} {R : Room} {s : State} {m : MethodId} {args : Array Value} {below : List Frame} {meth : Method} {c : Code} {H : Heap} {locs : List Loc} {cells slots : Nat} {Q : State → Prop}
variable {pc : Nat} {ls : Array Slot} {rest st0 : List Value} {g : GG} {A : Nat → Prop} {ws wc : va_W} {a : Array Value} {mc ms : Nat}
theorem z_calli {S : Type} {post : Int32 → S → Prop} (wF : S → va_W) (isC : List Nat) (hr : va_Run p l e R s m args below meth c H locs cells slots mc ms (F0 m pc ls st0) rest (va_Qi post (fun u t => va_P (gD g) zCl (wF u) t.heap) (va_A wc H.size) a) (va_A wc H.size)) (hP : va_P (gD g) zCl ws H) (hD : va_D A ws) (hS : va_S A s.heap H locs) (hA : ∀ q, s.heap.size ≤ q → A q)
    (hC : isC.map (fun i => ws[i]?) = wc.map some) (ha : ∀ u, (wF u).map Prod.fst = wc.map Prod.fst)
    (kk : ∀ (r : Int32) (u : S) (H1 : Heap) (locs1 : List Loc), post r u → va_P (gD g) zCl (zset ws isC (wF u)) H1 → va_D A (zset ws isC (wF u)) → va_S A s.heap H1 locs1 → W p l e R s m args below meth c H1 locs1 (cells + mc) (slots + ms) Q (F0 m (pc + 3) ls (.int r :: rest))) : W p l e R s m args below meth c H locs cells slots Q (F0 m pc ls st0) :=
  va_calli hr hS (fun q _ h => va_free hD hS hA isC hC q h) (va_free hD hS hA isC hC) (fun r u t H1 locs1 ht _ hw hB _ hk hS' => by
    obtain ⟨h1, h2⟩ := zjoin hP hD isC hC (ha u) hk (by rw [← ht]; exact hB)
    exact kk r u H1 locs1 hw h1 h2 hS')
theorem z_calll {S : Type} {post : Int64 → S → Prop} (wF : S → va_W) (isC : List Nat) (hr : va_Run p l e R s m args below meth c H locs cells slots mc ms (F0 m pc ls st0) rest (va_Ql post (fun u t => va_P (gD g) zCl (wF u) t.heap) (va_A wc H.size) a) (va_A wc H.size)) (hP : va_P (gD g) zCl ws H) (hD : va_D A ws) (hS : va_S A s.heap H locs) (hA : ∀ q, s.heap.size ≤ q → A q)
    (hC : isC.map (fun i => ws[i]?) = wc.map some) (ha : ∀ u, (wF u).map Prod.fst = wc.map Prod.fst)
    (kk : ∀ (r : Int64) (u : S) (H1 : Heap) (locs1 : List Loc), post r u → va_P (gD g) zCl (zset ws isC (wF u)) H1 → va_D A (zset ws isC (wF u)) → va_S A s.heap H1 locs1 → W p l e R s m args below meth c H1 locs1 (cells + mc) (slots + ms) Q (F0 m (pc + 3) ls (.long r :: rest))) : W p l e R s m args below meth c H locs cells slots Q (F0 m pc ls st0) :=
  va_calll hr hS (fun q _ h => va_free hD hS hA isC hC q h) (va_free hD hS hA isC hC) (fun r u t H1 locs1 ht _ hw hB _ hk hS' => by
    obtain ⟨h1, h2⟩ := zjoin hP hD isC hC (ha u) hk (by rw [← ht]; exact hB)
    exact kk r u H1 locs1 hw h1 h2 hS')
theorem z_callv {S : Type} {post : S → Prop} (wF : S → va_W) (isC : List Nat) (hr : va_Run p l e R s m args below meth c H locs cells slots mc ms (F0 m pc ls st0) rest (va_Qv post (fun u t => va_P (gD g) zCl (wF u) t.heap) (va_A wc H.size) a) (va_A wc H.size)) (hP : va_P (gD g) zCl ws H) (hD : va_D A ws) (hS : va_S A s.heap H locs) (hA : ∀ q, s.heap.size ≤ q → A q)
    (hC : isC.map (fun i => ws[i]?) = wc.map some) (ha : ∀ u, (wF u).map Prod.fst = wc.map Prod.fst)
    (kk : ∀ (u : S) (H1 : Heap) (locs1 : List Loc), post u → va_P (gD g) zCl (zset ws isC (wF u)) H1 → va_D A (zset ws isC (wF u)) → va_S A s.heap H1 locs1 → W p l e R s m args below meth c H1 locs1 (cells + mc) (slots + ms) Q (F0 m (pc + 3) ls rest)) : W p l e R s m args below meth c H locs cells slots Q (F0 m pc ls st0) :=
  va_callv hr hS (fun q _ h => va_free hD hS hA isC hC q h) (va_free hD hS hA isC hC) (fun u t H1 locs1 ht _ hw hB _ hk hS' => by
    obtain ⟨h1, h2⟩ := zjoin hP hD isC hC (ha u) hk (by rw [← ht]; exact hB)
    exact kk u H1 locs1 hw h1 h2 hS')
/-- calls that return or throw -/
theorem z_calliX {S SX : Type} {post : Int32 → S → Prop} {px : SX → Prop} (wF : S → va_W) (wX : SX → va_W) (nX : SX → String) (isC : List Nat) (hr : vx_Run p l e R s m args below meth c H locs cells slots mc ms (F0 m pc ls st0) rest (va_Qi post (fun u t => va_P (gD g) zCl (wF u) t.heap) (va_A wc H.size) a) (vx_X px (fun E u t => E = nX u ∧ va_P (gD g) zCl (wX u) t.heap) (va_A wc H.size)) (va_A wc H.size)) (hP : va_P (gD g) zCl ws H) (hD : va_D A ws) (hS : va_S A s.heap H locs) (hA : ∀ q, s.heap.size ≤ q → A q)
    (hC : isC.map (fun i => ws[i]?) = wc.map some) (ha : ∀ u, (wF u).map Prod.fst = wc.map Prod.fst) (hx : ∀ u, (wX u).map Prod.fst = wc.map Prod.fst)
    (kx : ∀ (u : SX) (ce : Cell) (q9 : Addr) (H1 : Heap) (locs1 : List Loc), px u → va_P (gD g) zCl (zset ws isC (wX u)) H1 → va_D A (zset ws isC (wX u)) → va_S A s.heap H1 locs1 → H1[q9]? = some ce → ce.vm = .none → s.vm.findClass (nX u) = some ce.cls → vx_W p l e R s m args below meth c H1 locs1 (cells + mc) (slots + ms) Q (F0 m pc ls rest) q9)
    (kk : ∀ (r : Int32) (u : S) (H1 : Heap) (locs1 : List Loc), post r u → va_P (gD g) zCl (zset ws isC (wF u)) H1 → va_D A (zset ws isC (wF u)) → va_S A s.heap H1 locs1 → W p l e R s m args below meth c H1 locs1 (cells + mc) (slots + ms) Q (F0 m (pc + 3) ls (.int r :: rest))) : W p l e R s m args below meth c H locs cells slots Q (F0 m pc ls st0) :=
  vx_calli hr hS (fun q _ h => va_free hD hS hA isC hC q h) (va_free hD hS hA isC hC) (fun q _ h => va_free hD hS hA isC hC q h)
    (fun E ce q9 u t H1 locs1 ht _ hw hB _ hk hS' h1 h2 h3 => by
      obtain ⟨rfl, hB⟩ := hB
      obtain ⟨g1, g2⟩ := zjoin hP hD isC hC (hx u) hk (by rw [← ht]; exact hB)
      exact kx u ce q9 H1 locs1 hw g1 g2 hS' h1 h2 h3)
    (fun r u t H1 locs1 ht _ hw hB _ hk hS' => by
      obtain ⟨h1, h2⟩ := zjoin hP hD isC hC (ha u) hk (by rw [← ht]; exact hB)
      exact kk r u H1 locs1 hw h1 h2 hS')
theorem z_calllX {S SX : Type} {post : Int64 → S → Prop} {px : SX → Prop} (wF : S → va_W) (wX : SX → va_W) (nX : SX → String) (isC : List Nat) (hr : vx_Run p l e R s m args below meth c H locs cells slots mc ms (F0 m pc ls st0) rest (va_Ql post (fun u t => va_P (gD g) zCl (wF u) t.heap) (va_A wc H.size) a) (vx_X px (fun E u t => E = nX u ∧ va_P (gD g) zCl (wX u) t.heap) (va_A wc H.size)) (va_A wc H.size)) (hP : va_P (gD g) zCl ws H) (hD : va_D A ws) (hS : va_S A s.heap H locs) (hA : ∀ q, s.heap.size ≤ q → A q)
    (hC : isC.map (fun i => ws[i]?) = wc.map some) (ha : ∀ u, (wF u).map Prod.fst = wc.map Prod.fst) (hx : ∀ u, (wX u).map Prod.fst = wc.map Prod.fst)
    (kx : ∀ (u : SX) (ce : Cell) (q9 : Addr) (H1 : Heap) (locs1 : List Loc), px u → va_P (gD g) zCl (zset ws isC (wX u)) H1 → va_D A (zset ws isC (wX u)) → va_S A s.heap H1 locs1 → H1[q9]? = some ce → ce.vm = .none → s.vm.findClass (nX u) = some ce.cls → vx_W p l e R s m args below meth c H1 locs1 (cells + mc) (slots + ms) Q (F0 m pc ls rest) q9)
    (kk : ∀ (r : Int64) (u : S) (H1 : Heap) (locs1 : List Loc), post r u → va_P (gD g) zCl (zset ws isC (wF u)) H1 → va_D A (zset ws isC (wF u)) → va_S A s.heap H1 locs1 → W p l e R s m args below meth c H1 locs1 (cells + mc) (slots + ms) Q (F0 m (pc + 3) ls (.long r :: rest))) : W p l e R s m args below meth c H locs cells slots Q (F0 m pc ls st0) :=
  vx_calll hr hS (fun q _ h => va_free hD hS hA isC hC q h) (va_free hD hS hA isC hC) (fun q _ h => va_free hD hS hA isC hC q h)
    (fun E ce q9 u t H1 locs1 ht _ hw hB _ hk hS' h1 h2 h3 => by
      obtain ⟨rfl, hB⟩ := hB
      obtain ⟨g1, g2⟩ := zjoin hP hD isC hC (hx u) hk (by rw [← ht]; exact hB)
      exact kx u ce q9 H1 locs1 hw g1 g2 hS' h1 h2 h3)
    (fun r u t H1 locs1 ht _ hw hB _ hk hS' => by
      obtain ⟨h1, h2⟩ := zjoin hP hD isC hC (ha u) hk (by rw [← ht]; exact hB)
      exact kk r u H1 locs1 hw h1 h2 hS')
theorem z_callvX {S SX : Type} {post : S → Prop} {px : SX → Prop} (wF : S → va_W) (wX : SX → va_W) (nX : SX → String) (isC : List Nat) (hr : vx_Run p l e R s m args below meth c H locs cells slots mc ms (F0 m pc ls st0) rest (va_Qv post (fun u t => va_P (gD g) zCl (wF u) t.heap) (va_A wc H.size) a) (vx_X px (fun E u t => E = nX u ∧ va_P (gD g) zCl (wX u) t.heap) (va_A wc H.size)) (va_A wc H.size)) (hP : va_P (gD g) zCl ws H) (hD : va_D A ws) (hS : va_S A s.heap H locs) (hA : ∀ q, s.heap.size ≤ q → A q)
    (hC : isC.map (fun i => ws[i]?) = wc.map some) (ha : ∀ u, (wF u).map Prod.fst = wc.map Prod.fst) (hx : ∀ u, (wX u).map Prod.fst = wc.map Prod.fst)
    (kx : ∀ (u : SX) (ce : Cell) (q9 : Addr) (H1 : Heap) (locs1 : List Loc), px u → va_P (gD g) zCl (zset ws isC (wX u)) H1 → va_D A (zset ws isC (wX u)) → va_S A s.heap H1 locs1 → H1[q9]? = some ce → ce.vm = .none → s.vm.findClass (nX u) = some ce.cls → vx_W p l e R s m args below meth c H1 locs1 (cells + mc) (slots + ms) Q (F0 m pc ls rest) q9)
    (kk : ∀ (u : S) (H1 : Heap) (locs1 : List Loc), post u → va_P (gD g) zCl (zset ws isC (wF u)) H1 → va_D A (zset ws isC (wF u)) → va_S A s.heap H1 locs1 → W p l e R s m args below meth c H1 locs1 (cells + mc) (slots + ms) Q (F0 m (pc + 3) ls rest)) : W p l e R s m args below meth c H locs cells slots Q (F0 m pc ls st0) :=
  vx_callv hr hS (fun q _ h => va_free hD hS hA isC hC q h) (va_free hD hS hA isC hC) (fun q _ h => va_free hD hS hA isC hC q h)
    (fun E ce q9 u t H1 locs1 ht _ hw hB _ hk hS' h1 h2 h3 => by
      obtain ⟨rfl, hB⟩ := hB
      obtain ⟨g1, g2⟩ := zjoin hP hD isC hC (hx u) hk (by rw [← ht]; exact hB)
      exact kx u ce q9 H1 locs1 hw g1 g2 hS' h1 h2 h3)
    (fun u t H1 locs1 ht _ hw hB _ hk hS' => by
      obtain ⟨h1, h2⟩ := zjoin hP hD isC hC (ha u) hk (by rw [← ht]; exact hB)
      exact kk u H1 locs1 hw h1 h2 hS')
/-- a value on the stack under another name -/
theorem z_topi {x y : Int32} (h : x = y) (k : W p l e R s m args below meth c H locs cells slots Q (F0 m pc ls (.int x :: rest))) : W p l e R s m args below meth c H locs cells slots Q (F0 m pc ls (.int y :: rest)) := h ▸ k
theorem z_topl {x y : Int64} (h : x = y) (k : W p l e R s m args below meth c H locs cells slots Q (F0 m pc ls (.long x :: rest))) : W p l e R s m args below meth c H locs cells slots Q (F0 m pc ls (.long y :: rest)) := h ▸ k
end ZCALL
-- words of a callee among those that every method asks for
theorem gdW {w : Cond} (h : w ∈ wU) : w ∈ wU ∧ ((w.onTables && w.keeps) = true ∨ ∃ ty, w = .arrayClass ty) := ⟨h, good_of_word (List.mem_filter.mp h).2⟩
theorem gdU {w : Cond} (h : w ∈ wU) : GoodIn wU (w :: wU) := fun v hv => (List.mem_cons.mp hv).elim (fun e => by rw [e]; exact gdW h) gdW
theorem gdV {own C : String} {idx : Nat} {y : MethodName} {w : Cond} (h1 : Cond.methodLink own idx y ∈ wU) (h2 : Cond.instanceMethod y ∈ wU) (h3 : Cond.selects C y y ∈ wU) (h4 : Cond.initialized C ∈ wU) (h5 : w ∈ wU) : GoodIn wU (wsV own idx C y (w :: wU)) :=
  fun v hv => (List.mem_append.mp hv).elim (fun h => by
    rcases List.mem_cons.mp h with rfl | h
    · exact gdW h1
    · rcases List.mem_cons.mp h with rfl | h
      · exact gdW h2
      · rcases List.mem_cons.mp h with rfl | h
        · exact gdW h3
        · rcases List.mem_cons.mp h with rfl | h
          · exact gdW h4
          · exact absurd h List.not_mem_nil) (gdU h5 v)
theorem gdS {own : String} {idx : Nat} {y : MethodName} {w : Cond} (h1 : Cond.methodLink own idx y ∈ wU) (h2 : Cond.static y ∈ wU) (h3 : Cond.initialized y.cls ∈ wU) (h5 : w ∈ wU) : GoodIn wU (va_wsS own idx y (w :: wU)) :=
  fun v hv => (List.mem_append.mp hv).elim (fun h => by
    rcases List.mem_cons.mp h with rfl | h
    · exact gdW h1
    · rcases List.mem_cons.mp h with rfl | h
      · exact gdW h2
      · rcases List.mem_cons.mp h with rfl | h
        · exact gdW h3
        · exact absurd h List.not_mem_nil) (gdU h5 v)
-- the plain programs that the methods are: option for what the machine would refuse, or for want of fuel
def zlet {α β : Type} (a : α) (f : α → Option β) : Option β := f a
theorem z_let {α β : Type} {a : α} {f : α → Option β} {o : β} (h : zlet a f = some o) : ∃ x, x = a ∧ f x = some o := ⟨a, rfl, h⟩
def zbind {α β : Type} (m : Option α) (f : α → Option β) : Option β := match m with
  | none => none
  | some a => f a
theorem z_bind {α β : Type} {m : Option α} {f : α → Option β} {o : β} (h : zbind m f = some o) : ∃ x, m = some x ∧ f x = some o := by
  cases m with
  | none => cases h
  | some a => exact ⟨a, rfl, h⟩
def zcase {ε α β : Type} (x : Except ε α) (k : α → Option β) (h : ε → Option β) : Option β := match x with
  | .ok a => k a
  | .error e => h e
theorem z_pos {c : Prop} [Decidable c] {α : Type} {x y : Option α} {o : α} (h : (if c then x else y) = some o) (hc : c) : x = some o := by rwa [if_pos hc] at h
theorem z_neg {c : Prop} [Decidable c] {α : Type} {x y : Option α} {o : α} (h : (if c then x else y) = some o) (hc : ¬ c) : y = some o := by rwa [if_neg hc] at h
theorem z_grd {c : Prop} [Decidable c] {α : Type} {x : Option α} {o : α} (h : (if c then none else x) = some o) : ¬ c ∧ x = some o := by
  by_cases hc : c
  · rw [if_pos hc] at h
    cases h
  · exact ⟨hc, by rwa [if_neg hc] at h⟩
