theorem z_end {D : va_G} {cl : List vw_C} {ws : va_W} {H : Heap} {t : State} (ht : t.heap = H) (hP : va_P D cl ws H) : va_P D cl ws t.heap := by rw [ht]; exact hP
-- calls whose world is ours, whole
theorem va_allA {A0 : Nat → Prop} {ws : va_W} {H0 H : Heap} {locs : List Loc} (hD : va_D A0 ws) (hS : va_S A0 H0 H locs) (hA : ∀ q, H0.size ≤ q → A0 q) : ∀ q, va_A ws H.size q → A0 q := fun q h => by
  rcases h with ⟨k, e, h⟩ | h
  · exact hD.2 k (q, e) h
  · exact hA q (Nat.le_trans hS.1 h)
theorem z_preE {g : GG} {s U : State} {H : Heap} {ws : va_W} {A : Nat → Prop} {locs : List Loc} {av : List Value} (hP : va_P (gD g) zCl ws H) (hD : va_D A ws) (hK : va_K (gD g) zCl (gT g) s) (hB : KB g A s s.heap) (hS : va_S A s.heap H locs) (hA : ∀ q, s.heap.size ≤ q → A q)
    (hU : U.heap = H) (hW : s.WarmedH U.vm) : va_Pc av (zP g ws H.size) av.toArray U :=
  ⟨rfl, by rw [hU], by rw [hU]; exact hP, va_K.moved hW.alike hK, hD.weaken (fun _ _ _ _ => trivial), by rw [hU]; exact ((hB.kept hS.2.1).narrow (va_allA hD hS hA)).warm hW⟩
theorem zjoinE {A0 : Nat → Prop} {D : va_G} {cl : List vw_C} {ws w1 : va_W} {H1 : Heap} (hD : va_D A0 ws) (ha : w1.map Prod.fst = ws.map Prod.fst) (hP1 : va_P D cl w1 H1) : va_P D cl w1 H1 ∧ va_D A0 w1 := by
  have hsame : ∀ (k : Nat) (q : Nat × va_E), w1[k]? = some q → ∃ q', ws[k]? = some q' ∧ q'.1 = q.1 := by
    intro k q h1
    have h2 : (w1.map Prod.fst)[k]? = some q.1 := by rw [List.getElem?_map, h1]; rfl
    rw [ha, List.getElem?_map] at h2
    cases h3 : ws[k]? with
    | none => rw [h3] at h2; cases h2
    | some x => rw [h3] at h2; exact ⟨x, rfl, Option.some.inj h2⟩
  refine ⟨hP1, fun i j p q hi hj hpq => ?_, fun k q h => ?_⟩
  · obtain ⟨p', h1, h2⟩ := hsame i p hi
    obtain ⟨q', h3, h4⟩ := hsame j q hj
    exact hD.1 i j p' q' h1 h3 (by rw [h2, h4]; exact hpq)
  · obtain ⟨q', h1, h2⟩ := hsame k q h
    rw [← h2]
    exact hD.2 k q' h1
section ZCALLE
variable {p : Program} {l : Launch} {e : Env} {R : Room} {s : State} {m : MethodId} {args : Array Value} {below : List Frame} {meth : Method} {c : Code} {H : Heap} {locs : List Loc} {cells slots : Nat} {Q : State → Prop}
variable {pc : Nat} {ls : Array Slot} {rest st0 : List Value} {g : GG} {A : Nat → Prop} {ws : va_W} {a : Array Value} {mc ms : Nat}
theorem z_calliE {S : Type} {post : Int32 → S → Prop} (wF : S → va_W) (hr : va_Run p l e R s m args below meth c H locs cells slots mc ms (F0 m pc ls st0) rest (va_Qi post (fun u t => va_P (gD g) zCl (wF u) t.heap) (va_A ws H.size) a) (va_A ws H.size)) (hD : va_D A ws) (hS : va_S A s.heap H locs) (hA : ∀ q, s.heap.size ≤ q → A q) (ha : ∀ u, (wF u).map Prod.fst = ws.map Prod.fst)
    (kk : ∀ (r : Int32) (u : S) (H1 : Heap) (locs1 : List Loc), post r u → va_P (gD g) zCl (wF u) H1 → va_D A (wF u) → va_S A s.heap H1 locs1 → W p l e R s m args below meth c H1 locs1 (cells + mc) (slots + ms) Q (F0 m (pc + 3) ls (.int r :: rest))) : W p l e R s m args below meth c H locs cells slots Q (F0 m pc ls st0) :=
  va_calli hr hS (fun q _ h => va_allA hD hS hA q h) (va_allA hD hS hA) (fun r u t H1 locs1 ht _ hw hB _ hk hS' => by
    obtain ⟨h1, h2⟩ := zjoinE (H1 := H1) (D := gD g) (cl := zCl) hD (ha u) (ht ▸ hB)
    exact kk r u H1 locs1 hw h1 h2 hS')
theorem z_calllE {S : Type} {post : Int64 → S → Prop} (wF : S → va_W) (hr : va_Run p l e R s m args below meth c H locs cells slots mc ms (F0 m pc ls st0) rest (va_Ql post (fun u t => va_P (gD g) zCl (wF u) t.heap) (va_A ws H.size) a) (va_A ws H.size)) (hD : va_D A ws) (hS : va_S A s.heap H locs) (hA : ∀ q, s.heap.size ≤ q → A q) (ha : ∀ u, (wF u).map Prod.fst = ws.map Prod.fst)
    (kk : ∀ (r : Int64) (u : S) (H1 : Heap) (locs1 : List Loc), post r u → va_P (gD g) zCl (wF u) H1 → va_D A (wF u) → va_S A s.heap H1 locs1 → W p l e R s m args below meth c H1 locs1 (cells + mc) (slots + ms) Q (F0 m (pc + 3) ls (.long r :: rest))) : W p l e R s m args below meth c H locs cells slots Q (F0 m pc ls st0) :=
  va_calll hr hS (fun q _ h => va_allA hD hS hA q h) (va_allA hD hS hA) (fun r u t H1 locs1 ht _ hw hB _ hk hS' => by
    obtain ⟨h1, h2⟩ := zjoinE (H1 := H1) (D := gD g) (cl := zCl) hD (ha u) (ht ▸ hB)
    exact kk r u H1 locs1 hw h1 h2 hS')
theorem z_callvE {S : Type} {post : S → Prop} (wF : S → va_W) (hr : va_Run p l e R s m args below meth c H locs cells slots mc ms (F0 m pc ls st0) rest (va_Qv post (fun u t => va_P (gD g) zCl (wF u) t.heap) (va_A ws H.size) a) (va_A ws H.size)) (hD : va_D A ws) (hS : va_S A s.heap H locs) (hA : ∀ q, s.heap.size ≤ q → A q) (ha : ∀ u, (wF u).map Prod.fst = ws.map Prod.fst)
    (kk : ∀ (u : S) (H1 : Heap) (locs1 : List Loc), post u → va_P (gD g) zCl (wF u) H1 → va_D A (wF u) → va_S A s.heap H1 locs1 → W p l e R s m args below meth c H1 locs1 (cells + mc) (slots + ms) Q (F0 m (pc + 3) ls rest)) : W p l e R s m args below meth c H locs cells slots Q (F0 m pc ls st0) :=
  va_callv hr hS (fun q _ h => va_allA hD hS hA q h) (va_allA hD hS hA) (fun u t H1 locs1 ht _ hw hB _ hk hS' => by
    obtain ⟨h1, h2⟩ := zjoinE (H1 := H1) (D := gD g) (cl := zCl) hD (ha u) (ht ▸ hB)
    exact kk u H1 locs1 hw h1 h2 hS')
theorem z_calliXE {S SX : Type} {post : Int32 → S → Prop} {px : SX → Prop} (wF : S → va_W) (wX : SX → va_W) (nX : SX → String) (hr : vx_Run p l e R s m args below meth c H locs cells slots mc ms (F0 m pc ls st0) rest (va_Qi post (fun u t => va_P (gD g) zCl (wF u) t.heap) (va_A ws H.size) a) (vx_X px (fun E u t => E = nX u ∧ va_P (gD g) zCl (wX u) t.heap) (va_A ws H.size)) (va_A ws H.size)) (hD : va_D A ws) (hS : va_S A s.heap H locs) (hA : ∀ q, s.heap.size ≤ q → A q) (ha : ∀ u, (wF u).map Prod.fst = ws.map Prod.fst) (hx : ∀ u, (wX u).map Prod.fst = ws.map Prod.fst)
    (kx : ∀ (u : SX) (ce : Cell) (q9 : Addr) (H1 : Heap) (locs1 : List Loc), px u → va_P (gD g) zCl (wX u) H1 → va_D A (wX u) → va_S A s.heap H1 locs1 → H1[q9]? = some ce → ce.vm = .none → s.vm.findClass (nX u) = some ce.cls → vx_W p l e R s m args below meth c H1 locs1 (cells + mc) (slots + ms) Q (F0 m pc ls rest) q9)
    (kk : ∀ (r : Int32) (u : S) (H1 : Heap) (locs1 : List Loc), post r u → va_P (gD g) zCl (wF u) H1 → va_D A (wF u) → va_S A s.heap H1 locs1 → W p l e R s m args below meth c H1 locs1 (cells + mc) (slots + ms) Q (F0 m (pc + 3) ls (.int r :: rest))) : W p l e R s m args below meth c H locs cells slots Q (F0 m pc ls st0) :=
  vx_calli hr hS (fun q _ h => va_allA hD hS hA q h) (va_allA hD hS hA) (fun q _ h => va_allA hD hS hA q h)
    (fun E ce q9 u t H1 locs1 ht _ hw hB _ hk hS' h1 h2 h3 => by
      obtain ⟨rfl, hB⟩ := hB
      obtain ⟨g1, g2⟩ := zjoinE (H1 := H1) (D := gD g) (cl := zCl) hD (hx u) (ht ▸ hB)
      exact kx u ce q9 H1 locs1 hw g1 g2 hS' h1 h2 h3)
    (fun r u t H1 locs1 ht _ hw hB _ hk hS' => by
      obtain ⟨h1, h2⟩ := zjoinE (H1 := H1) (D := gD g) (cl := zCl) hD (ha u) (ht ▸ hB)
      exact kk r u H1 locs1 hw h1 h2 hS')
theorem z_calllXE {S SX : Type} {post : Int64 → S → Prop} {px : SX → Prop} (wF : S → va_W) (wX : SX → va_W) (nX : SX → String) (hr : vx_Run p l e R s m args below meth c H locs cells slots mc ms (F0 m pc ls st0) rest (va_Ql post (fun u t => va_P (gD g) zCl (wF u) t.heap) (va_A ws H.size) a) (vx_X px (fun E u t => E = nX u ∧ va_P (gD g) zCl (wX u) t.heap) (va_A ws H.size)) (va_A ws H.size)) (hD : va_D A ws) (hS : va_S A s.heap H locs) (hA : ∀ q, s.heap.size ≤ q → A q) (ha : ∀ u, (wF u).map Prod.fst = ws.map Prod.fst) (hx : ∀ u, (wX u).map Prod.fst = ws.map Prod.fst)
    (kx : ∀ (u : SX) (ce : Cell) (q9 : Addr) (H1 : Heap) (locs1 : List Loc), px u → va_P (gD g) zCl (wX u) H1 → va_D A (wX u) → va_S A s.heap H1 locs1 → H1[q9]? = some ce → ce.vm = .none → s.vm.findClass (nX u) = some ce.cls → vx_W p l e R s m args below meth c H1 locs1 (cells + mc) (slots + ms) Q (F0 m pc ls rest) q9)
    (kk : ∀ (r : Int64) (u : S) (H1 : Heap) (locs1 : List Loc), post r u → va_P (gD g) zCl (wF u) H1 → va_D A (wF u) → va_S A s.heap H1 locs1 → W p l e R s m args below meth c H1 locs1 (cells + mc) (slots + ms) Q (F0 m (pc + 3) ls (.long r :: rest))) : W p l e R s m args below meth c H locs cells slots Q (F0 m pc ls st0) :=
  vx_calll hr hS (fun q _ h => va_allA hD hS hA q h) (va_allA hD hS hA) (fun q _ h => va_allA hD hS hA q h)
    (fun E ce q9 u t H1 locs1 ht _ hw hB _ hk hS' h1 h2 h3 => by
      obtain ⟨rfl, hB⟩ := hB
      obtain ⟨g1, g2⟩ := zjoinE (H1 := H1) (D := gD g) (cl := zCl) hD (hx u) (ht ▸ hB)
      exact kx u ce q9 H1 locs1 hw g1 g2 hS' h1 h2 h3)
    (fun r u t H1 locs1 ht _ hw hB _ hk hS' => by
      obtain ⟨h1, h2⟩ := zjoinE (H1 := H1) (D := gD g) (cl := zCl) hD (ha u) (ht ▸ hB)
      exact kk r u H1 locs1 hw h1 h2 hS')
theorem z_callvXE {S SX : Type} {post : S → Prop} {px : SX → Prop} (wF : S → va_W) (wX : SX → va_W) (nX : SX → String) (hr : vx_Run p l e R s m args below meth c H locs cells slots mc ms (F0 m pc ls st0) rest (va_Qv post (fun u t => va_P (gD g) zCl (wF u) t.heap) (va_A ws H.size) a) (vx_X px (fun E u t => E = nX u ∧ va_P (gD g) zCl (wX u) t.heap) (va_A ws H.size)) (va_A ws H.size)) (hD : va_D A ws) (hS : va_S A s.heap H locs) (hA : ∀ q, s.heap.size ≤ q → A q) (ha : ∀ u, (wF u).map Prod.fst = ws.map Prod.fst) (hx : ∀ u, (wX u).map Prod.fst = ws.map Prod.fst)
    (kx : ∀ (u : SX) (ce : Cell) (q9 : Addr) (H1 : Heap) (locs1 : List Loc), px u → va_P (gD g) zCl (wX u) H1 → va_D A (wX u) → va_S A s.heap H1 locs1 → H1[q9]? = some ce → ce.vm = .none → s.vm.findClass (nX u) = some ce.cls → vx_W p l e R s m args below meth c H1 locs1 (cells + mc) (slots + ms) Q (F0 m pc ls rest) q9)
    (kk : ∀ (u : S) (H1 : Heap) (locs1 : List Loc), post u → va_P (gD g) zCl (wF u) H1 → va_D A (wF u) → va_S A s.heap H1 locs1 → W p l e R s m args below meth c H1 locs1 (cells + mc) (slots + ms) Q (F0 m (pc + 3) ls rest)) : W p l e R s m args below meth c H locs cells slots Q (F0 m pc ls st0) :=
  vx_callv hr hS (fun q _ h => va_allA hD hS hA q h) (va_allA hD hS hA) (fun q _ h => va_allA hD hS hA q h)
    (fun E ce q9 u t H1 locs1 ht _ hw hB _ hk hS' h1 h2 h3 => by
      obtain ⟨rfl, hB⟩ := hB
      obtain ⟨g1, g2⟩ := zjoinE (H1 := H1) (D := gD g) (cl := zCl) hD (hx u) (ht ▸ hB)
      exact kx u ce q9 H1 locs1 hw g1 g2 hS' h1 h2 h3)
    (fun u t H1 locs1 ht _ hw hB _ hk hS' => by
      obtain ⟨h1, h2⟩ := zjoinE (H1 := H1) (D := gD g) (cl := zCl) hD (ha u) (ht ▸ hB)
      exact kk u H1 locs1 hw h1 h2 hS')
/-- a field of an object that never changes, seen by a nest mate -/
theorem z_getfN {cc : ByteArray} (hexec : p.tables.exec = Jvm.exec) (hb : c.code = cc) {o n d own ref host : String} {index q : Nat} {v : Value} (hE : va_OF o n d v q A s s.heap) (hS : va_S A s.heap H locs) (hown : s.vm.findClass own = some m.cls) (hlink : (Cond.fieldLinkNest own index ref n d host).before args s = true) (hsame : ∀ x, s.fieldFound? o n d = some x → s.fieldFound? ref n d = some x) (hdg : decode cc pc = .ok (.getfield index, 3))
    (kk : W p l e R s m args below meth c H locs cells slots Q (F0 m (pc + 3) ls (v :: rest))) : W p l e R s m args below meth c H locs cells slots Q (F0 m pc ls (.ref q :: rest)) := by
  obtain ⟨cf, k', i, f, cell, h1, h2, h3, h4, h5, -⟩ := hE.kept hS.2.1
  exact va_Wgetf hexec hb hown hlink (hsame _ h1) h2 h3 h4 h5 rfl rfl hdg kk
end ZCALLE
