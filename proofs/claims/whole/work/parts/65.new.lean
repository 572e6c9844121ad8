-- new objects and arrays: the world grows at its end
theorem z_RAu {s : State} {c1 c2 : ClassId} {ty : FieldType} (h1 : va_RA s c1 ty) (h2 : va_RA s c2 ty) : c1 = c2 := by
  cases ty with
  | object C =>
    obtain ⟨k1, m1, a1, a2, a3, a4⟩ := h1
    obtain ⟨k2, m2, b1, b2, b3, b4⟩ := h2
    exact Option.some.inj (a4.symm.trans b4)
  | _ => exact Option.some.inj (Eq.trans (Eq.symm h1) h2)
def zPO (g : GG) (ws : va_W) (sz : Nat) (U : State) : Prop := zP g ws sz U ∧ va_AO RX8 U ∧ va_AO RX1 U
theorem z_blindO (av : List Value) (g : GG) (ws : va_W) (sz : Nat) : FrameBlind (va_Pc av (zPO g ws sz)) := fun a U f mk q => by
  obtain ⟨q0, q1, q2, q3⟩ := q
  obtain ⟨q4, q5⟩ := z_blind av g ws sz a U f mk ⟨q0, q1⟩
  exact ⟨q4, q5, va_AO.moved (u := U) (U := U.calling f mk a) (Vm.Alike.refl U.vm) q2, va_AO.moved (u := U) (U := U.calling f mk a) (Vm.Alike.refl U.vm) q3⟩
section ZNEW
variable {p : Program} {l : Launch} {e : Env} {R : Room} {s : State} {m : MethodId} {args : Array Value} {below : List Frame} {meth : Method} {c : Code} {H : Heap} {locs : List Loc} {cells slots : Nat} {Q : State → Prop}
variable {cc : ByteArray} {pc : Nat} {ls : Array Slot} {rest st0 : List Value} {g : GG} {A : Nat → Prop} {ws wc : va_W} {a : Array Value} {mc ms : Nat} {H0 : Heap}
theorem z_preO {U : State} {av : List Value} (isC : List Nat) (hP : va_P (gD g) zCl ws H) (hD : va_D A ws) (hK : va_K (gD g) zCl (gT g) s) (hB : KB g A s s.heap) (hS : va_S A s.heap H locs) (hA : ∀ q, s.heap.size ≤ q → A q)
    (hC : isC.map (fun i => ws[i]?) = wc.map some) (hn : va_nd isC = true) (h1 : va_AO RX8 s) (h2 : va_AO RX1 s) (hU : U.heap = H) (hW : s.WarmedH U.vm) : va_Pc av (zPO g wc H.size) av.toArray U := by
  obtain ⟨q4, q5⟩ := z_pre (av := av) isC hP hD hK hB hS hA hC hn hU hW
  exact ⟨q4, q5, va_AO.moved hW.alike h1, va_AO.moved hW.alike h2⟩
theorem z_newa (hexec : p.tables.exec = Jvm.exec) (hb : c.code = cc) {atype : ArrayType} (harr : (Cond.arrayClass (newarray.typeOf atype)).before args s = true) {ty : FieldType} (hty : newarray.typeOf atype = ty) (hK : va_K (gD g) zCl (gT g) s) (hP : va_P (gD g) zCl ws H) (hD : va_D A ws) (hS : va_S A H0 H locs) (hA : ∀ q, H0.size ≤ q → A q)
    (t0 : Nat) {cA : ClassId} (ht : (gT g)[t0]? = some (cA, ty)) {n : Int32} {N' : Nat} {a0 : vp_A} (ha : ∀ cA : ClassId, vp_cell cA a0 = arrV cA N' (fun _ => defaultValue ty)) (hn : ¬ n < 0) (hN : n.toNatClampNeg = N') (hbytes : N' * componentBytes ty ≤ 536870912) (hcells : cells + 1 ≤ R.cells) (hslots : slots + N' ≤ R.slots) (hdg : decode cc pc = .ok (.newarray atype, 2))
    (kk : ∀ (q : Nat) (H1 : Heap), va_P (gD g) zCl (ws ++ [(q, .inl (cA, a0))]) H1 → va_D A (ws ++ [(q, .inl (cA, a0))]) → va_S A H0 H1 locs →
      W p l e R s m args below meth c H1 locs (cells + 1) (slots + N') Q (F0 m (pc + 2) ls (.ref q :: rest))) : W p l e R s m args below meth c H locs cells slots Q (F0 m pc ls (.int n :: rest)) :=
  va_newa hexec hb harr hty hK hP hD hS hA ha hn hN hbytes hcells hslots hdg (fun q cB H1 hK1 hP1 hD1 hS1 => by
    have h1 : (gT g ++ [(cB, ty)])[(gT g).length]? = some (cB, ty) := by simp
    have h2 : cB = cA := z_RAu (hK1.2 _ _ h1).2 (hK.2 t0 _ ht).2
    subst h2
    exact kk q H1 hP1 hD1 hS1)
theorem z_newq (hexec : p.tables.exec = Jvm.exec) (hb : c.code = cc) {own C : String} {index : Nat} (hown : s.vm.findClass own = some m.cls) (hclink : (Cond.classLink own index C).before args s = true) (hover : va_AO C s) (hK : va_K (gD g) zCl (gT g) s) (hP : va_P (gD g) zCl ws H) (hD : va_D A ws) (hS : va_S A H0 H locs) (hA : ∀ q, H0.size ≤ q → A q)
    (t0 : Nat) {cA : ClassId} (ht : (gT g)[t0]? = some (cA, .object C)) {n : Int32} {N' : Nat} (hn : ¬ n < 0) (hN : n.toNatClampNeg = N') (hbytes : N' * 4 ≤ 536870912) (hcells : cells + 1 ≤ R.cells) (hslots : slots + N' ≤ R.slots) (hdg : decode cc pc = .ok (.anewarray index, 3))
    (kk : ∀ (q : Nat) (H1 : Heap), va_P (gD g) zCl (ws ++ [(q, .inl (cA, N', .inr (.inr (.inr (.inr (fun _ => none))))))]) H1 → va_D A (ws ++ [(q, .inl (cA, N', .inr (.inr (.inr (.inr (fun _ => none))))))]) → va_S A H0 H1 locs →
      W p l e R s m args below meth c H1 locs (cells + 1) (slots + N') Q (F0 m (pc + 3) ls (.ref q :: rest))) : W p l e R s m args below meth c H locs cells slots Q (F0 m pc ls (.int n :: rest)) :=
  va_newq hexec hb hown hclink hover hK hP hD hS hA hn hN hbytes hcells hslots hdg (fun q cB H1 hK1 hP1 hD1 hS1 => by
    have h1 : (gT g ++ [(cB, .object C)])[(gT g).length]? = some (cB, .object C) := by simp
    have h2 : cB = cA := z_RAu (hK1.2 _ _ h1).2 (hK.2 t0 _ ht).2
    subst h2
    exact kk q H1 hP1 hD1 hS1)
theorem z_inew {S : Type} (wF : S → va_W) (isC isR : List Nat) {wr : va_W} (hr : va_Run p l e R s m args below meth c H locs cells slots mc ms (F0 m pc ls st0) rest (va_Qv (fun _ => True) (fun u t => va_P (gD g) zCl (wF u) t.heap ∧ va_D (va_A wc H.size) (wF u)) (va_A wc H.size) a) (va_A wc H.size)) (hP : va_P (gD g) zCl ws H) (hD : va_D A ws) (hS : va_S A s.heap H locs) (hA : ∀ q, s.heap.size ≤ q → A q)
    (hC : isC.map (fun i => ws[i]?) = wc.map some) (hR : isR.map (fun i => ws[i]?) = wr.map some) (hn : va_nd isR = true) (hdis : ∀ i ∈ isR, i ∉ isC)
    (kk : ∀ (u : S) (H1 : Heap) (locs1 : List Loc), va_P (gD g) zCl (wr ++ wF u) H1 → va_D A (wr ++ wF u) → va_S A s.heap H1 locs1 → W p l e R s m args below meth c H1 locs1 (cells + mc) (slots + ms) Q (F0 m (pc + 3) ls rest)) : W p l e R s m args below meth c H locs cells slots Q (F0 m pc ls st0) :=
  va_callv hr hS (fun q _ h => va_free hD hS hA isC hC q h) (va_free hD hS hA isC hC) (fun u t H1 locs1 ht _ _ hB _ hk hS' => by
    obtain ⟨h1, h2⟩ := va_join hP hD isC isR hC hR hn hdis hk (va_free hD hS hA isC hC) (by rw [← ht]; exact hB.1) hB.2
    exact kk u H1 locs1 h1 h2 hS')
end ZNEW
