-- the root world at an index: the commands, the slots
theorem wRoot_cmd {g : GG} {ad : Nat → Nat} {st : SS} {sv : SS} {isS : Int32} {hst : Nat → SS} {spare : Int32} {undo : Int32} {seen : Nat → Int32} {dbef : Int32} {drec : Int32} {ptx : Nat → Int32} {plen : Int32} {ppos : Int32} {pcnt : Int32} {cmds : Nat → CC} {stE : Int32} {stF : Int32} {lch : Nat → Int32} {llen : Int32} {j : Nat} (h : j < 9) : (wRoot g ad st sv isS hst spare undo seen dbef drec ptx plen ppos pcnt cmds stE stF lch llen)[63 + j]? = some (ad (63 + j), .inr (0, [.ref (gaE g (k_kind (cmds j))), .int (k_first (cmds j)), .int (k_second (cmds j)), .int (k_whole (cmds j)), .int (k_frac (cmds j)), .int (k_scale (cmds j)), .int (k_mode (cmds j))])) := by
  have h9 : j = 0 ∨ j = 1 ∨ j = 2 ∨ j = 3 ∨ j = 4 ∨ j = 5 ∨ j = 6 ∨ j = 7 ∨ j = 8 := by omega
  rcases h9 with rfl | rfl | rfl | rfl | rfl | rfl | rfl | rfl | rfl <;> rfl
theorem wRoot_cmdC {g : GG} {ad : Nat → Nat} {st : SS} {sv : SS} {isS : Int32} {hst : Nat → SS} {spare : Int32} {undo : Int32} {seen : Nat → Int32} {dbef : Int32} {drec : Int32} {ptx : Nat → Int32} {plen : Int32} {ppos : Int32} {pcnt : Int32} {cmds : Nat → CC} {stE : Int32} {stF : Int32} {lch : Nat → Int32} {llen : Int32} {j : Nat} (h : j < 9) : [60, 61, 63 + j].map (fun i => (wRoot g ad st sv isS hst spare undo seen dbef drec ptx plen ppos pcnt cmds stE stF lch llen)[i]?) = (wPC g (ad 60) (ad 61) (ad 62) (ad (63 + j)) ptx plen ppos pcnt (cmds j)).map some := by
  have h9 : j = 0 ∨ j = 1 ∨ j = 2 ∨ j = 3 ∨ j = 4 ∨ j = 5 ∨ j = 6 ∨ j = 7 ∨ j = 8 := by omega
  rcases h9 with rfl | rfl | rfl | rfl | rfl | rfl | rfl | rfl | rfl <;> rfl
theorem wRoot_cmdN {j : Nat} (h : j < 9) : va_nd [60, 61, 63 + j] = true := by
  have h9 : j = 0 ∨ j = 1 ∨ j = 2 ∨ j = 3 ∨ j = 4 ∨ j = 5 ∨ j = 6 ∨ j = 7 ∨ j = 8 := by omega
  rcases h9 with rfl | rfl | rfl | rfl | rfl | rfl | rfl | rfl | rfl <;> rfl
theorem wRoot_cmdS {g : GG} {ad : Nat → Nat} {st : SS} {sv : SS} {isS : Int32} {hst : Nat → SS} {spare : Int32} {undo : Int32} {seen : Nat → Int32} {dbef : Int32} {drec : Int32} {ptx : Nat → Int32} {plen : Int32} {ppos : Int32} {pcnt : Int32} {cmds : Nat → CC} {stE : Int32} {stF : Int32} {lch : Nat → Int32} {llen : Int32} {j : Nat} (h : j < 9) (pp : Int32) (cc : CC) : zset (wRoot g ad st sv isS hst spare undo seen dbef drec ptx plen ppos pcnt cmds stE stF lch llen) [60, 61, 63 + j] (wPC g (ad 60) (ad 61) (ad 62) (ad (63 + j)) ptx plen pp pcnt cc) = (wRoot g ad st sv isS hst spare undo seen dbef drec ptx plen pp pcnt (fun i => if i = j then cc else cmds i) stE stF lch llen) := by
  have h9 : j = 0 ∨ j = 1 ∨ j = 2 ∨ j = 3 ∨ j = 4 ∨ j = 5 ∨ j = 6 ∨ j = 7 ∨ j = 8 := by omega
  rcases h9 with rfl | rfl | rfl | rfl | rfl | rfl | rfl | rfl | rfl <;> rfl
theorem wRoot_slC {g : GG} {ad : Nat → Nat} {st : SS} {sv : SS} {isS : Int32} {hst : Nat → SS} {spare : Int32} {undo : Int32} {seen : Nat → Int32} {dbef : Int32} {drec : Int32} {ptx : Nat → Int32} {plen : Int32} {ppos : Int32} {pcnt : Int32} {cmds : Nat → CC} {stE : Int32} {stF : Int32} {lch : Nat → Int32} {llen : Int32} {j : Nat} (h : j < 9) : [13 + 5 * j, 14 + 5 * j, 15 + 5 * j, 16 + 5 * j, 17 + 5 * j, 1, 2, 3, 4, 5].map (fun i => (wRoot g ad st sv isS hst spare undo seen dbef drec ptx plen ppos pcnt cmds stE stF lch llen)[i]?) = (wState2 g (ad (13 + 5 * j)) (ad (14 + 5 * j)) (ad (15 + 5 * j)) (ad (16 + 5 * j)) (ad (17 + 5 * j)) (ad 1) (ad 2) (ad 3) (ad 4) (ad 5) (hst j) st).map some := by
  have h9 : j = 0 ∨ j = 1 ∨ j = 2 ∨ j = 3 ∨ j = 4 ∨ j = 5 ∨ j = 6 ∨ j = 7 ∨ j = 8 := by omega
  rcases h9 with rfl | rfl | rfl | rfl | rfl | rfl | rfl | rfl | rfl <;> rfl
theorem wRoot_slN {j : Nat} (h : j < 9) : va_nd [13 + 5 * j, 14 + 5 * j, 15 + 5 * j, 16 + 5 * j, 17 + 5 * j, 1, 2, 3, 4, 5] = true := by
  have h9 : j = 0 ∨ j = 1 ∨ j = 2 ∨ j = 3 ∨ j = 4 ∨ j = 5 ∨ j = 6 ∨ j = 7 ∨ j = 8 := by omega
  rcases h9 with rfl | rfl | rfl | rfl | rfl | rfl | rfl | rfl | rfl <;> rfl
theorem wRoot_slS {g : GG} {ad : Nat → Nat} {st : SS} {sv : SS} {isS : Int32} {hst : Nat → SS} {spare : Int32} {undo : Int32} {seen : Nat → Int32} {dbef : Int32} {drec : Int32} {ptx : Nat → Int32} {plen : Int32} {ppos : Int32} {pcnt : Int32} {cmds : Nat → CC} {stE : Int32} {stF : Int32} {lch : Nat → Int32} {llen : Int32} {j : Nat} (h : j < 9) (z : SS) : zset (wRoot g ad st sv isS hst spare undo seen dbef drec ptx plen ppos pcnt cmds stE stF lch llen) [13 + 5 * j, 14 + 5 * j, 15 + 5 * j, 16 + 5 * j, 17 + 5 * j, 1, 2, 3, 4, 5] (wState2 g (ad (13 + 5 * j)) (ad (14 + 5 * j)) (ad (15 + 5 * j)) (ad (16 + 5 * j)) (ad (17 + 5 * j)) (ad 1) (ad 2) (ad 3) (ad 4) (ad 5) z st) = (wRoot g ad st sv isS (fun i => if i = j then z else hst i) spare undo seen dbef drec ptx plen ppos pcnt cmds stE stF lch llen) := by
  have h9 : j = 0 ∨ j = 1 ∨ j = 2 ∨ j = 3 ∨ j = 4 ∨ j = 5 ∨ j = 6 ∨ j = 7 ∨ j = 8 := by omega
  rcases h9 with rfl | rfl | rfl | rfl | rfl | rfl | rfl | rfl | rfl <;> rfl
theorem wRoot_tbC {g : GG} {ad : Nat → Nat} {st : SS} {sv : SS} {isS : Int32} {hst : Nat → SS} {spare : Int32} {undo : Int32} {seen : Nat → Int32} {dbef : Int32} {drec : Int32} {ptx : Nat → Int32} {plen : Int32} {ppos : Int32} {pcnt : Int32} {cmds : Nat → CC} {stE : Int32} {stF : Int32} {lch : Nat → Int32} {llen : Int32} {j : Nat} (h : j < 9) : [1, 2, 3, 4, 5, 13 + 5 * j, 14 + 5 * j, 15 + 5 * j, 16 + 5 * j, 17 + 5 * j].map (fun i => (wRoot g ad st sv isS hst spare undo seen dbef drec ptx plen ppos pcnt cmds stE stF lch llen)[i]?) = (wState2 g (ad 1) (ad 2) (ad 3) (ad 4) (ad 5) (ad (13 + 5 * j)) (ad (14 + 5 * j)) (ad (15 + 5 * j)) (ad (16 + 5 * j)) (ad (17 + 5 * j)) st (hst j)).map some := by
  have h9 : j = 0 ∨ j = 1 ∨ j = 2 ∨ j = 3 ∨ j = 4 ∨ j = 5 ∨ j = 6 ∨ j = 7 ∨ j = 8 := by omega
  rcases h9 with rfl | rfl | rfl | rfl | rfl | rfl | rfl | rfl | rfl <;> rfl
theorem wRoot_tbN {j : Nat} (h : j < 9) : va_nd [1, 2, 3, 4, 5, 13 + 5 * j, 14 + 5 * j, 15 + 5 * j, 16 + 5 * j, 17 + 5 * j] = true := by
  have h9 : j = 0 ∨ j = 1 ∨ j = 2 ∨ j = 3 ∨ j = 4 ∨ j = 5 ∨ j = 6 ∨ j = 7 ∨ j = 8 := by omega
  rcases h9 with rfl | rfl | rfl | rfl | rfl | rfl | rfl | rfl | rfl <;> rfl
theorem wRoot_tbS {g : GG} {ad : Nat → Nat} {st : SS} {sv : SS} {isS : Int32} {hst : Nat → SS} {spare : Int32} {undo : Int32} {seen : Nat → Int32} {dbef : Int32} {drec : Int32} {ptx : Nat → Int32} {plen : Int32} {ppos : Int32} {pcnt : Int32} {cmds : Nat → CC} {stE : Int32} {stF : Int32} {lch : Nat → Int32} {llen : Int32} {j : Nat} (h : j < 9) (z : SS) : zset (wRoot g ad st sv isS hst spare undo seen dbef drec ptx plen ppos pcnt cmds stE stF lch llen) [1, 2, 3, 4, 5, 13 + 5 * j, 14 + 5 * j, 15 + 5 * j, 16 + 5 * j, 17 + 5 * j] (wState2 g (ad 1) (ad 2) (ad 3) (ad 4) (ad 5) (ad (13 + 5 * j)) (ad (14 + 5 * j)) (ad (15 + 5 * j)) (ad (16 + 5 * j)) (ad (17 + 5 * j)) z (hst j)) = (wRoot g ad z sv isS hst spare undo seen dbef drec ptx plen ppos pcnt cmds stE stF lch llen) := by
  have h9 : j = 0 ∨ j = 1 ∨ j = 2 ∨ j = 3 ∨ j = 4 ∨ j = 5 ∨ j = 6 ∨ j = 7 ∨ j = 8 := by omega
  rcases h9 with rfl | rfl | rfl | rfl | rfl | rfl | rfl | rfl | rfl <;> rfl
theorem wRoot_slot {g : GG} {ad : Nat → Nat} {st : SS} {sv : SS} {isS : Int32} {hst : Nat → SS} {spare : Int32} {undo : Int32} {seen : Nat → Int32} {dbef : Int32} {drec : Int32} {ptx : Nat → Int32} {plen : Int32} {ppos : Int32} {pcnt : Int32} {cmds : Nat → CC} {stE : Int32} {stF : Int32} {lch : Nat → Int32} {llen : Int32} {j : Nat} (h : j < 9) : (wRoot g ad st sv isS hst spare undo seen dbef drec ptx plen ppos pcnt cmds stE stF lch llen)[13 + 5 * j]? = some (ad (13 + 5 * j), .inr (5, [.ref (ad (14 + 5 * j)), .ref (ad (15 + 5 * j)), .ref (ad (16 + 5 * j)), .ref (ad (17 + 5 * j)), .int (s_cnt (hst j)), .int (s_nxt (hst j)), .int (s_esc (hst j)), .long (s_fal (hst j)), .long (s_add (hst j)), .long (s_fed (hst j)), .long (s_rem (hst j))])) := by
  have h9 : j = 0 ∨ j = 1 ∨ j = 2 ∨ j = 3 ∨ j = 4 ∨ j = 5 ∨ j = 6 ∨ j = 7 ∨ j = 8 := by omega
  rcases h9 with rfl | rfl | rfl | rfl | rfl | rfl | rfl | rfl | rfl <;> rfl
def zopt {α β : Type} (x : Option α) (a : Option β) (k : α → Option β) : Option β := match x with
  | none => a
  | some y => k y
theorem z_opt {α β : Type} {x : Option α} {a : Option β} {k : α → Option β} {o : β} (h : zopt x a k = some o) : (x = none ∧ a = some o) ∨ ∃ y, x = some y ∧ k y = some o := by
  cases x with
  | none => exact Or.inl ⟨rfl, h⟩
  | some y => exact Or.inr ⟨y, rfl, h⟩
section ZE
variable {p : Program} {l : Launch} {e : Env} {R : Room} {s : State} {m : MethodId} {args : Array Value} {below : List Frame} {meth : Method} {c : Code} {H : Heap} {locs : List Loc} {cells slots : Nat} {Q : State → Prop}
variable {pc : Nat} {ls : Array Slot} {rest st0 : List Value} {g : GG} {A : Nat → Prop} {ws wc : va_W} {a : Array Value} {mc ms : Nat}
theorem z_calle {S : Type} {post : Option Nat → S → Prop} (wF : S → va_W) (isC : List Nat) (hr : va_Run p l e R s m args below meth c H locs cells slots mc ms (F0 m pc ls st0) rest (va_Qe (gaE g) post (fun u t => va_P (gD g) zCl (wF u) t.heap) (va_A wc H.size) a) (va_A wc H.size)) (hP : va_P (gD g) zCl ws H) (hD : va_D A ws) (hS : va_S A s.heap H locs) (hA : ∀ q, s.heap.size ≤ q → A q)
    (hC : isC.map (fun i => ws[i]?) = wc.map some) (ha : ∀ u, (wF u).map Prod.fst = wc.map Prod.fst)
    (kk : ∀ (r : Option Nat) (u : S) (H1 : Heap) (locs1 : List Loc), post r u → va_P (gD g) zCl (zset ws isC (wF u)) H1 → va_D A (zset ws isC (wF u)) → va_S A s.heap H1 locs1 → W p l e R s m args below meth c H1 locs1 (cells + mc) (slots + ms) Q (F0 m (pc + 3) ls (va_re (gaE g) r :: rest))) : W p l e R s m args below meth c H locs cells slots Q (F0 m pc ls st0) :=
  va_calle hr hS (fun q _ h => va_free hD hS hA isC hC q h) (va_free hD hS hA isC hC) (fun r u t H1 locs1 ht _ hw hB _ hk hS' => by
    obtain ⟨h1, h2⟩ := zjoin hP hD isC hC (ha u) hk (by rw [← ht]; exact hB)
    exact kk r u H1 locs1 hw h1 h2 hS')
theorem z_topn {x : Option Nat} (h : x = none) (k : W p l e R s m args below meth c H locs cells slots Q (F0 m pc ls (.null :: rest))) : W p l e R s m args below meth c H locs cells slots Q (F0 m pc ls (va_re (gaE g) x :: rest)) := by
  subst h
  exact k
theorem z_tops {x : Option Nat} {y : Nat} (h : x = some y) (k : W p l e R s m args below meth c H locs cells slots Q (F0 m pc ls (.ref (gaE g y) :: rest))) : W p l e R s m args below meth c H locs cells slots Q (F0 m pc ls (va_re (gaE g) x :: rest)) := by
  subst h
  exact k
end ZE
theorem gdUU {own C owner : String} {idx : Nat} {x y : MethodName} {w : Cond} (h1 : Cond.methodLink own idx x ∈ wU) (h2 : Cond.sameMethod x.cls owner x.name x.desc ∈ wU) (h3 : Cond.selects C x y ∈ wU) (h4 : Cond.instanceMethod y ∈ wU) (h5 : Cond.initialized y.cls ∈ wU) (h6 : w ∈ wU) : GoodIn wU (va_wsU own idx C owner x y (w :: wU)) :=
  fun v hv => (List.mem_append.mp hv).elim (fun h => by
    rcases List.mem_cons.mp h with rfl | h
    · exact gdW h1
    · rcases List.mem_cons.mp h with rfl | h
      · exact gdW h2
      · rcases List.mem_cons.mp h with rfl | h
        · exact gdW h3
        · rcases List.mem_cons.mp h with rfl | h
          · exact gdW h4
          · rcases List.mem_cons.mp h with rfl | h
            · exact gdW h5
            · exact absurd h List.not_mem_nil) (gdU h6 v)
