-- a char out of an int; what is thrown, by numbers; rows that stand for two
abbrev zchar (x : Int32) : Int32 := (x.toUInt32 % 65536).toInt32
def xN : Nat → String
  | 0 => "java/lang/IllegalArgumentException"
  | 1 => "java/lang/IllegalStateException"
  | 2 => "java/lang/UnsupportedOperationException"
  | 3 => "java/util/NoSuchElementException"
  | 4 => "java/lang/IndexOutOfBoundsException"
  | _ => "java/lang/ArithmeticException"
theorem z_err {ε α β : Type} {e : ε} {k : α → Option β} {h : ε → Option β} {o : β} (hF : zcase (.error e) k h = some o) : h e = some o := hF
theorem z_okk {ε α β : Type} {a : α} {k : α → Option β} {h : ε → Option β} {o : β} (hF : zcase (.ok a) k h = some o) : k a = some o := hF
theorem z_narb {v : Int32} (h : v = 0 ∨ v = 1) : narrow .boolean (.int v) = .int v ∧ fits .boolean (.int v) = true := by
  rcases h with rfl | rfl <;> exact ⟨rfl, rfl⟩
theorem z_narc {v : Int32} (h : 0 ≤ v ∧ v ≤ 65535) : narrow .char (.int v) = .int v ∧ fits .char (.int v) = true := by
  obtain ⟨h1, h2⟩ := h
  refine ⟨?_, ?_⟩
  · show Value.int v.toUInt32.toUInt16.toUInt32.toInt32 = .int v
    have h4 := Int32.le_iff_toInt_le.mp h2
    have h3 : (65535 : Int32).toInt = 65535 := by decide
    rw [h3] at h4
    rw [← lg_i2c_nf, lg_i2c_word (Int32.le_iff_toInt_le.mp h1) (by omega)]
  · simp [fits, h1, h2]
def zfit6 (f : Nat → Int32) : Bool := (List.range 6).all fun i => decide (0 ≤ f i ∧ f i ≤ 65535)
theorem zfit6_of {f : Nat → Int32} : zfit6 f = true ↔ ∀ i, i < 6 → (0 ≤ f i ∧ f i ≤ 65535) := by
  unfold zfit6
  rw [List.all_eq_true]
  exact ⟨fun h i hi => of_decide_eq_true (h i (List.mem_range.mpr hi)), fun h i hi => decide_eq_true (h i (List.mem_range.mp hi))⟩
theorem z_fit6 {f : Nat → Int32} (h' : zfit6 f = true) : ∀ i, i < Int32.toNatClampNeg 6 → fits .char (.int (f (Int32.toNatClampNeg 0 + i))) = true := by
  have h := zfit6_of.mp h'
  intro i hi
  have h6 : Int32.toNatClampNeg 6 = 6 := by decide
  have h0 : Int32.toNatClampNeg 0 = 0 := by decide
  rw [h6] at hi
  rw [h0, Nat.zero_add]
  exact (z_narc (h i hi)).2
theorem z_thr {g : GG} {s t : State} {H : Heap} {ws : va_W} {A : Nat → Prop} {locs : List Loc} (hP : va_P (gD g) zCl ws H) (hS : va_S A s.heap H locs) (hz : H.size ≤ t.heap.size) (hk : ∀ q : Nat, q < H.size → t.heap[q]? = H[q]?) : va_P (gD g) zCl ws t.heap ∧ va_F A s t :=
  ⟨fun k q h => (hP k q h).kept (hk _ (hP k q h).lt), Nat.le_trans hS.1 hz, fun q h1 h2 => (hk q (Nat.lt_of_lt_of_le h1 hS.1)).trans (hS.2.1 q h1 h2)⟩
theorem zNw_use {s : State} {args : Array Value} (h : ∀ w ∈ zNw, va_Nw w s) : ∀ w ∈ zNw, w.before args s = true := by
  intro w hw
  have hk := (List.mem_filter.mp hw).2
  refine va_Nw.use ?_ (h w hw)
  cases w <;> first | rfl | (cases hk; done)
section ZROWS
variable {p : Program} {l : Launch} {e : Env} {R : Room} {s : State} {m : MethodId} {args : Array Value} {below : List Frame} {meth : Method} {c : Code} {H : Heap} {locs : List Loc} {cells slots : Nat} {Q : State → Prop}
variable {cc : ByteArray} {pc : Nat} {ls : Array Slot} {rest : List Value}
theorem z_lcmp_eq (hexec : p.tables.exec = Jvm.exec) (hb : c.code = cc) {x y : Int64} {off : Int} {tgt : Nat} (h1 : decode cc pc = .ok (.lcmp, 1)) (hdg : decode cc (pc + 1) = .ok (.ifCond .eq off, 3)) (ht : ((pc + 1 : Nat) : Int) + off = (tgt : Int))
    (kt : x = y → W p l e R s m args below meth c H locs cells slots Q (F0 m tgt ls rest)) (kf : ¬ x = y → W p l e R s m args below meth c H locs cells slots Q (F0 m (pc + 1 + 3) ls rest)) : W p l e R s m args below meth c H locs cells slots Q (F0 m pc ls (.long y :: .long x :: rest)) :=
  W.lcmp hexec hb h1 (lv_if_eq hexec hb hdg ht (fun h => kt ((lg_cmp_eq x y).mp h)) (fun h => kf (fun q => h ((lg_cmp_eq x y).mpr q))))
theorem z_lcmp_ne (hexec : p.tables.exec = Jvm.exec) (hb : c.code = cc) {x y : Int64} {off : Int} {tgt : Nat} (h1 : decode cc pc = .ok (.lcmp, 1)) (hdg : decode cc (pc + 1) = .ok (.ifCond .ne off, 3)) (ht : ((pc + 1 : Nat) : Int) + off = (tgt : Int))
    (kt : ¬ x = y → W p l e R s m args below meth c H locs cells slots Q (F0 m tgt ls rest)) (kf : x = y → W p l e R s m args below meth c H locs cells slots Q (F0 m (pc + 1 + 3) ls rest)) : W p l e R s m args below meth c H locs cells slots Q (F0 m pc ls (.long y :: .long x :: rest)) :=
  W.lcmp hexec hb h1 (lv_if_ne hexec hb hdg ht (fun h => kt (fun q => h ((lg_cmp_eq x y).mpr q))) (fun h => kf ((lg_cmp_eq x y).mp h)))
theorem z_lcmp_lt (hexec : p.tables.exec = Jvm.exec) (hb : c.code = cc) {x y : Int64} {off : Int} {tgt : Nat} (h1 : decode cc pc = .ok (.lcmp, 1)) (hdg : decode cc (pc + 1) = .ok (.ifCond .lt off, 3)) (ht : ((pc + 1 : Nat) : Int) + off = (tgt : Int))
    (kt : x < y → W p l e R s m args below meth c H locs cells slots Q (F0 m tgt ls rest)) (kf : ¬ x < y → W p l e R s m args below meth c H locs cells slots Q (F0 m (pc + 1 + 3) ls rest)) : W p l e R s m args below meth c H locs cells slots Q (F0 m pc ls (.long y :: .long x :: rest)) :=
  W.lcmp hexec hb h1 (lv_if_lt hexec hb hdg ht (fun h => kt ((lg_cmp_lt x y).mp h)) (fun h => kf (fun q => h ((lg_cmp_lt x y).mpr q))))
theorem z_lcmp_ge (hexec : p.tables.exec = Jvm.exec) (hb : c.code = cc) {x y : Int64} {off : Int} {tgt : Nat} (h1 : decode cc pc = .ok (.lcmp, 1)) (hdg : decode cc (pc + 1) = .ok (.ifCond .ge off, 3)) (ht : ((pc + 1 : Nat) : Int) + off = (tgt : Int))
    (kt : ¬ x < y → W p l e R s m args below meth c H locs cells slots Q (F0 m tgt ls rest)) (kf : x < y → W p l e R s m args below meth c H locs cells slots Q (F0 m (pc + 1 + 3) ls rest)) : W p l e R s m args below meth c H locs cells slots Q (F0 m pc ls (.long y :: .long x :: rest)) :=
  W.lcmp hexec hb h1 (lv_if_ge hexec hb hdg ht (fun h => kt (Int64.not_lt.mpr ((lg_cmp_ge x y).mp h))) (fun h => kf (Int64.not_le.mp (fun q => h ((lg_cmp_ge x y).mpr q)))))
theorem z_lcmp_gt (hexec : p.tables.exec = Jvm.exec) (hb : c.code = cc) {x y : Int64} {off : Int} {tgt : Nat} (h1 : decode cc pc = .ok (.lcmp, 1)) (hdg : decode cc (pc + 1) = .ok (.ifCond .gt off, 3)) (ht : ((pc + 1 : Nat) : Int) + off = (tgt : Int))
    (kt : y < x → W p l e R s m args below meth c H locs cells slots Q (F0 m tgt ls rest)) (kf : ¬ y < x → W p l e R s m args below meth c H locs cells slots Q (F0 m (pc + 1 + 3) ls rest)) : W p l e R s m args below meth c H locs cells slots Q (F0 m pc ls (.long y :: .long x :: rest)) :=
  W.lcmp hexec hb h1 (lv_if_gt hexec hb hdg ht (fun h => kt ((lg_cmp_gt x y).mp h)) (fun h => kf (fun q => h ((lg_cmp_gt x y).mpr q))))
theorem z_lcmp_le (hexec : p.tables.exec = Jvm.exec) (hb : c.code = cc) {x y : Int64} {off : Int} {tgt : Nat} (h1 : decode cc pc = .ok (.lcmp, 1)) (hdg : decode cc (pc + 1) = .ok (.ifCond .le off, 3)) (ht : ((pc + 1 : Nat) : Int) + off = (tgt : Int))
    (kt : ¬ y < x → W p l e R s m args below meth c H locs cells slots Q (F0 m tgt ls rest)) (kf : y < x → W p l e R s m args below meth c H locs cells slots Q (F0 m (pc + 1 + 3) ls rest)) : W p l e R s m args below meth c H locs cells slots Q (F0 m pc ls (.long y :: .long x :: rest)) :=
  W.lcmp hexec hb h1 (lv_if_le hexec hb hdg ht (fun h => kt (Int64.not_lt.mpr ((lg_cmp_le x y).mp h))) (fun h => kf (Int64.not_le.mp (fun q => h ((lg_cmp_le x y).mpr q)))))
end ZROWS
theorem zin_120 : ∀ w ∈ (vx_atS RX10 120 "java/lang/UnsupportedOperationException" ["java/lang/RuntimeException", "java/lang/Exception"]).filter goodWord, w ∈ wU := by decide +kernel
theorem znn_120 : ∀ w ∈ (vx_atS RX10 120 "java/lang/UnsupportedOperationException" ["java/lang/RuntimeException", "java/lang/Exception"]).filter (fun w => !goodWord w), w ∈ zNw := by decide +kernel
theorem zat_120 {g : GG} {A : Nat → Prop} {s : State} {H : Heap} {args : Array Value} (hts : ∀ w ∈ wU, w.before args s = true) (hB : KB g A s H) : ∀ w ∈ vx_atS RX10 120 "java/lang/UnsupportedOperationException" ["java/lang/RuntimeException", "java/lang/Exception"], w.before args s = true := vx_hat (fun w h => hts w (zin_120 w h)) znn_120 (zNw_use hB.2.1.1)
theorem zgo_120 : ∀ w ∈ Cond.classLink RX10 116 "java/lang/UnsupportedOperationException" :: Cond.initialized "java/lang/UnsupportedOperationException" :: vx_atS RX10 120 "java/lang/UnsupportedOperationException" ["java/lang/RuntimeException", "java/lang/Exception"], vx_ot w = true := by decide +kernel
theorem zin_156 : ∀ w ∈ (vx_atS RX10 156 "java/lang/IllegalArgumentException" ["java/lang/RuntimeException", "java/lang/Exception"]).filter goodWord, w ∈ wU := by decide +kernel
theorem znn_156 : ∀ w ∈ (vx_atS RX10 156 "java/lang/IllegalArgumentException" ["java/lang/RuntimeException", "java/lang/Exception"]).filter (fun w => !goodWord w), w ∈ zNw := by decide +kernel
theorem zat_156 {g : GG} {A : Nat → Prop} {s : State} {H : Heap} {args : Array Value} (hts : ∀ w ∈ wU, w.before args s = true) (hB : KB g A s H) : ∀ w ∈ vx_atS RX10 156 "java/lang/IllegalArgumentException" ["java/lang/RuntimeException", "java/lang/Exception"], w.before args s = true := vx_hat (fun w h => hts w (zin_156 w h)) znn_156 (zNw_use hB.2.1.1)
theorem zgo_156 : ∀ w ∈ Cond.classLink RX10 152 "java/lang/IllegalArgumentException" :: Cond.initialized "java/lang/IllegalArgumentException" :: vx_atS RX10 156 "java/lang/IllegalArgumentException" ["java/lang/RuntimeException", "java/lang/Exception"], vx_ot w = true := by decide +kernel
theorem zin_161 : ∀ w ∈ (vx_atS RX10 161 "java/lang/IllegalStateException" ["java/lang/RuntimeException", "java/lang/Exception"]).filter goodWord, w ∈ wU := by decide +kernel
theorem znn_161 : ∀ w ∈ (vx_atS RX10 161 "java/lang/IllegalStateException" ["java/lang/RuntimeException", "java/lang/Exception"]).filter (fun w => !goodWord w), w ∈ zNw := by decide +kernel
theorem zat_161 {g : GG} {A : Nat → Prop} {s : State} {H : Heap} {args : Array Value} (hts : ∀ w ∈ wU, w.before args s = true) (hB : KB g A s H) : ∀ w ∈ vx_atS RX10 161 "java/lang/IllegalStateException" ["java/lang/RuntimeException", "java/lang/Exception"], w.before args s = true := vx_hat (fun w h => hts w (zin_161 w h)) znn_161 (zNw_use hB.2.1.1)
theorem zgo_161 : ∀ w ∈ Cond.classLink RX10 157 "java/lang/IllegalStateException" :: Cond.initialized "java/lang/IllegalStateException" :: vx_atS RX10 161 "java/lang/IllegalStateException" ["java/lang/RuntimeException", "java/lang/Exception"], vx_ot w = true := by decide +kernel
theorem zin_203 : ∀ w ∈ (vx_atS RX10 203 "java/lang/IndexOutOfBoundsException" ["java/lang/RuntimeException", "java/lang/Exception"]).filter goodWord, w ∈ wU := by decide +kernel
theorem znn_203 : ∀ w ∈ (vx_atS RX10 203 "java/lang/IndexOutOfBoundsException" ["java/lang/RuntimeException", "java/lang/Exception"]).filter (fun w => !goodWord w), w ∈ zNw := by decide +kernel
theorem zat_203 {g : GG} {A : Nat → Prop} {s : State} {H : Heap} {args : Array Value} (hts : ∀ w ∈ wU, w.before args s = true) (hB : KB g A s H) : ∀ w ∈ vx_atS RX10 203 "java/lang/IndexOutOfBoundsException" ["java/lang/RuntimeException", "java/lang/Exception"], w.before args s = true := vx_hat (fun w h => hts w (zin_203 w h)) znn_203 (zNw_use hB.2.1.1)
theorem zgo_203 : ∀ w ∈ Cond.classLink RX10 199 "java/lang/IndexOutOfBoundsException" :: Cond.initialized "java/lang/IndexOutOfBoundsException" :: vx_atS RX10 203 "java/lang/IndexOutOfBoundsException" ["java/lang/RuntimeException", "java/lang/Exception"], vx_ot w = true := by decide +kernel
theorem zin_286 : ∀ w ∈ (vx_atS RX10 286 "java/lang/ArithmeticException" ["java/lang/RuntimeException", "java/lang/Exception"]).filter goodWord, w ∈ wU := by decide +kernel
theorem znn_286 : ∀ w ∈ (vx_atS RX10 286 "java/lang/ArithmeticException" ["java/lang/RuntimeException", "java/lang/Exception"]).filter (fun w => !goodWord w), w ∈ zNw := by decide +kernel
theorem zat_286 {g : GG} {A : Nat → Prop} {s : State} {H : Heap} {args : Array Value} (hts : ∀ w ∈ wU, w.before args s = true) (hB : KB g A s H) : ∀ w ∈ vx_atS RX10 286 "java/lang/ArithmeticException" ["java/lang/RuntimeException", "java/lang/Exception"], w.before args s = true := vx_hat (fun w h => hts w (zin_286 w h)) znn_286 (zNw_use hB.2.1.1)
theorem zgo_286 : ∀ w ∈ Cond.classLink RX10 282 "java/lang/ArithmeticException" :: Cond.initialized "java/lang/ArithmeticException" :: vx_atS RX10 286 "java/lang/ArithmeticException" ["java/lang/RuntimeException", "java/lang/Exception"], vx_ot w = true := by decide +kernel
theorem zin_380 : ∀ w ∈ zx_at.filter goodWord, w ∈ wU := by decide +kernel
theorem znn_380 : ∀ w ∈ zx_at.filter (fun w => !goodWord w), w ∈ zNw := by decide +kernel
theorem zat_380 {g : GG} {A : Nat → Prop} {s : State} {H : Heap} {args : Array Value} (hts : ∀ w ∈ wU, w.before args s = true) (hB : KB g A s H) : ∀ w ∈ zx_at, w.before args s = true := vx_hat (fun w h => hts w (zin_380 w h)) znn_380 (zNw_use hB.2.1.1)
theorem zgo_380 : ∀ w ∈ Cond.classLink RX10 340 "java/util/NoSuchElementException" :: Cond.initialized "java/util/NoSuchElementException" :: zx_at, vx_ot w = true := by decide +kernel
