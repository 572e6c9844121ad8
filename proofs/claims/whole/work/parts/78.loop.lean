set_option maxHeartbeats 4000000 in
set_option maxRecDepth 100000 in
theorem e_disp {p : Program} {e : Env} {s : State} {m : MethodId} {below : List Frame} {meth : Method} {c : Code} (l : Launch) (hl0 : l.stackTraces = false) {b L : Nat} {xs : Nat → Int32} (hx : p.tables.exec = Jvm.exec) (hb : c.code = cL_law) (hml : c.maxLocals = 9) (hown : s.vm.findClass RL = some m.cls) (hts : ∀ w ∈ wU, w.before #[Value.ref b] s = true) (hX : va_X b L xs s s.heap) (hbl : b < s.heap.size) {A : Nat → Prop} (hbA : ¬ A b) (hA : ∀ q, s.heap.size ≤ q → A q) (g : GG) (ad qd : Nat → Nat) (hK : va_K (gD g) zCl (gT g) s) (hB : KB g A s s.heap) (fu : Nat) (z z1 : LW) (i op : Int32) (hF : F_disp fu L xs z i op = some z1) {H : Heap} {locs : List Loc} {ls : Array Slot} {cells slots : Nat} (hc : cells + 51 ≤ 603072) (hsl : slots + 306 ≤ 7170153) (hl : lv_has ls 9 [(5, .int i), (4, .ref (ad 75)), (3, .ref (ad 74)), (2, .ref (qd 0)), (1, .ref (ad 0)), (0, .ref b)]) (hP : va_P (gD g) zCl (wLawT g ad qd z) H) (hD : va_D A (wLawT g ad qd z)) (hS : va_S A s.heap H locs) (kj : ∀ (H : Heap) (locs : List Loc) (ls : Array Slot), lv_has ls 9 [(5, .int i), (4, .ref (ad 75)), (3, .ref (ad 74)), (2, .ref (qd 0)), (1, .ref (ad 0)), (0, .ref b)] → va_P (gD g) zCl (wLawT g ad qd z1) H → va_D A (wLawT g ad qd z1) → va_S A s.heap H locs → W p l e room_1 s m #[Value.ref b] below meth c H locs (cells + 51) (slots + 306) (lw_Z below #[Value.ref b] s) (F0 m 2792 ls [])) : W p l e room_1 s m #[Value.ref b] below meth c H locs cells slots (lw_Z below #[Value.ref b] s) (F0 m 44 ls [.int op]) := by
  unfold F_disp at hF
  by_cases c0 : op = 0
  · have hF := z_pos hF c0
    refine lv_tableIn (tgt := 240) (off := 196) hx hb dL_law_44 (by rw [c0]; decide) (by rw [c0]; decide) (by rw [c0]; rfl) (by decide) ?_
    exact e_law_0 l hl0 hx hb hml hown hts hX hbl hbA hA g ad qd hK hB fu z z1 i hF hc hsl hl hP hD hS kj
  have hF := z_neg hF c0
  by_cases c1 : op = 1
  · have hF := z_pos hF c1
    refine lv_tableIn (tgt := 334) (off := 290) hx hb dL_law_44 (by rw [c1]; decide) (by rw [c1]; decide) (by rw [c1]; rfl) (by decide) ?_
    exact e_law_1 l hl0 hx hb hml hown hts hX hbl hbA hA g ad qd hK hB fu z z1 i hF hc hsl hl hP hD hS kj
  have hF := z_neg hF c1
  by_cases c2 : op = 2
  · have hF := z_pos hF c2
    refine lv_tableIn (tgt := 428) (off := 384) hx hb dL_law_44 (by rw [c2]; decide) (by rw [c2]; decide) (by rw [c2]; rfl) (by decide) ?_
    exact e_law_2 l hl0 hx hb hml hown hts hX hbl hbA hA g ad qd hK hB fu z z1 i hF hc hsl hl hP hD hS kj
  have hF := z_neg hF c2
  by_cases c3 : op = 3
  · have hF := z_pos hF c3
    refine lv_tableIn (tgt := 483) (off := 439) hx hb dL_law_44 (by rw [c3]; decide) (by rw [c3]; decide) (by rw [c3]; rfl) (by decide) ?_
    exact e_law_3 l hl0 hx hb hml hown hts hX hbl hbA hA g ad qd hK hB fu z z1 i hF hc hsl hl hP hD hS kj
  have hF := z_neg hF c3
  by_cases c4 : op = 4
  · have hF := z_pos hF c4
    refine lv_tableIn (tgt := 562) (off := 518) hx hb dL_law_44 (by rw [c4]; decide) (by rw [c4]; decide) (by rw [c4]; rfl) (by decide) ?_
    exact e_law_4 l hl0 hx hb hml hown hts hX hbl hbA hA g ad qd hK hB fu z z1 i hF hc hsl hl hP hD hS kj
  have hF := z_neg hF c4
  by_cases c5 : op = 5
  · have hF := z_pos hF c5
    refine lv_tableIn (tgt := 653) (off := 609) hx hb dL_law_44 (by rw [c5]; decide) (by rw [c5]; decide) (by rw [c5]; rfl) (by decide) ?_
    exact e_law_5 l hl0 hx hb hml hown hts hX hbl hbA hA g ad qd hK hB fu z z1 i hF hc hsl hl hP hD hS kj
  have hF := z_neg hF c5
  by_cases c6 : op = 6
  · have hF := z_pos hF c6
    refine lv_tableIn (tgt := 721) (off := 677) hx hb dL_law_44 (by rw [c6]; decide) (by rw [c6]; decide) (by rw [c6]; rfl) (by decide) ?_
    exact e_law_6 l hl0 hx hb hml hown hts hX hbl hbA hA g ad qd hK hB fu z z1 i hF hc hsl hl hP hD hS kj
  have hF := z_neg hF c6
  by_cases c7 : op = 7
  · have hF := z_pos hF c7
    refine lv_tableIn (tgt := 791) (off := 747) hx hb dL_law_44 (by rw [c7]; decide) (by rw [c7]; decide) (by rw [c7]; rfl) (by decide) ?_
    exact e_law_7 l hl0 hx hb hml hown hts hX hbl hbA hA g ad qd hK hB fu z z1 i hF hc hsl hl hP hD hS kj
  have hF := z_neg hF c7
  by_cases c8 : op = 8
  · have hF := z_pos hF c8
    refine lv_tableIn (tgt := 847) (off := 803) hx hb dL_law_44 (by rw [c8]; decide) (by rw [c8]; decide) (by rw [c8]; rfl) (by decide) ?_
    exact e_law_8 l hl0 hx hb hml hown hts hX hbl hbA hA g ad qd hK hB fu z z1 i hF hc hsl hl hP hD hS kj
  have hF := z_neg hF c8
  by_cases c9 : op = 9
  · have hF := z_pos hF c9
    refine lv_tableIn (tgt := 860) (off := 816) hx hb dL_law_44 (by rw [c9]; decide) (by rw [c9]; decide) (by rw [c9]; rfl) (by decide) ?_
    exact e_law_9 l hl0 hx hb hml hown hts hX hbl hbA hA g ad qd hK hB fu z z1 i hF hc hsl hl hP hD hS kj
  have hF := z_neg hF c9
  by_cases c10 : op = 10
  · have hF := z_pos hF c10
    refine lv_tableIn (tgt := 916) (off := 872) hx hb dL_law_44 (by rw [c10]; decide) (by rw [c10]; decide) (by rw [c10]; rfl) (by decide) ?_
    exact e_law_10 l hl0 hx hb hml hown hts hX hbl hbA hA g ad qd hK hB fu z z1 i hF hc hsl hl hP hD hS kj
  have hF := z_neg hF c10
  by_cases c11 : op = 11
  · have hF := z_pos hF c11
    refine lv_tableIn (tgt := 971) (off := 927) hx hb dL_law_44 (by rw [c11]; decide) (by rw [c11]; decide) (by rw [c11]; rfl) (by decide) ?_
    exact e_law_11 l hl0 hx hb hml hown hts hX hbl hbA hA g ad qd hK hB fu z z1 i hF hc hsl hl hP hD hS kj
  have hF := z_neg hF c11
  by_cases c12 : op = 12
  · have hF := z_pos hF c12
    refine lv_tableIn (tgt := 1027) (off := 983) hx hb dL_law_44 (by rw [c12]; decide) (by rw [c12]; decide) (by rw [c12]; rfl) (by decide) ?_
    exact e_law_12 l hl0 hx hb hml hown hts hX hbl hbA hA g ad qd hK hB fu z z1 i hF hc hsl hl hP hD hS kj
  have hF := z_neg hF c12
  by_cases c13 : op = 13
  · have hF := z_pos hF c13
    refine lv_tableIn (tgt := 1083) (off := 1039) hx hb dL_law_44 (by rw [c13]; decide) (by rw [c13]; decide) (by rw [c13]; rfl) (by decide) ?_
    exact e_law_13 l hl0 hx hb hml hown hts hX hbl hbA hA g ad qd hK hB fu z z1 i hF hc hsl hl hP hD hS kj
  have hF := z_neg hF c13
  by_cases c14 : op = 14
  · have hF := z_pos hF c14
    refine lv_tableIn (tgt := 1151) (off := 1107) hx hb dL_law_44 (by rw [c14]; decide) (by rw [c14]; decide) (by rw [c14]; rfl) (by decide) ?_
    exact e_law_14 l hl0 hx hb hml hown hts hX hbl hbA hA g ad qd hK hB fu z z1 i hF hc hsl hl hP hD hS kj
  have hF := z_neg hF c14
  by_cases c15 : op = 15
  · have hF := z_pos hF c15
    refine lv_tableIn (tgt := 1207) (off := 1163) hx hb dL_law_44 (by rw [c15]; decide) (by rw [c15]; decide) (by rw [c15]; rfl) (by decide) ?_
    exact e_law_15 l hl0 hx hb hml hown hts hX hbl hbA hA g ad qd hK hB fu z z1 i hF hc hsl hl hP hD hS kj
  have hF := z_neg hF c15
  by_cases c16 : op = 16
  · have hF := z_pos hF c16
    refine lv_tableIn (tgt := 1263) (off := 1219) hx hb dL_law_44 (by rw [c16]; decide) (by rw [c16]; decide) (by rw [c16]; rfl) (by decide) ?_
    exact e_law_16 l hl0 hx hb hml hown hts hX hbl hbA hA g ad qd hK hB fu z z1 i hF hc hsl hl hP hD hS kj
  have hF := z_neg hF c16
  by_cases c17 : op = 17
  · have hF := z_pos hF c17
    refine lv_tableIn (tgt := 1344) (off := 1300) hx hb dL_law_44 (by rw [c17]; decide) (by rw [c17]; decide) (by rw [c17]; rfl) (by decide) ?_
    exact e_law_17 l hl0 hx hb hml hown hts hX hbl hbA hA g ad qd hK hB fu z z1 i hF hc hsl hl hP hD hS kj
  have hF := z_neg hF c17
  by_cases c18 : op = 18
  · have hF := z_pos hF c18
    refine lv_tableIn (tgt := 1423) (off := 1379) hx hb dL_law_44 (by rw [c18]; decide) (by rw [c18]; decide) (by rw [c18]; rfl) (by decide) ?_
    exact e_law_18 l hl0 hx hb hml hown hts hX hbl hbA hA g ad qd hK hB fu z z1 i hF hc hsl hl hP hD hS kj
  have hF := z_neg hF c18
  by_cases c19 : op = 19
  · have hF := z_pos hF c19
    refine lv_tableIn (tgt := 1503) (off := 1459) hx hb dL_law_44 (by rw [c19]; decide) (by rw [c19]; decide) (by rw [c19]; rfl) (by decide) ?_
    exact e_law_19 l hl0 hx hb hml hown hts hX hbl hbA hA g ad qd hK hB fu z z1 i hF hc hsl hl hP hD hS kj
  have hF := z_neg hF c19
  by_cases c20 : op = 20
  · have hF := z_pos hF c20
    refine lv_tableIn (tgt := 1583) (off := 1539) hx hb dL_law_44 (by rw [c20]; decide) (by rw [c20]; decide) (by rw [c20]; rfl) (by decide) ?_
    exact e_law_20 l hl0 hx hb hml hown hts hX hbl hbA hA g ad qd hK hB fu z z1 i hF hc hsl hl hP hD hS kj
  have hF := z_neg hF c20
  by_cases c21 : op = 21
  · have hF := z_pos hF c21
    refine lv_tableIn (tgt := 1663) (off := 1619) hx hb dL_law_44 (by rw [c21]; decide) (by rw [c21]; decide) (by rw [c21]; rfl) (by decide) ?_
    exact e_law_21 l hl0 hx hb hml hown hts hX hbl hbA hA g ad qd hK hB fu z z1 i hF hc hsl hl hP hD hS kj
  have hF := z_neg hF c21
  by_cases c22 : op = 22
  · have hF := z_pos hF c22
    refine lv_tableIn (tgt := 1718) (off := 1674) hx hb dL_law_44 (by rw [c22]; decide) (by rw [c22]; decide) (by rw [c22]; rfl) (by decide) ?_
    exact e_law_22 l hl0 hx hb hml hown hts hX hbl hbA hA g ad qd hK hB fu z z1 i hF hc hsl hl hP hD hS kj
  have hF := z_neg hF c22
  by_cases c23 : op = 23
  · have hF := z_pos hF c23
    refine lv_tableIn (tgt := 1773) (off := 1729) hx hb dL_law_44 (by rw [c23]; decide) (by rw [c23]; decide) (by rw [c23]; rfl) (by decide) ?_
    exact e_law_23 l hl0 hx hb hml hown hts hX hbl hbA hA g ad qd hK hB fu z z1 i hF hc hsl hl hP hD hS kj
  have hF := z_neg hF c23
  by_cases c24 : op = 24
  · have hF := z_pos hF c24
    refine lv_tableIn (tgt := 1848) (off := 1804) hx hb dL_law_44 (by rw [c24]; decide) (by rw [c24]; decide) (by rw [c24]; rfl) (by decide) ?_
    exact e_law_24 l hl0 hx hb hml hown hts hX hbl hbA hA g ad qd hK hB fu z z1 i hF hc hsl hl hP hD hS kj
  have hF := z_neg hF c24
  by_cases c25 : op = 25
  · have hF := z_pos hF c25
    refine lv_tableIn (tgt := 1928) (off := 1884) hx hb dL_law_44 (by rw [c25]; decide) (by rw [c25]; decide) (by rw [c25]; rfl) (by decide) ?_
    exact e_law_25 l hl0 hx hb hml hown hts hX hbl hbA hA g ad qd hK hB fu z z1 i hF hc hsl hl hP hD hS kj
  have hF := z_neg hF c25
  by_cases c26 : op = 26
  · have hF := z_pos hF c26
    refine lv_tableIn (tgt := 1996) (off := 1952) hx hb dL_law_44 (by rw [c26]; decide) (by rw [c26]; decide) (by rw [c26]; rfl) (by decide) ?_
    exact e_law_26 l hl0 hx hb hml hown hts hX hbl hbA hA g ad qd hK hB fu z z1 i hF hc hsl hl hP hD hS kj
  have hF := z_neg hF c26
  by_cases c27 : op = 27
  · have hF := z_pos hF c27
    refine lv_tableIn (tgt := 2064) (off := 2020) hx hb dL_law_44 (by rw [c27]; decide) (by rw [c27]; decide) (by rw [c27]; rfl) (by decide) ?_
    exact e_law_27 l hl0 hx hb hml hown hts hX hbl hbA hA g ad qd hK hB fu z z1 i hF hc hsl hl hP hD hS kj
  have hF := z_neg hF c27
  by_cases c28 : op = 28
  · have hF := z_pos hF c28
    refine lv_tableIn (tgt := 2132) (off := 2088) hx hb dL_law_44 (by rw [c28]; decide) (by rw [c28]; decide) (by rw [c28]; rfl) (by decide) ?_
    exact e_law_28 l hl0 hx hb hml hown hts hX hbl hbA hA g ad qd hK hB fu z z1 i hF hc hsl hl hP hD hS kj
  have hF := z_neg hF c28
  by_cases c29 : op = 29
  · have hF := z_pos hF c29
    refine lv_tableIn (tgt := 2146) (off := 2102) hx hb dL_law_44 (by rw [c29]; decide) (by rw [c29]; decide) (by rw [c29]; rfl) (by decide) ?_
    exact e_law_29 l hl0 hx hb hml hown hts hX hbl hbA hA g ad qd hK hB fu z z1 i hF hc hsl hl hP hD hS kj
  have hF := z_neg hF c29
  by_cases c30 : op = 30
  · have hF := z_pos hF c30
    refine lv_tableIn (tgt := 2160) (off := 2116) hx hb dL_law_44 (by rw [c30]; decide) (by rw [c30]; decide) (by rw [c30]; rfl) (by decide) ?_
    exact e_law_30 l hl0 hx hb hml hown hts hX hbl hbA hA g ad qd hK hB fu z z1 i hF hc hsl hl hP hD hS kj
  have hF := z_neg hF c30
  by_cases c31 : op = 31
  · have hF := z_pos hF c31
    refine lv_tableIn (tgt := 2173) (off := 2129) hx hb dL_law_44 (by rw [c31]; decide) (by rw [c31]; decide) (by rw [c31]; rfl) (by decide) ?_
    exact e_law_31 l hl0 hx hb hml hown hts hX hbl hbA hA g ad qd hK hB fu z z1 i hF hc hsl hl hP hD hS kj
  have hF := z_neg hF c31
  by_cases c32 : op = 32
  · have hF := z_pos hF c32
    refine lv_tableIn (tgt := 2187) (off := 2143) hx hb dL_law_44 (by rw [c32]; decide) (by rw [c32]; decide) (by rw [c32]; rfl) (by decide) ?_
    exact e_law_32 l hl0 hx hb hml hown hts hX hbl hbA hA g ad qd hK hB fu z z1 i hF hc hsl hl hP hD hS kj
  have hF := z_neg hF c32
  by_cases c33 : op = 33
  · have hF := z_pos hF c33
    refine lv_tableIn (tgt := 2252) (off := 2208) hx hb dL_law_44 (by rw [c33]; decide) (by rw [c33]; decide) (by rw [c33]; rfl) (by decide) ?_
    exact e_law_33 l hl0 hx hb hml hown hts hX hbl hbA hA g ad qd hK hB fu z z1 i hF hc hsl hl hP hD hS kj
  have hF := z_neg hF c33
  by_cases c34 : op = 34
  · have hF := z_pos hF c34
    refine lv_tableIn (tgt := 2330) (off := 2286) hx hb dL_law_44 (by rw [c34]; decide) (by rw [c34]; decide) (by rw [c34]; rfl) (by decide) ?_
    exact e_law_34 l hl0 hx hb hml hown hts hX hbl hbA hA g ad qd hK hB fu z z1 i hF hc hsl hl hP hD hS kj
  have hF := z_neg hF c34
  by_cases c35 : op = 35
  · have hF := z_pos hF c35
    refine lv_tableIn (tgt := 2343) (off := 2299) hx hb dL_law_44 (by rw [c35]; decide) (by rw [c35]; decide) (by rw [c35]; rfl) (by decide) ?_
    exact e_law_35 l hl0 hx hb hml hown hts hX hbl hbA hA g ad qd hK hB fu z z1 i hF hc hsl hl hP hD hS kj
  have hF := z_neg hF c35
  by_cases c36 : op = 36
  · have hF := z_pos hF c36
    refine lv_tableIn (tgt := 2401) (off := 2357) hx hb dL_law_44 (by rw [c36]; decide) (by rw [c36]; decide) (by rw [c36]; rfl) (by decide) ?_
    exact e_law_36 l hl0 hx hb hml hown hts hX hbl hbA hA g ad qd hK hB fu z z1 i hF hc hsl hl hP hD hS kj
  have hF := z_neg hF c36
  by_cases c37 : op = 37
  · have hF := z_pos hF c37
    refine lv_tableIn (tgt := 2445) (off := 2401) hx hb dL_law_44 (by rw [c37]; decide) (by rw [c37]; decide) (by rw [c37]; rfl) (by decide) ?_
    exact e_law_37 l hl0 hx hb hml hown hts hX hbl hbA hA g ad qd hK hB fu z z1 i hF hc hsl hl hP hD hS kj
  have hF := z_neg hF c37
  by_cases c38 : op = 38
  · have hF := z_pos hF c38
    refine lv_tableIn (tgt := 2489) (off := 2445) hx hb dL_law_44 (by rw [c38]; decide) (by rw [c38]; decide) (by rw [c38]; rfl) (by decide) ?_
    exact e_law_38 l hl0 hx hb hml hown hts hX hbl hbA hA g ad qd hK hB fu z z1 i hF hc hsl hl hP hD hS kj
  have hF := z_neg hF c38
  by_cases c39 : op = 39
  · have hF := z_pos hF c39
    refine lv_tableIn (tgt := 2533) (off := 2489) hx hb dL_law_44 (by rw [c39]; decide) (by rw [c39]; decide) (by rw [c39]; rfl) (by decide) ?_
    exact e_law_39 l hl0 hx hb hml hown hts hX hbl hbA hA g ad qd hK hB fu z z1 i hF hc hsl hl hP hD hS kj
  have hF := z_neg hF c39
  by_cases c40 : op = 40
  · have hF := z_pos hF c40
    refine lv_tableIn (tgt := 2589) (off := 2545) hx hb dL_law_44 (by rw [c40]; decide) (by rw [c40]; decide) (by rw [c40]; rfl) (by decide) ?_
    exact e_law_40 l hl0 hx hb hml hown hts hX hbl hbA hA g ad qd hK hB fu z z1 i hF hc hsl hl hP hD hS kj
  have hF := z_neg hF c40
  by_cases c41 : op = 41
  · have hF := z_pos hF c41
    refine lv_tableIn (tgt := 2657) (off := 2613) hx hb dL_law_44 (by rw [c41]; decide) (by rw [c41]; decide) (by rw [c41]; rfl) (by decide) ?_
    exact e_law_41 l hl0 hx hb hml hown hts hX hbl hbA hA g ad qd hK hB fu z z1 i hF hc hsl hl hP hD hS kj
  have hF := z_neg hF c41
  by_cases c42 : op = 42
  · have hF := z_pos hF c42
    refine lv_tableIn (tgt := 2713) (off := 2669) hx hb dL_law_44 (by rw [c42]; decide) (by rw [c42]; decide) (by rw [c42]; rfl) (by decide) ?_
    exact e_law_42 l hl0 hx hb hml hown hts hX hbl hbA hA g ad qd hK hB fu z z1 i hF hc hsl hl hP hD hS kj
  have hF := z_neg hF c42
  by_cases c43 : op = 43
  · have hF := z_pos hF c43
    refine lv_tableIn (tgt := 2757) (off := 2713) hx hb dL_law_44 (by rw [c43]; decide) (by rw [c43]; decide) (by rw [c43]; rfl) (by decide) ?_
    exact e_law_43 l hl0 hx hb hml hown hts hX hbl hbA hA g ad qd hK hB fu z z1 i hF hc hsl hl hP hD hS kj
  have hF := z_neg hF c43
  by_cases c44 : op = 44
  · have hF := z_pos hF c44
    refine lv_tableIn (tgt := 2768) (off := 2724) hx hb dL_law_44 (by rw [c44]; decide) (by rw [c44]; decide) (by rw [c44]; rfl) (by decide) ?_
    exact e_law_44 l hl0 hx hb hml hown hts hX hbl hbA hA g ad qd hK hB fu z z1 i hF hc hsl hl hP hD hS kj
  have hF := z_neg hF c44
  have ho := (Option.some.inj hF).symm
  subst ho
  refine lv_tableOut (tgt := 2792) hx hb dL_law_44 (by have h0 : (op : Int32).toInt ≠ 0 := fun h => c0 (Int32.toInt_inj.mp h); have h1 : (op : Int32).toInt ≠ 1 := fun h => c1 (Int32.toInt_inj.mp h); have h2 : (op : Int32).toInt ≠ 2 := fun h => c2 (Int32.toInt_inj.mp h); have h3 : (op : Int32).toInt ≠ 3 := fun h => c3 (Int32.toInt_inj.mp h); have h4 : (op : Int32).toInt ≠ 4 := fun h => c4 (Int32.toInt_inj.mp h); have h5 : (op : Int32).toInt ≠ 5 := fun h => c5 (Int32.toInt_inj.mp h); have h6 : (op : Int32).toInt ≠ 6 := fun h => c6 (Int32.toInt_inj.mp h); have h7 : (op : Int32).toInt ≠ 7 := fun h => c7 (Int32.toInt_inj.mp h); have h8 : (op : Int32).toInt ≠ 8 := fun h => c8 (Int32.toInt_inj.mp h); have h9 : (op : Int32).toInt ≠ 9 := fun h => c9 (Int32.toInt_inj.mp h); have h10 : (op : Int32).toInt ≠ 10 := fun h => c10 (Int32.toInt_inj.mp h); have h11 : (op : Int32).toInt ≠ 11 := fun h => c11 (Int32.toInt_inj.mp h); have h12 : (op : Int32).toInt ≠ 12 := fun h => c12 (Int32.toInt_inj.mp h); have h13 : (op : Int32).toInt ≠ 13 := fun h => c13 (Int32.toInt_inj.mp h); have h14 : (op : Int32).toInt ≠ 14 := fun h => c14 (Int32.toInt_inj.mp h); have h15 : (op : Int32).toInt ≠ 15 := fun h => c15 (Int32.toInt_inj.mp h); have h16 : (op : Int32).toInt ≠ 16 := fun h => c16 (Int32.toInt_inj.mp h); have h17 : (op : Int32).toInt ≠ 17 := fun h => c17 (Int32.toInt_inj.mp h); have h18 : (op : Int32).toInt ≠ 18 := fun h => c18 (Int32.toInt_inj.mp h); have h19 : (op : Int32).toInt ≠ 19 := fun h => c19 (Int32.toInt_inj.mp h); have h20 : (op : Int32).toInt ≠ 20 := fun h => c20 (Int32.toInt_inj.mp h); have h21 : (op : Int32).toInt ≠ 21 := fun h => c21 (Int32.toInt_inj.mp h); have h22 : (op : Int32).toInt ≠ 22 := fun h => c22 (Int32.toInt_inj.mp h); have h23 : (op : Int32).toInt ≠ 23 := fun h => c23 (Int32.toInt_inj.mp h); have h24 : (op : Int32).toInt ≠ 24 := fun h => c24 (Int32.toInt_inj.mp h); have h25 : (op : Int32).toInt ≠ 25 := fun h => c25 (Int32.toInt_inj.mp h); have h26 : (op : Int32).toInt ≠ 26 := fun h => c26 (Int32.toInt_inj.mp h); have h27 : (op : Int32).toInt ≠ 27 := fun h => c27 (Int32.toInt_inj.mp h); have h28 : (op : Int32).toInt ≠ 28 := fun h => c28 (Int32.toInt_inj.mp h); have h29 : (op : Int32).toInt ≠ 29 := fun h => c29 (Int32.toInt_inj.mp h); have h30 : (op : Int32).toInt ≠ 30 := fun h => c30 (Int32.toInt_inj.mp h); have h31 : (op : Int32).toInt ≠ 31 := fun h => c31 (Int32.toInt_inj.mp h); have h32 : (op : Int32).toInt ≠ 32 := fun h => c32 (Int32.toInt_inj.mp h); have h33 : (op : Int32).toInt ≠ 33 := fun h => c33 (Int32.toInt_inj.mp h); have h34 : (op : Int32).toInt ≠ 34 := fun h => c34 (Int32.toInt_inj.mp h); have h35 : (op : Int32).toInt ≠ 35 := fun h => c35 (Int32.toInt_inj.mp h); have h36 : (op : Int32).toInt ≠ 36 := fun h => c36 (Int32.toInt_inj.mp h); have h37 : (op : Int32).toInt ≠ 37 := fun h => c37 (Int32.toInt_inj.mp h); have h38 : (op : Int32).toInt ≠ 38 := fun h => c38 (Int32.toInt_inj.mp h); have h39 : (op : Int32).toInt ≠ 39 := fun h => c39 (Int32.toInt_inj.mp h); have h40 : (op : Int32).toInt ≠ 40 := fun h => c40 (Int32.toInt_inj.mp h); have h41 : (op : Int32).toInt ≠ 41 := fun h => c41 (Int32.toInt_inj.mp h); have h42 : (op : Int32).toInt ≠ 42 := fun h => c42 (Int32.toInt_inj.mp h); have h43 : (op : Int32).toInt ≠ 43 := fun h => c43 (Int32.toInt_inj.mp h); have h44 : (op : Int32).toInt ≠ 44 := fun h => c44 (Int32.toInt_inj.mp h); omega) (by decide) ?_
  exact W.widen (k := cells + 51) (n := slots + 306) (by omega) (by omega) (kj _ _ _ hl hP hD hS)
set_option maxHeartbeats 4000000 in
set_option maxRecDepth 100000 in
theorem e_loop {p : Program} {e : Env} {s : State} {m : MethodId} {below : List Frame} {meth : Method} {c : Code} (l : Launch) (hl0 : l.stackTraces = false) {b L : Nat} {xs : Nat → Int32} (hx : p.tables.exec = Jvm.exec) (hb : c.code = cL_law) (hml : c.maxLocals = 9) (hown : s.vm.findClass RL = some m.cls) (hts : ∀ w ∈ wU, w.before #[Value.ref b] s = true) (hX : va_X b L xs s s.heap) (hbl : b < s.heap.size) {A : Nat → Prop} (hbA : ¬ A b) (hA : ∀ q, s.heap.size ≤ q → A q) (g : GG) (ad qd : Nat → Nat) (hK : va_K (gD g) zCl (gT g) s) (hB : KB g A s s.heap) (fu : Nat) (hAf : ∀ q, A q → s.heap.size ≤ q) (hr : meth.sig.returnType = ret) (hlocks : meth.locks = false) : ∀ (n k : Nat) (z : LW) (i : Int32), k + n ≤ 513 → F_loop fu L xs n z i = some () → ∀ (H : Heap) (locs : List Loc) (ls : Array Slot), lv_has ls 9 [(5, .int i), (4, .ref (ad 75)), (3, .ref (ad 74)), (2, .ref (qd 0)), (1, .ref (ad 0)), (0, .ref b)] → va_P (gD g) zCl (wLawT g ad qd z) H → va_D A (wLawT g ad qd z) → va_S A s.heap H locs → W p l e room_1 s m #[Value.ref b] below meth c H locs (89 + 51 * k) (3461 + 306 * k) (lw_Z below #[Value.ref b] s) (F0 m 28 ls []) := by
  intro n
  induction n with
  | zero =>
    intro k z i hk hF
    exact absurd hF (by simp [F_loop])
  | succ n ih =>
    intro k z i hk hF H locs ls hl hP hD hS
    unfold F_loop at hF
    refine lv_iload hx hb dL_law_28 (lv_at hl 0 rfl) ?_
    refine lv_aload_n hx hb dL_law_30 rfl (lv_at hl 5 rfl) ?_
    refine va_slen hx hb hX hbl hbA hS dL_law_31 ?_
    refine lv_iconst (v := 5) hx hb dL_law_32 (by decide) ?_
    refine lv_isub hx hb dL_law_33 ?_
    refine lv_icmp_gt (tgt := 2798) hx hb dL_law_34 (by decide) (fun zc => ?_) (fun zc => ?_)
    · refine lv_iconst (v := 1) hx hb dL_law_2798 (by decide) ?_
      refine W.widen (k := 603072) (n := 7170153) (by omega) (by omega) ?_
      refine va_forget (fun q hq => hAf _ (hS.2.2 q hq)) ?_
      exact lw_ret (Drawn.sameBut.refl s.drawn lw_cs) hx hb hr hlocks dL_law_2799
    · have hF := z_neg hF zc
      obtain ⟨zg, hF⟩ := z_grd hF
      obtain ⟨z1, hz1, hF⟩ := z_bind hF
      refine lv_aload_n hx hb dL_law_37 rfl (lv_at hl 5 rfl) ?_
      refine lv_iload hx hb dL_law_38 (lv_at hl 0 rfl) ?_
      refine va_sld hx hb hX hbl hbA hS zg dL_law_40 ?_
      refine lv_bipush (v := 63) hx hb dL_law_41 (by decide) ?_
      refine lv_iand hx hb dL_law_43 ?_
      refine e_disp l hl0 hx hb hml hown hts hX hbl hbA hA g ad qd hK hB fu z z1 i _ hz1 (by omega) (by omega) hl hP hD hS (fun H locs ls hl hP hD hS => ?_)
      refine lv_iinc (v := i + 5) (lv' := [(5, .int (i + 5)), (4, .ref (ad 75)), (3, .ref (ad 74)), (2, .ref (qd 0)), (1, .ref (ad 0)), (0, .ref b)]) hx hb dL_law_2792 hl (k := 0) rfl (by rfl) (by decide) rfl (fun ls hl => ?_)
      refine lv_goto (tgt := 28) hx hb dL_law_2795 (by decide) ?_
      refine W.widen (k := 89 + 51 * (k + 1)) (n := 3461 + 306 * (k + 1)) (by omega) (by omega) ?_
      exact ih (k + 1) z1 (i + 5) (by omega) hF H locs ls hl hP hD hS
