abbrev SS : Type := (Nat → Int32) × (Nat → Int64) × (Nat → Int32) × (Nat → Int32) × Int32 × Int32 × Int32 × Int64 × Int64 × Int64 × Int64
abbrev s_ids (z : SS) : Nat → Int32 := z.1
abbrev s_vals (z : SS) : Nat → Int64 := z.2.1
abbrev s_scs (z : SS) : Nat → Int32 := z.2.2.1
abbrev s_mds (z : SS) : Nat → Int32 := z.2.2.2.1
abbrev s_cnt (z : SS) : Int32 := z.2.2.2.2.1
abbrev s_nxt (z : SS) : Int32 := z.2.2.2.2.2.1
abbrev s_esc (z : SS) : Int32 := z.2.2.2.2.2.2.1
abbrev s_fal (z : SS) : Int64 := z.2.2.2.2.2.2.2.1
abbrev s_add (z : SS) : Int64 := z.2.2.2.2.2.2.2.2.1
abbrev s_fed (z : SS) : Int64 := z.2.2.2.2.2.2.2.2.2.1
abbrev s_rem (z : SS) : Int64 := z.2.2.2.2.2.2.2.2.2.2
abbrev CC : Type := Nat × Int32 × Int32 × Int32 × Int32 × Int32 × Int32
abbrev k_kind (z : CC) : Nat := z.1
abbrev k_first (z : CC) : Int32 := z.2.1
abbrev k_second (z : CC) : Int32 := z.2.2.1
abbrev k_whole (z : CC) : Int32 := z.2.2.2.1
abbrev k_frac (z : CC) : Int32 := z.2.2.2.2.1
abbrev k_scale (z : CC) : Int32 := z.2.2.2.2.2.1
abbrev k_mode (z : CC) : Int32 := z.2.2.2.2.2.2
abbrev wState (g : GG) (a0 a1 a2 a3 a4 : Nat) (st : SS) : va_W := [(a0, .inr (5, [.ref a1, .ref a2, .ref a3, .ref a4, .int (s_cnt st), .int (s_nxt st), .int (s_esc st), .long (s_fal st), .long (s_add st), .long (s_fed st), .long (s_rem st)])), (a1, .inl (gcI g, 6, .inl (s_ids st))), (a2, .inl (gcJ g, 6, .inr (.inl (s_vals st)))), (a3, .inl (gcI g, 6, .inl (s_scs st))), (a4, .inl (gcC g, 6, .inl (s_mds st)))]
abbrev wState2 (g : GG) (a0 a1 a2 a3 a4 b0 b1 b2 b3 b4 : Nat) (st : SS) (su : SS) : va_W := [(a0, .inr (5, [.ref a1, .ref a2, .ref a3, .ref a4, .int (s_cnt st), .int (s_nxt st), .int (s_esc st), .long (s_fal st), .long (s_add st), .long (s_fed st), .long (s_rem st)])), (a1, .inl (gcI g, 6, .inl (s_ids st))), (a2, .inl (gcJ g, 6, .inr (.inl (s_vals st)))), (a3, .inl (gcI g, 6, .inl (s_scs st))), (a4, .inl (gcC g, 6, .inl (s_mds st))), (b0, .inr (5, [.ref b1, .ref b2, .ref b3, .ref b4, .int (s_cnt su), .int (s_nxt su), .int (s_esc su), .long (s_fal su), .long (s_add su), .long (s_fed su), .long (s_rem su)])), (b1, .inl (gcI g, 6, .inl (s_ids su))), (b2, .inl (gcJ g, 6, .inr (.inl (s_vals su)))), (b3, .inl (gcI g, 6, .inl (s_scs su))), (b4, .inl (gcC g, 6, .inl (s_mds su)))]
abbrev wLD (g : GG) (d0 d1 : Nat) (seen : Nat → Int32) (dbef : Int32) (drec : Int32) : va_W := [(d0, .inr (3, [.ref d1, .int dbef, .int drec])), (d1, .inl (gcI g, 1000, .inl seen))]
abbrev wLine (g : GG) (e0 e1 : Nat) (lch : Nat → Int32) (llen : Int32) : va_W := [(e0, .inr (2, [.ref e1, .int llen])), (e1, .inl (gcC g, 64, .inl lch))]
abbrev wPT (g : GG) (p0 p1 p2 : Nat) (ptx : Nat → Int32) (plen : Int32) (ppos : Int32) (pcnt : Int32) : va_W := [(p0, .inr (4, [.ref p1, .int plen, .int ppos, .ref p2, .int pcnt])), (p1, .inl (gcC g, 60, .inl ptx))]
abbrev wPC (g : GG) (p0 p1 p2 k0 : Nat) (ptx : Nat → Int32) (plen : Int32) (ppos : Int32) (pcnt : Int32) (cc : CC) : va_W := [(p0, .inr (4, [.ref p1, .int plen, .int ppos, .ref p2, .int pcnt])), (p1, .inl (gcC g, 60, .inl ptx)), (k0, .inr (0, [.ref (gaE g (k_kind cc)), .int (k_first cc), .int (k_second cc), .int (k_whole cc), .int (k_frac cc), .int (k_scale cc), .int (k_mode cc)]))]
abbrev wModel (g : GG) (q0 q1 q2 q3 q4 q5 q6 q7 q8 q9 q10 q11 q12 : Nat) (mm : Nat → Int64) (masd : Nat → Int64) (msav : Nat → Int64) (misS : Int32) (mpst : Nat → Int64) (mchg : Int32) (merr : Int32) (mfai : Int32) (mthr : Int32) (minp : Nat → Int32) (minM : Int32) (mUp : Nat → Int32) (mcar : Nat → Int32) (mcam : Nat → Int32) (mahd : Int32) (magn : Int32) (mltr : Nat → Int32) (mbeg : Nat → Int32) (mcmd : Nat → Int32) (mcmM : Int32) (mpl : Int32) (msz : Int32) (mwr : Int32) (mlin : Nat → Int32) (mliM : Int32) : va_W := [(q0, .inr (7, [.ref q1, .ref q2, .ref q3, .int misS, .ref q4, .int mchg, .int merr, .int mfai, .int mthr, .ref q5, .int minM, .ref q6, .ref q7, .ref q8, .int mahd, .int magn, .ref q9, .ref q10, .ref q11, .int mcmM, .int mpl, .int msz, .int mwr, .ref q12, .int mliM])), (q1, .inl (gcJ g, 28, .inr (.inl mm))), (q2, .inl (gcJ g, 28, .inr (.inl masd))), (q3, .inl (gcJ g, 28, .inr (.inl msav))), (q4, .inl (gcJ g, 224, .inr (.inl mpst))), (q5, .inl (gcI g, 60, .inl minp)), (q6, .inl (gcZ g, 6, .inl mUp)), (q7, .inl (gcZ g, 10, .inl mcar)), (q8, .inl (gcI g, 999, .inl mcam)), (q9, .inl (gcC g, 45, .inl mltr)), (q10, .inl (gcI g, 9, .inl mbeg)), (q11, .inl (gcI g, 305, .inl mcmd)), (q12, .inl (gcI g, 80, .inl mlin))]
theorem inX1 : ∀ w ∈ u_ws RX1 TX1 7, w ∈ wU := List.forall_mem_cons.mpr ⟨mU_227, List.forall_mem_cons.mpr ⟨mU_229, List.forall_mem_cons.mpr ⟨mU_231, List.forall_mem_cons.mpr ⟨mU_233, List.forall_mem_cons.mpr ⟨mU_235, List.forall_mem_cons.mpr ⟨mU_237, List.forall_mem_cons.mpr ⟨mU_239, fun _ h => absurd h List.not_mem_nil⟩⟩⟩⟩⟩⟩⟩
theorem inX2 : ∀ w ∈ u_ws RX2 TX2 3, w ∈ wU := List.forall_mem_cons.mpr ⟨mU_172, List.forall_mem_cons.mpr ⟨mU_174, List.forall_mem_cons.mpr ⟨mU_176, fun _ h => absurd h List.not_mem_nil⟩⟩⟩
theorem inX4 : ∀ w ∈ u_ws RX4 TX4 2, w ∈ wU := List.forall_mem_cons.mpr ⟨mU_272, List.forall_mem_cons.mpr ⟨mU_274, fun _ h => absurd h List.not_mem_nil⟩⟩
theorem inX5 : ∀ w ∈ u_ws RX5 TX5 3, w ∈ wU := List.forall_mem_cons.mpr ⟨mU_190, List.forall_mem_cons.mpr ⟨mU_192, List.forall_mem_cons.mpr ⟨mU_194, fun _ h => absurd h List.not_mem_nil⟩⟩⟩
theorem inX6 : ∀ w ∈ u_ws RX6 TX6 5, w ∈ wU := List.forall_mem_cons.mpr ⟨mU_251, List.forall_mem_cons.mpr ⟨mU_253, List.forall_mem_cons.mpr ⟨mU_255, List.forall_mem_cons.mpr ⟨mU_257, List.forall_mem_cons.mpr ⟨mU_259, fun _ h => absurd h List.not_mem_nil⟩⟩⟩⟩⟩
theorem inX8 : ∀ w ∈ u_ws RX8 TX8 11, w ∈ wU := List.forall_mem_cons.mpr ⟨mU_133, List.forall_mem_cons.mpr ⟨mU_135, List.forall_mem_cons.mpr ⟨mU_137, List.forall_mem_cons.mpr ⟨mU_139, List.forall_mem_cons.mpr ⟨mU_141, List.forall_mem_cons.mpr ⟨mU_143, List.forall_mem_cons.mpr ⟨mU_145, List.forall_mem_cons.mpr ⟨mU_147, List.forall_mem_cons.mpr ⟨mU_149, List.forall_mem_cons.mpr ⟨mU_151, List.forall_mem_cons.mpr ⟨mU_153, fun _ h => absurd h List.not_mem_nil⟩⟩⟩⟩⟩⟩⟩⟩⟩⟩⟩
theorem inX10 : ∀ w ∈ u_ws RX10 TX10 9, w ∈ wU := List.forall_mem_cons.mpr ⟨mU_286, List.forall_mem_cons.mpr ⟨mU_288, List.forall_mem_cons.mpr ⟨mU_290, List.forall_mem_cons.mpr ⟨mU_292, List.forall_mem_cons.mpr ⟨mU_294, List.forall_mem_cons.mpr ⟨mU_296, List.forall_mem_cons.mpr ⟨mU_298, List.forall_mem_cons.mpr ⟨mU_300, List.forall_mem_cons.mpr ⟨mU_302, fun _ h => absurd h List.not_mem_nil⟩⟩⟩⟩⟩⟩⟩⟩⟩
theorem inX11 : ∀ w ∈ u_ws RX11 TX11 25, w ∈ wU := List.forall_mem_cons.mpr ⟨mU_1269, List.forall_mem_cons.mpr ⟨mU_1271, List.forall_mem_cons.mpr ⟨mU_1273, List.forall_mem_cons.mpr ⟨mU_1275, List.forall_mem_cons.mpr ⟨mU_1277, List.forall_mem_cons.mpr ⟨mU_1279, List.forall_mem_cons.mpr ⟨mU_1281, List.forall_mem_cons.mpr ⟨mU_1283, List.forall_mem_cons.mpr ⟨mU_1285, List.forall_mem_cons.mpr ⟨mU_1287, List.forall_mem_cons.mpr ⟨mU_1289, List.forall_mem_cons.mpr ⟨mU_1291, List.forall_mem_cons.mpr ⟨mU_1293, List.forall_mem_cons.mpr ⟨mU_1295, List.forall_mem_cons.mpr ⟨mU_1297, List.forall_mem_cons.mpr ⟨mU_1299, List.forall_mem_cons.mpr ⟨mU_1301, List.forall_mem_cons.mpr ⟨mU_1303, List.forall_mem_cons.mpr ⟨mU_1305, List.forall_mem_cons.mpr ⟨mU_1307, List.forall_mem_cons.mpr ⟨mU_1309, List.forall_mem_cons.mpr ⟨mU_1311, List.forall_mem_cons.mpr ⟨mU_1313, List.forall_mem_cons.mpr ⟨mU_1315, List.forall_mem_cons.mpr ⟨mU_1317, fun _ h => absurd h List.not_mem_nil⟩⟩⟩⟩⟩⟩⟩⟩⟩⟩⟩⟩⟩⟩⟩⟩⟩⟩⟩⟩⟩⟩⟩⟩⟩
theorem zn_108 : (Jvm.Cond.methodLinkNest "DecimalMenagerie" (9 : Nat) ({ cls := "DecimalMenagerie$State", name := "<init>", desc := "()V" } : Jvm.MethodName) "DecimalMenagerie") ∈ zNw := zNw_of 108 (by decide +kernel) rfl
theorem zn_113 : (Jvm.Cond.fieldLinkNest "DecimalMenagerie" (204 : Nat) "DecimalMenagerie$State" "ids" "[I" "DecimalMenagerie") ∈ zNw := zNw_of 113 (by decide +kernel) rfl
theorem zn_115 : (Jvm.Cond.fieldLinkNest "DecimalMenagerie$Together" (27 : Nat) "DecimalMenagerie$State" "values" "[J" "DecimalMenagerie") ∈ zNw := zNw_of 115 (by decide +kernel) rfl
theorem zn_116 : (Jvm.Cond.fieldLinkNest "DecimalMenagerie" (144 : Nat) "DecimalMenagerie$State" "values" "[J" "DecimalMenagerie") ∈ zNw := zNw_of 116 (by decide +kernel) rfl
theorem zn_118 : (Jvm.Cond.fieldLinkNest "DecimalMenagerie" (162 : Nat) "DecimalMenagerie$State" "scales" "[I" "DecimalMenagerie") ∈ zNw := zNw_of 118 (by decide +kernel) rfl
theorem zn_120 : (Jvm.Cond.fieldLinkNest "DecimalMenagerie" (168 : Nat) "DecimalMenagerie$State" "modes" "[C" "DecimalMenagerie") ∈ zNw := zNw_of 120 (by decide +kernel) rfl
theorem zn_122 : (Jvm.Cond.fieldLinkNest "DecimalMenagerie$Together" (21 : Nat) "DecimalMenagerie$State" "count" "I" "DecimalMenagerie") ∈ zNw := zNw_of 122 (by decide +kernel) rfl
theorem zn_123 : (Jvm.Cond.fieldLinkNest "DecimalMenagerie" (178 : Nat) "DecimalMenagerie$State" "count" "I" "DecimalMenagerie") ∈ zNw := zNw_of 123 (by decide +kernel) rfl
theorem zn_126 : (Jvm.Cond.fieldLinkNest "DecimalMenagerie" (276 : Nat) "DecimalMenagerie$State" "escaped" "I" "DecimalMenagerie") ∈ zNw := zNw_of 126 (by decide +kernel) rfl
theorem zn_128 : (Jvm.Cond.fieldLinkNest "DecimalMenagerie" (279 : Nat) "DecimalMenagerie$State" "fallen" "J" "DecimalMenagerie") ∈ zNw := zNw_of 128 (by decide +kernel) rfl
theorem zn_131 : (Jvm.Cond.fieldLinkNest "DecimalMenagerie" (140 : Nat) "DecimalMenagerie$State" "fed" "J" "DecimalMenagerie") ∈ zNw := zNw_of 131 (by decide +kernel) rfl
theorem zn_167 : (Jvm.Cond.methodLinkNest "DecimalMenagerie$History" (17 : Nat) ({ cls := "DecimalMenagerie$State", name := "<init>", desc := "()V" } : Jvm.MethodName) "DecimalMenagerie") ∈ zNw := zNw_of 167 (by decide +kernel) rfl
theorem zn_171 : (Jvm.Cond.fieldLinkNest "DecimalMenagerie" (403 : Nat) "DecimalMenagerie$History" "undoable" "I" "DecimalMenagerie") ∈ zNw := zNw_of 171 (by decide +kernel) rfl
theorem zn_181 : (Jvm.Cond.methodLinkNest "DecimalMenagerie" (28 : Nat) ({ cls := "DecimalMenagerie$LongDivision", name := "<init>", desc := "()V" } : Jvm.MethodName) "DecimalMenagerie") ∈ zNw := zNw_of 181 (by decide +kernel) rfl
theorem zn_187 : (Jvm.Cond.fieldLinkNest "DecimalMenagerie" (257 : Nat) "DecimalMenagerie$LongDivision" "digitsBefore" "I" "DecimalMenagerie") ∈ zNw := zNw_of 187 (by decide +kernel) rfl
theorem zn_189 : (Jvm.Cond.fieldLinkNest "DecimalMenagerie" (260 : Nat) "DecimalMenagerie$LongDivision" "digitsRecurring" "I" "DecimalMenagerie") ∈ zNw := zNw_of 189 (by decide +kernel) rfl
theorem zn_206 : (Jvm.Cond.methodLinkNest "DecimalMenagerie$Program" (21 : Nat) ({ cls := "DecimalMenagerie$Command", name := "<init>", desc := "()V" } : Jvm.MethodName) "DecimalMenagerie") ∈ zNw := zNw_of 206 (by decide +kernel) rfl
theorem zn_213 : (Jvm.Cond.fieldLinkNest "DecimalMenagerie$Program" (44 : Nat) "DecimalMenagerie$Command" "kind" "LDecimalMenagerie$Kind;" "DecimalMenagerie") ∈ zNw := zNw_of 213 (by decide +kernel) rfl
theorem zn_214 : (Jvm.Cond.fieldLinkNest "DecimalMenagerie" (347 : Nat) "DecimalMenagerie$Command" "kind" "LDecimalMenagerie$Kind;" "DecimalMenagerie") ∈ zNw := zNw_of 214 (by decide +kernel) rfl
theorem zn_215 : (Jvm.Cond.fieldLinkNest "DecimalMenagerie$Program" (110 : Nat) "DecimalMenagerie$Command" "first" "I" "DecimalMenagerie") ∈ zNw := zNw_of 215 (by decide +kernel) rfl
theorem zn_216 : (Jvm.Cond.fieldLinkNest "DecimalMenagerie" (372 : Nat) "DecimalMenagerie$Command" "first" "I" "DecimalMenagerie") ∈ zNw := zNw_of 216 (by decide +kernel) rfl
theorem zn_217 : (Jvm.Cond.fieldLinkNest "DecimalMenagerie$Program" (113 : Nat) "DecimalMenagerie$Command" "second" "I" "DecimalMenagerie") ∈ zNw := zNw_of 217 (by decide +kernel) rfl
theorem zn_218 : (Jvm.Cond.fieldLinkNest "DecimalMenagerie" (375 : Nat) "DecimalMenagerie$Command" "second" "I" "DecimalMenagerie") ∈ zNw := zNw_of 218 (by decide +kernel) rfl
theorem zn_219 : (Jvm.Cond.fieldLinkNest "DecimalMenagerie$Program" (116 : Nat) "DecimalMenagerie$Command" "whole" "I" "DecimalMenagerie") ∈ zNw := zNw_of 219 (by decide +kernel) rfl
theorem zn_220 : (Jvm.Cond.fieldLinkNest "DecimalMenagerie" (359 : Nat) "DecimalMenagerie$Command" "whole" "I" "DecimalMenagerie") ∈ zNw := zNw_of 220 (by decide +kernel) rfl
theorem zn_221 : (Jvm.Cond.fieldLinkNest "DecimalMenagerie$Program" (119 : Nat) "DecimalMenagerie$Command" "fraction" "I" "DecimalMenagerie") ∈ zNw := zNw_of 221 (by decide +kernel) rfl
theorem zn_222 : (Jvm.Cond.fieldLinkNest "DecimalMenagerie" (362 : Nat) "DecimalMenagerie$Command" "fraction" "I" "DecimalMenagerie") ∈ zNw := zNw_of 222 (by decide +kernel) rfl
theorem zn_223 : (Jvm.Cond.fieldLinkNest "DecimalMenagerie$Program" (125 : Nat) "DecimalMenagerie$Command" "scale" "I" "DecimalMenagerie") ∈ zNw := zNw_of 223 (by decide +kernel) rfl
theorem zn_224 : (Jvm.Cond.fieldLinkNest "DecimalMenagerie" (365 : Nat) "DecimalMenagerie$Command" "scale" "I" "DecimalMenagerie") ∈ zNw := zNw_of 224 (by decide +kernel) rfl
theorem zn_225 : (Jvm.Cond.fieldLinkNest "DecimalMenagerie$Program" (134 : Nat) "DecimalMenagerie$Command" "mode" "C" "DecimalMenagerie") ∈ zNw := zNw_of 225 (by decide +kernel) rfl
theorem zn_226 : (Jvm.Cond.fieldLinkNest "DecimalMenagerie" (368 : Nat) "DecimalMenagerie$Command" "mode" "C" "DecimalMenagerie") ∈ zNw := zNw_of 226 (by decide +kernel) rfl
theorem zn_244 : (Jvm.Cond.fieldLinkNest "DecimalMenagerie" (309 : Nat) "DecimalMenagerie$Program" "length" "I" "DecimalMenagerie") ∈ zNw := zNw_of 244 (by decide +kernel) rfl
theorem zn_246 : (Jvm.Cond.fieldLinkNest "DecimalMenagerie" (315 : Nat) "DecimalMenagerie$Program" "position" "I" "DecimalMenagerie") ∈ zNw := zNw_of 246 (by decide +kernel) rfl
theorem zn_248 : (Jvm.Cond.fieldLinkNest "DecimalMenagerie" (323 : Nat) "DecimalMenagerie$Program" "commands" "[LDecimalMenagerie$Command;" "DecimalMenagerie") ∈ zNw := zNw_of 248 (by decide +kernel) rfl
theorem zn_250 : (Jvm.Cond.fieldLinkNest "DecimalMenagerie" (320 : Nat) "DecimalMenagerie$Program" "commandCount" "I" "DecimalMenagerie") ∈ zNw := zNw_of 250 (by decide +kernel) rfl
theorem zn_264 : (Jvm.Cond.methodLinkNest "DecimalMenagerie" (49 : Nat) ({ cls := "DecimalMenagerie$Line", name := "<init>", desc := "()V" } : Jvm.MethodName) "DecimalMenagerie") ∈ zNw := zNw_of 264 (by decide +kernel) rfl
theorem zn_269 : (Jvm.Cond.fieldLinkNest "DecimalMenagerie" (400 : Nat) "DecimalMenagerie$Line" "characters" "[C" "DecimalMenagerie") ∈ zNw := zNw_of 269 (by decide +kernel) rfl
theorem zn_271 : (Jvm.Cond.fieldLinkNest "DecimalMenagerie" (383 : Nat) "DecimalMenagerie$Line" "length" "I" "DecimalMenagerie") ∈ zNw := zNw_of 271 (by decide +kernel) rfl
theorem zn_458 : (Jvm.Cond.castable "java/lang/IllegalArgumentException" "java/lang/IllegalArgumentException") ∈ zNw := zNw_of 458 (by decide +kernel) rfl
theorem zn_459 : (Jvm.Cond.declares ({ cls := "java/lang/RuntimeException", name := "<init>", desc := "()V" } : Jvm.MethodName)) ∈ zNw := zNw_of 459 (by decide +kernel) rfl
theorem zn_460 : (Jvm.Cond.declares ({ cls := "java/lang/RuntimeException", name := "<init>", desc := "(Ljava/lang/String;)V" } : Jvm.MethodName)) ∈ zNw := zNw_of 460 (by decide +kernel) rfl
theorem zn_461 : (Jvm.Cond.declares ({ cls := "java/lang/Exception", name := "<init>", desc := "()V" } : Jvm.MethodName)) ∈ zNw := zNw_of 461 (by decide +kernel) rfl
theorem zn_462 : (Jvm.Cond.declares ({ cls := "java/lang/Exception", name := "<init>", desc := "(Ljava/lang/String;)V" } : Jvm.MethodName)) ∈ zNw := zNw_of 462 (by decide +kernel) rfl
theorem zn_463 : (Jvm.Cond.declares ({ cls := "java/lang/Throwable", name := "<init>", desc := "()V" } : Jvm.MethodName)) ∈ zNw := zNw_of 463 (by decide +kernel) rfl
theorem zn_464 : (Jvm.Cond.declares ({ cls := "java/lang/Throwable", name := "<init>", desc := "(Ljava/lang/String;)V" } : Jvm.MethodName)) ∈ zNw := zNw_of 464 (by decide +kernel) rfl
theorem zn_629 : (Jvm.Cond.castable "java/lang/IllegalStateException" "java/lang/IllegalStateException") ∈ zNw := zNw_of 629 (by decide +kernel) rfl
theorem zn_646 : (Jvm.Cond.castable "java/lang/UnsupportedOperationException" "java/lang/UnsupportedOperationException") ∈ zNw := zNw_of 646 (by decide +kernel) rfl
theorem zn_705 : (Jvm.Cond.castable "java/util/NoSuchElementException" "java/util/NoSuchElementException") ∈ zNw := zNw_of 705 (by decide +kernel) rfl
theorem zn_811 : (Jvm.Cond.castable "java/lang/ArrayIndexOutOfBoundsException" "java/lang/ArrayIndexOutOfBoundsException") ∈ zNw := zNw_of 811 (by decide +kernel) rfl
theorem zn_812 : (Jvm.Cond.declares ({ cls := "java/lang/IndexOutOfBoundsException", name := "<init>", desc := "()V" } : Jvm.MethodName)) ∈ zNw := zNw_of 812 (by decide +kernel) rfl
theorem zn_813 : (Jvm.Cond.declares ({ cls := "java/lang/IndexOutOfBoundsException", name := "<init>", desc := "(Ljava/lang/String;)V" } : Jvm.MethodName)) ∈ zNw := zNw_of 813 (by decide +kernel) rfl
theorem zn_826 : (Jvm.Cond.castable "java/lang/IndexOutOfBoundsException" "java/lang/IndexOutOfBoundsException") ∈ zNw := zNw_of 826 (by decide +kernel) rfl
theorem zn_1013 : (Jvm.Cond.castable "java/lang/ArithmeticException" "java/lang/ArithmeticException") ∈ zNw := zNw_of 1013 (by decide +kernel) rfl
theorem zn_1098 : (Jvm.Cond.declares ({ cls := "java/lang/Enum", name := "ordinal", desc := "()I" } : Jvm.MethodName)) ∈ zNw := zNw_of 1098 (by decide +kernel) rfl
theorem zn_1187 : (Jvm.Cond.methodLinkNest "DecimalMenagerie$Line" (21 : Nat) ({ cls := "DecimalMenagerie", name := "digitAt", desc := "(JI)I" } : Jvm.MethodName) "DecimalMenagerie") ∈ zNw := zNw_of 1187 (by decide +kernel) rfl
theorem zn_1709 : (Jvm.Cond.castable "java/lang/ArrayIndexOutOfBoundsException" "java/lang/IndexOutOfBoundsException") ∈ zNw := zNw_of 1709 (by decide +kernel) rfl
theorem zn_1710 : (Jvm.Cond.castable "DecimalMenagerie" "java/lang/Object") ∈ zNw := zNw_of 1710 (by decide +kernel) rfl
theorem zn_1711 : (Jvm.Cond.castable "DecimalMenagerie$State" "java/lang/Object") ∈ zNw := zNw_of 1711 (by decide +kernel) rfl
theorem zn_1712 : (Jvm.Cond.castable "DecimalMenagerie$History" "java/lang/Object") ∈ zNw := zNw_of 1712 (by decide +kernel) rfl
theorem zn_1713 : (Jvm.Cond.castable "DecimalMenagerie$LongDivision" "java/lang/Object") ∈ zNw := zNw_of 1713 (by decide +kernel) rfl
theorem zn_1714 : (Jvm.Cond.castable "DecimalMenagerie$Program" "java/lang/Object") ∈ zNw := zNw_of 1714 (by decide +kernel) rfl
theorem zn_1715 : (Jvm.Cond.castable "DecimalMenagerie$Command" "java/lang/Object") ∈ zNw := zNw_of 1715 (by decide +kernel) rfl
theorem zn_1716 : (Jvm.Cond.castable "DecimalMenagerie$Kind" "java/lang/Object") ∈ zNw := zNw_of 1716 (by decide +kernel) rfl
theorem zn_1717 : (Jvm.Cond.castable "DecimalMenagerie$Line" "java/lang/Object") ∈ zNw := zNw_of 1717 (by decide +kernel) rfl
theorem zn_1718 : (Jvm.Cond.castable "DecimalMenagerieModel" "java/lang/Object") ∈ zNw := zNw_of 1718 (by decide +kernel) rfl
theorem zn_1719 : (Jvm.Cond.castable "java/lang/IllegalArgumentException" "java/lang/Object") ∈ zNw := zNw_of 1719 (by decide +kernel) rfl
theorem zn_1720 : (Jvm.Cond.castable "java/lang/IllegalStateException" "java/lang/Object") ∈ zNw := zNw_of 1720 (by decide +kernel) rfl
theorem zn_1721 : (Jvm.Cond.castable "java/lang/UnsupportedOperationException" "java/lang/Object") ∈ zNw := zNw_of 1721 (by decide +kernel) rfl
theorem zn_1722 : (Jvm.Cond.castable "java/util/NoSuchElementException" "java/lang/Object") ∈ zNw := zNw_of 1722 (by decide +kernel) rfl
theorem zn_1723 : (Jvm.Cond.castable "java/lang/ArrayIndexOutOfBoundsException" "java/lang/Object") ∈ zNw := zNw_of 1723 (by decide +kernel) rfl
theorem zn_1724 : (Jvm.Cond.castable "java/lang/IndexOutOfBoundsException" "java/lang/Object") ∈ zNw := zNw_of 1724 (by decide +kernel) rfl
theorem zn_1725 : (Jvm.Cond.castable "java/lang/ArithmeticException" "java/lang/Object") ∈ zNw := zNw_of 1725 (by decide +kernel) rfl
theorem zn_1726 : (Jvm.Cond.castable "java/lang/Throwable" "java/lang/Object") ∈ zNw := zNw_of 1726 (by decide +kernel) rfl
theorem zn_1727 : (Jvm.Cond.castable "java/lang/String" "java/lang/Object") ∈ zNw := zNw_of 1727 (by decide +kernel) rfl
theorem zn_1730 : (Jvm.Cond.fieldLinkNest "DecimalMenagerie$Program" (82 : Nat) "DecimalMenagerie$Kind" "word" "Ljava/lang/String;" "DecimalMenagerie") ∈ zNw := zNw_of 1730 (by decide +kernel) rfl
