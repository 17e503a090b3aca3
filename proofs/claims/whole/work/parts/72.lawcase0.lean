set_option maxHeartbeats 4000000 in
set_option maxRecDepth 100000 in
theorem law_c0 {p : Program} (l : Launch) {e : Env} {s : State} {m : MethodId} {below : List Frame} {meth : Method} {c : Code} (D : va_G) (cI cO : ClassId) (tF : Nat) (ad bd : Nat → Nat) {b L : Nat} {xs : Nat → Int32} {A : Nat → Prop} {Q : State → Prop} {args : Array Value} (B : Bx p s m args meth c cL_law 4 ret wsL_law RL D cI cO tF A) (hX : va_X b L xs s s.heap) (hbl : b < s.heap.size) (hbA : ¬ A b) (X : XS) (M : MS) (hR : Rel X M) (x3 : Int32) (h0 : 0 ≤ x3.toInt) (h1 : x3.toInt + 6 ≤ L) (hL : L ≤ 3072) (kk : ∀ (X' : XS) (M' : MS), Rel X' M' → ∀ (H : Heap) (locs : List Loc), va_P D vwCl (wX ad cI cO X' ++ wM bd cI M') H → va_D A (wX ad cI cO X' ++ wM bd cI M') → va_S A s.heap H locs → ∀ ls : Array Slot, lv_has ls 4 [(0, .ref b), (1, .ref (ad 0)), (2, .ref (bd 0)), (3, .int x3)] → W p l e room_1 s m args below meth c H locs 600000 7302250 Q (F0 m 1270 ls [])) (H : Heap) (locs : List Loc) (hP : va_P D vwCl (wX ad cI cO X ++ wM bd cI M) H) (hD : va_D A (wX ad cI cO X ++ wM bd cI M)) (hS : va_S A s.heap H locs) (ls : Array Slot) (hl : lv_has ls 4 [(0, .ref b), (1, .ref (ad 0)), (2, .ref (bd 0)), (3, .int x3)]) : W p l e room_1 s m args below meth c H locs 600000 7302250 Q (F0 m 184 ls []) := by
  obtain ⟨hx, hb, hret, hml, hts, hown, hlocks, hE, hA⟩ := id B
  refine lv_aload_n hx hb dL_law_184 rfl (lv_at hl 1 rfl) ?_
  refine lv_aload_n hx hb dL_law_185 rfl (lv_at hl 0 rfl) ?_
  refine lv_iload_n hx hb dL_law_186 rfl (lv_at hl 3 rfl) ?_
  refine lv_iconst (v := (1 : Int32)) hx hb dL_law_187 (by decide) ?_
  refine lv_iadd hx hb dL_law_188 ?_
  refine va_sld hx hb hX hbl hbA hS (sc_in (1 : Int32) 1 h0 h1 hL rfl (by decide)) dL_law_189 ?_
  refine lv_aload_n hx hb dL_law_190 rfl (lv_at hl 0 rfl) ?_
  refine lv_iload_n hx hb dL_law_191 rfl (lv_at hl 3 rfl) ?_
  refine lv_iconst (v := (2 : Int32)) hx hb dL_law_192 (by decide) ?_
  refine lv_iadd hx hb dL_law_193 ?_
  refine va_sld hx hb hX hbl hbA hS (sc_in (2 : Int32) 2 h0 h1 hL rfl (by decide)) dL_law_194 ?_
  refine lv_aload_n hx hb dL_law_195 rfl (lv_at hl 0 rfl) ?_
  refine lv_iload_n hx hb dL_law_196 rfl (lv_at hl 3 rfl) ?_
  refine lv_iconst (v := (3 : Int32)) hx hb dL_law_197 (by decide) ?_
  refine lv_iadd hx hb dL_law_198 ?_
  refine va_sld hx hb hX hbl hbA hS (sc_in (3 : Int32) 3 h0 h1 hL rfl (by decide)) dL_law_199 ?_
  refine lv_aload_n hx hb dL_law_200 rfl (lv_at hl 0 rfl) ?_
  refine lv_iload_n hx hb dL_law_201 rfl (lv_at hl 3 rfl) ?_
  refine lv_iconst (v := (4 : Int32)) hx hb dL_law_202 (by decide) ?_
  refine lv_iadd hx hb dL_law_203 ?_
  refine va_sld hx hb hX hbl hbA hS (sc_in (4 : Int32) 4 h0 h1 hL rfl (by decide)) dL_law_204 ?_
  refine kc_V (As := [.int (xs (x3 + (1 : Int32)).toNatClampNeg), .int (xs (x3 + (2 : Int32)).toNatClampNeg), .int (xs (x3 + (3 : Int32)).toNatClampNeg), .int (xs (x3 + (4 : Int32)).toNatClampNeg)]) (rest := []) B (c_X3_town l D cI cO tF ad X (xs (x3 + (1 : Int32)).toNatClampNeg) (xs (x3 + (2 : Int32)).toNatClampNeg) (xs (x3 + (3 : Int32)).toNatClampNeg) (xs (x3 + (4 : Int32)).toNatClampNeg) ) (cwV 4 hts gL_law_X3_town rfl rfl rfl (by decide +kernel) ⟨Nat.le_of_ble_eq_true rfl, Nat.le_of_ble_eq_true rfl⟩) hP hD hS [0, 1, 2, 3, 4, 5, 6, 7, 8, 9, 10, 11, 12, 13, 14, 15, 16, 17, 18, 19, 20, 21] wXM_subX (by decide) (w' := wX ad cI cO ((f_X3_town X (xs (x3 + (1 : Int32)).toNatClampNeg) (xs (x3 + (2 : Int32)).toNatClampNeg) (xs (x3 + (3 : Int32)).toNatClampNeg) (xs (x3 + (4 : Int32)).toNatClampNeg)).2) ++ wM bd cI M) (wXM_setX _) (wX_fst _) 0 3 rfl rfl rfl rfl hl.1 rfl (Nat.le_of_ble_eq_true rfl) dL_law_205 ⟨Nat.le_refl _, Nat.le_refl _⟩ (fun H locs hP hD hS => ?_)
  refine lv_aload_n hx hb dL_law_208 rfl (lv_at hl 2 rfl) ?_
  refine lv_aload_n hx hb dL_law_209 rfl (lv_at hl 0 rfl) ?_
  refine lv_iload_n hx hb dL_law_210 rfl (lv_at hl 3 rfl) ?_
  refine lv_iconst (v := (1 : Int32)) hx hb dL_law_211 (by decide) ?_
  refine lv_iadd hx hb dL_law_212 ?_
  refine va_sld hx hb hX hbl hbA hS (sc_in (1 : Int32) 1 h0 h1 hL rfl (by decide)) dL_law_213 ?_
  refine lv_aload_n hx hb dL_law_214 rfl (lv_at hl 0 rfl) ?_
  refine lv_iload_n hx hb dL_law_215 rfl (lv_at hl 3 rfl) ?_
  refine lv_iconst (v := (2 : Int32)) hx hb dL_law_216 (by decide) ?_
  refine lv_iadd hx hb dL_law_217 ?_
  refine va_sld hx hb hX hbl hbA hS (sc_in (2 : Int32) 2 h0 h1 hL rfl (by decide)) dL_law_218 ?_
  refine lv_aload_n hx hb dL_law_219 rfl (lv_at hl 0 rfl) ?_
  refine lv_iload_n hx hb dL_law_220 rfl (lv_at hl 3 rfl) ?_
  refine lv_iconst (v := (3 : Int32)) hx hb dL_law_221 (by decide) ?_
  refine lv_iadd hx hb dL_law_222 ?_
  refine va_sld hx hb hX hbl hbA hS (sc_in (3 : Int32) 3 h0 h1 hL rfl (by decide)) dL_law_223 ?_
  refine lv_aload_n hx hb dL_law_224 rfl (lv_at hl 0 rfl) ?_
  refine lv_iload_n hx hb dL_law_225 rfl (lv_at hl 3 rfl) ?_
  refine lv_iconst (v := (4 : Int32)) hx hb dL_law_226 (by decide) ?_
  refine lv_iadd hx hb dL_law_227 ?_
  refine va_sld hx hb hX hbl hbA hS (sc_in (4 : Int32) 4 h0 h1 hL rfl (by decide)) dL_law_228 ?_
  refine kc_V (As := [.int (xs (x3 + (1 : Int32)).toNatClampNeg), .int (xs (x3 + (2 : Int32)).toNatClampNeg), .int (xs (x3 + (3 : Int32)).toNatClampNeg), .int (xs (x3 + (4 : Int32)).toNatClampNeg)]) (rest := [.int ((f_X3_town X (xs (x3 + (1 : Int32)).toNatClampNeg) (xs (x3 + (2 : Int32)).toNatClampNeg) (xs (x3 + (3 : Int32)).toNatClampNeg) (xs (x3 + (4 : Int32)).toNatClampNeg)).1)]) B (c_X4_town l D cI cO tF bd M (xs (x3 + (1 : Int32)).toNatClampNeg) (xs (x3 + (2 : Int32)).toNatClampNeg) (xs (x3 + (3 : Int32)).toNatClampNeg) (xs (x3 + (4 : Int32)).toNatClampNeg) (hR.mL)) (cwV 4 hts gL_law_X4_town rfl rfl rfl (by decide +kernel) ⟨Nat.le_of_ble_eq_true rfl, Nat.le_of_ble_eq_true rfl⟩) hP hD hS [22, 23, 24, 25, 26, 27, 28, 29, 30, 31, 32, 33, 34] wXM_subM (by decide) (w' := wX ad cI cO ((f_X3_town X (xs (x3 + (1 : Int32)).toNatClampNeg) (xs (x3 + (2 : Int32)).toNatClampNeg) (xs (x3 + (3 : Int32)).toNatClampNeg) (xs (x3 + (4 : Int32)).toNatClampNeg)).2) ++ wM bd cI ((f_X4_town M (xs (x3 + (1 : Int32)).toNatClampNeg) (xs (x3 + (2 : Int32)).toNatClampNeg) (xs (x3 + (3 : Int32)).toNatClampNeg) (xs (x3 + (4 : Int32)).toNatClampNeg)).2)) (wXM_setM _) (wM_fst _) 22 4 rfl rfl rfl rfl hl.1 rfl (Nat.le_of_ble_eq_true rfl) dL_law_229 ⟨Nat.le_refl _, Nat.le_refl _⟩ (fun H locs hP hD hS => ?_)
  have hv := rel_town hR (xs (x3 + (1 : Int32)).toNatClampNeg) (xs (x3 + (2 : Int32)).toNatClampNeg) (xs (x3 + (3 : Int32)).toNatClampNeg) (xs (x3 + (4 : Int32)).toNatClampNeg)
  refine lv_icmp_eq (tgt := 1270) hx hb dL_law_232 (by decide) (fun _ => ?_) (fun h => absurd hv.1 h)
  exact kk _ _ hv.2 _ _ hP hD hS ls hl
set_option maxHeartbeats 4000000 in
set_option maxRecDepth 100000 in
theorem law_c1 {p : Program} (l : Launch) {e : Env} {s : State} {m : MethodId} {below : List Frame} {meth : Method} {c : Code} (D : va_G) (cI cO : ClassId) (tF : Nat) (ad bd : Nat → Nat) {b L : Nat} {xs : Nat → Int32} {A : Nat → Prop} {Q : State → Prop} {args : Array Value} (B : Bx p s m args meth c cL_law 4 ret wsL_law RL D cI cO tF A) (hX : va_X b L xs s s.heap) (hbl : b < s.heap.size) (hbA : ¬ A b) (X : XS) (M : MS) (hR : Rel X M) (x3 : Int32) (h0 : 0 ≤ x3.toInt) (h1 : x3.toInt + 6 ≤ L) (hL : L ≤ 3072) (kk : ∀ (X' : XS) (M' : MS), Rel X' M' → ∀ (H : Heap) (locs : List Loc), va_P D vwCl (wX ad cI cO X' ++ wM bd cI M') H → va_D A (wX ad cI cO X' ++ wM bd cI M') → va_S A s.heap H locs → ∀ ls : Array Slot, lv_has ls 4 [(0, .ref b), (1, .ref (ad 0)), (2, .ref (bd 0)), (3, .int x3)] → W p l e room_1 s m args below meth c H locs 600000 7302250 Q (F0 m 1270 ls [])) (H : Heap) (locs : List Loc) (hP : va_P D vwCl (wX ad cI cO X ++ wM bd cI M) H) (hD : va_D A (wX ad cI cO X ++ wM bd cI M)) (hS : va_S A s.heap H locs) (ls : Array Slot) (hl : lv_has ls 4 [(0, .ref b), (1, .ref (ad 0)), (2, .ref (bd 0)), (3, .int x3)]) : W p l e room_1 s m args below meth c H locs 600000 7302250 Q (F0 m 237 ls []) := by
  obtain ⟨hx, hb, hret, hml, hts, hown, hlocks, hE, hA⟩ := id B
  refine lv_aload_n hx hb dL_law_237 rfl (lv_at hl 1 rfl) ?_
  refine lv_aload_n hx hb dL_law_238 rfl (lv_at hl 0 rfl) ?_
  refine lv_iload_n hx hb dL_law_239 rfl (lv_at hl 3 rfl) ?_
  refine lv_iconst (v := (1 : Int32)) hx hb dL_law_240 (by decide) ?_
  refine lv_iadd hx hb dL_law_241 ?_
  refine va_sld hx hb hX hbl hbA hS (sc_in (1 : Int32) 1 h0 h1 hL rfl (by decide)) dL_law_242 ?_
  refine lv_aload_n hx hb dL_law_243 rfl (lv_at hl 0 rfl) ?_
  refine lv_iload_n hx hb dL_law_244 rfl (lv_at hl 3 rfl) ?_
  refine lv_iconst (v := (2 : Int32)) hx hb dL_law_245 (by decide) ?_
  refine lv_iadd hx hb dL_law_246 ?_
  refine va_sld hx hb hX hbl hbA hS (sc_in (2 : Int32) 2 h0 h1 hL rfl (by decide)) dL_law_247 ?_
  refine kc_V (As := [.int (xs (x3 + (1 : Int32)).toNatClampNeg), .int (xs (x3 + (2 : Int32)).toNatClampNeg)]) (rest := []) B (c_X3_ofPerson l D cI cO tF ad X (xs (x3 + (1 : Int32)).toNatClampNeg) (xs (x3 + (2 : Int32)).toNatClampNeg) (hR.xn)) (cwV 2 hts gL_law_X3_ofPerson rfl rfl rfl (by decide +kernel) ⟨Nat.le_of_ble_eq_true rfl, Nat.le_of_ble_eq_true rfl⟩) hP hD hS [0, 1, 2, 3, 4, 5, 6, 7, 8, 9, 10, 11, 12, 13, 14, 15, 16, 17, 18, 19, 20, 21] wXM_subX (by decide) (w' := wX ad cI cO X ++ wM bd cI M) (wXM_setX _) (wX_fst _) 0 3 rfl rfl rfl rfl hl.1 rfl (Nat.le_of_ble_eq_true rfl) dL_law_248 ⟨Nat.le_refl _, Nat.le_refl _⟩ (fun H locs hP hD hS => ?_)
  refine lv_aload_n hx hb dL_law_251 rfl (lv_at hl 2 rfl) ?_
  refine lv_aload_n hx hb dL_law_252 rfl (lv_at hl 0 rfl) ?_
  refine lv_iload_n hx hb dL_law_253 rfl (lv_at hl 3 rfl) ?_
  refine lv_iconst (v := (1 : Int32)) hx hb dL_law_254 (by decide) ?_
  refine lv_iadd hx hb dL_law_255 ?_
  refine va_sld hx hb hX hbl hbA hS (sc_in (1 : Int32) 1 h0 h1 hL rfl (by decide)) dL_law_256 ?_
  refine lv_aload_n hx hb dL_law_257 rfl (lv_at hl 0 rfl) ?_
  refine lv_iload_n hx hb dL_law_258 rfl (lv_at hl 3 rfl) ?_
  refine lv_iconst (v := (2 : Int32)) hx hb dL_law_259 (by decide) ?_
  refine lv_iadd hx hb dL_law_260 ?_
  refine va_sld hx hb hX hbl hbA hS (sc_in (2 : Int32) 2 h0 h1 hL rfl (by decide)) dL_law_261 ?_
  refine kc_V (As := [.int (xs (x3 + (1 : Int32)).toNatClampNeg), .int (xs (x3 + (2 : Int32)).toNatClampNeg)]) (rest := [.int (f_X3_ofPerson X (xs (x3 + (1 : Int32)).toNatClampNeg) (xs (x3 + (2 : Int32)).toNatClampNeg))]) B (c_X4_ofPerson l D cI cO tF bd M (xs (x3 + (1 : Int32)).toNatClampNeg) (xs (x3 + (2 : Int32)).toNatClampNeg) (hR.mn) (hR.ht)) (cwV 2 hts gL_law_X4_ofPerson rfl rfl rfl (by decide +kernel) ⟨Nat.le_of_ble_eq_true rfl, Nat.le_of_ble_eq_true rfl⟩) hP hD hS [22, 23, 24, 25, 26, 27, 28, 29, 30, 31, 32, 33, 34] wXM_subM (by decide) (w' := wX ad cI cO X ++ wM bd cI M) (wXM_setM _) (wM_fst _) 22 4 rfl rfl rfl rfl hl.1 rfl (Nat.le_of_ble_eq_true rfl) dL_law_262 ⟨Nat.le_refl _, Nat.le_refl _⟩ (fun H locs hP hD hS => ?_)
  have hv := rel_ofPerson hR (xs (x3 + (1 : Int32)).toNatClampNeg) (xs (x3 + (2 : Int32)).toNatClampNeg)
  refine lv_icmp_eq (tgt := 1270) hx hb dL_law_265 (by decide) (fun _ => ?_) (fun h => absurd hv h)
  exact kk _ _ hR _ _ hP hD hS ls hl
set_option maxHeartbeats 4000000 in
set_option maxRecDepth 100000 in
theorem law_c2 {p : Program} (l : Launch) {e : Env} {s : State} {m : MethodId} {below : List Frame} {meth : Method} {c : Code} (D : va_G) (cI cO : ClassId) (tF : Nat) (ad bd : Nat → Nat) {b L : Nat} {xs : Nat → Int32} {A : Nat → Prop} {Q : State → Prop} {args : Array Value} (B : Bx p s m args meth c cL_law 4 ret wsL_law RL D cI cO tF A) (hX : va_X b L xs s s.heap) (hbl : b < s.heap.size) (hbA : ¬ A b) (X : XS) (M : MS) (hR : Rel X M) (x3 : Int32) (h0 : 0 ≤ x3.toInt) (h1 : x3.toInt + 6 ≤ L) (hL : L ≤ 3072) (kk : ∀ (X' : XS) (M' : MS), Rel X' M' → ∀ (H : Heap) (locs : List Loc), va_P D vwCl (wX ad cI cO X' ++ wM bd cI M') H → va_D A (wX ad cI cO X' ++ wM bd cI M') → va_S A s.heap H locs → ∀ ls : Array Slot, lv_has ls 4 [(0, .ref b), (1, .ref (ad 0)), (2, .ref (bd 0)), (3, .int x3)] → W p l e room_1 s m args below meth c H locs 600000 7302250 Q (F0 m 1270 ls [])) (H : Heap) (locs : List Loc) (hP : va_P D vwCl (wX ad cI cO X ++ wM bd cI M) H) (hD : va_D A (wX ad cI cO X ++ wM bd cI M)) (hS : va_S A s.heap H locs) (ls : Array Slot) (hl : lv_has ls 4 [(0, .ref b), (1, .ref (ad 0)), (2, .ref (bd 0)), (3, .int x3)]) : W p l e room_1 s m args below meth c H locs 600000 7302250 Q (F0 m 270 ls []) := by
  obtain ⟨hx, hb, hret, hml, hts, hown, hlocks, hE, hA⟩ := id B
  refine lv_aload_n hx hb dL_law_270 rfl (lv_at hl 1 rfl) ?_
  refine lv_aload_n hx hb dL_law_271 rfl (lv_at hl 0 rfl) ?_
  refine lv_iload_n hx hb dL_law_272 rfl (lv_at hl 3 rfl) ?_
  refine lv_iconst (v := (1 : Int32)) hx hb dL_law_273 (by decide) ?_
  refine lv_iadd hx hb dL_law_274 ?_
  refine va_sld hx hb hX hbl hbA hS (sc_in (1 : Int32) 1 h0 h1 hL rfl (by decide)) dL_law_275 ?_
  refine lv_aload_n hx hb dL_law_276 rfl (lv_at hl 0 rfl) ?_
  refine lv_iload_n hx hb dL_law_277 rfl (lv_at hl 3 rfl) ?_
  refine lv_iconst (v := (2 : Int32)) hx hb dL_law_278 (by decide) ?_
  refine lv_iadd hx hb dL_law_279 ?_
  refine va_sld hx hb hX hbl hbA hS (sc_in (2 : Int32) 2 h0 h1 hL rfl (by decide)) dL_law_280 ?_
  refine kc_V (As := [.int (xs (x3 + (1 : Int32)).toNatClampNeg), .int (xs (x3 + (2 : Int32)).toNatClampNeg)]) (rest := []) B (c_X3_tune l D cI cO tF ad X (xs (x3 + (1 : Int32)).toNatClampNeg) (xs (x3 + (2 : Int32)).toNatClampNeg) (hR.xn)) (cwV 2 hts gL_law_X3_tune rfl rfl rfl (by decide +kernel) ⟨Nat.le_of_ble_eq_true rfl, Nat.le_of_ble_eq_true rfl⟩) hP hD hS [0, 1, 2, 3, 4, 5, 6, 7, 8, 9, 10, 11, 12, 13, 14, 15, 16, 17, 18, 19, 20, 21] wXM_subX (by decide) (w' := wX ad cI cO ((f_X3_tune X (xs (x3 + (1 : Int32)).toNatClampNeg) (xs (x3 + (2 : Int32)).toNatClampNeg)).2) ++ wM bd cI M) (wXM_setX _) (wX_fst _) 0 3 rfl rfl rfl rfl hl.1 rfl (Nat.le_of_ble_eq_true rfl) dL_law_281 ⟨Nat.le_refl _, Nat.le_refl _⟩ (fun H locs hP hD hS => ?_)
  refine lv_aload_n hx hb dL_law_284 rfl (lv_at hl 2 rfl) ?_
  refine lv_aload_n hx hb dL_law_285 rfl (lv_at hl 0 rfl) ?_
  refine lv_iload_n hx hb dL_law_286 rfl (lv_at hl 3 rfl) ?_
  refine lv_iconst (v := (1 : Int32)) hx hb dL_law_287 (by decide) ?_
  refine lv_iadd hx hb dL_law_288 ?_
  refine va_sld hx hb hX hbl hbA hS (sc_in (1 : Int32) 1 h0 h1 hL rfl (by decide)) dL_law_289 ?_
  refine lv_aload_n hx hb dL_law_290 rfl (lv_at hl 0 rfl) ?_
  refine lv_iload_n hx hb dL_law_291 rfl (lv_at hl 3 rfl) ?_
  refine lv_iconst (v := (2 : Int32)) hx hb dL_law_292 (by decide) ?_
  refine lv_iadd hx hb dL_law_293 ?_
  refine va_sld hx hb hX hbl hbA hS (sc_in (2 : Int32) 2 h0 h1 hL rfl (by decide)) dL_law_294 ?_
  refine kc_V (As := [.int (xs (x3 + (1 : Int32)).toNatClampNeg), .int (xs (x3 + (2 : Int32)).toNatClampNeg)]) (rest := [.int ((f_X3_tune X (xs (x3 + (1 : Int32)).toNatClampNeg) (xs (x3 + (2 : Int32)).toNatClampNeg)).1)]) B (c_X4_tune l D cI cO tF bd M (xs (x3 + (1 : Int32)).toNatClampNeg) (xs (x3 + (2 : Int32)).toNatClampNeg) (hR.mn)) (cwV 2 hts gL_law_X4_tune rfl rfl rfl (by decide +kernel) ⟨Nat.le_of_ble_eq_true rfl, Nat.le_of_ble_eq_true rfl⟩) hP hD hS [22, 23, 24, 25, 26, 27, 28, 29, 30, 31, 32, 33, 34] wXM_subM (by decide) (w' := wX ad cI cO ((f_X3_tune X (xs (x3 + (1 : Int32)).toNatClampNeg) (xs (x3 + (2 : Int32)).toNatClampNeg)).2) ++ wM bd cI ((f_X4_tune M (xs (x3 + (1 : Int32)).toNatClampNeg) (xs (x3 + (2 : Int32)).toNatClampNeg)).2)) (wXM_setM _) (wM_fst _) 22 4 rfl rfl rfl rfl hl.1 rfl (Nat.le_of_ble_eq_true rfl) dL_law_295 ⟨Nat.le_refl _, Nat.le_refl _⟩ (fun H locs hP hD hS => ?_)
  have hv := rel_tune hR (xs (x3 + (1 : Int32)).toNatClampNeg) (xs (x3 + (2 : Int32)).toNatClampNeg)
  refine lv_icmp_eq (tgt := 1270) hx hb dL_law_298 (by decide) (fun _ => ?_) (fun h => absurd hv.1 h)
  exact kk _ _ hv.2 _ _ hP hD hS ls hl
set_option maxHeartbeats 4000000 in
set_option maxRecDepth 100000 in
theorem law_c3 {p : Program} (l : Launch) {e : Env} {s : State} {m : MethodId} {below : List Frame} {meth : Method} {c : Code} (D : va_G) (cI cO : ClassId) (tF : Nat) (ad bd : Nat → Nat) {b L : Nat} {xs : Nat → Int32} {A : Nat → Prop} {Q : State → Prop} {args : Array Value} (B : Bx p s m args meth c cL_law 4 ret wsL_law RL D cI cO tF A) (hX : va_X b L xs s s.heap) (hbl : b < s.heap.size) (hbA : ¬ A b) (X : XS) (M : MS) (hR : Rel X M) (x3 : Int32) (h0 : 0 ≤ x3.toInt) (h1 : x3.toInt + 6 ≤ L) (hL : L ≤ 3072) (kk : ∀ (X' : XS) (M' : MS), Rel X' M' → ∀ (H : Heap) (locs : List Loc), va_P D vwCl (wX ad cI cO X' ++ wM bd cI M') H → va_D A (wX ad cI cO X' ++ wM bd cI M') → va_S A s.heap H locs → ∀ ls : Array Slot, lv_has ls 4 [(0, .ref b), (1, .ref (ad 0)), (2, .ref (bd 0)), (3, .int x3)] → W p l e room_1 s m args below meth c H locs 600000 7302250 Q (F0 m 1270 ls [])) (H : Heap) (locs : List Loc) (hP : va_P D vwCl (wX ad cI cO X ++ wM bd cI M) H) (hD : va_D A (wX ad cI cO X ++ wM bd cI M)) (hS : va_S A s.heap H locs) (ls : Array Slot) (hl : lv_has ls 4 [(0, .ref b), (1, .ref (ad 0)), (2, .ref (bd 0)), (3, .int x3)]) : W p l e room_1 s m args below meth c H locs 600000 7302250 Q (F0 m 303 ls []) := by
  obtain ⟨hx, hb, hret, hml, hts, hown, hlocks, hE, hA⟩ := id B
  refine lv_aload_n hx hb dL_law_303 rfl (lv_at hl 1 rfl) ?_
  refine lv_aload_n hx hb dL_law_304 rfl (lv_at hl 0 rfl) ?_
  refine lv_iload_n hx hb dL_law_305 rfl (lv_at hl 3 rfl) ?_
  refine lv_iconst (v := (1 : Int32)) hx hb dL_law_306 (by decide) ?_
  refine lv_iadd hx hb dL_law_307 ?_
  refine va_sld hx hb hX hbl hbA hS (sc_in (1 : Int32) 1 h0 h1 hL rfl (by decide)) dL_law_308 ?_
  refine kc_V (As := [.int (xs (x3 + (1 : Int32)).toNatClampNeg)]) (rest := []) B (c_X3_heard l D cI cO tF ad X (xs (x3 + (1 : Int32)).toNatClampNeg) (hR.xn)) (cwV 1 hts gL_law_X3_heard rfl rfl rfl (by decide +kernel) ⟨Nat.le_of_ble_eq_true rfl, Nat.le_of_ble_eq_true rfl⟩) hP hD hS [0, 1, 2, 3, 4, 5, 6, 7, 8, 9, 10, 11, 12, 13, 14, 15, 16, 17, 18, 19, 20, 21] wXM_subX (by decide) (w' := wX ad cI cO X ++ wM bd cI M) (wXM_setX _) (wX_fst _) 0 3 rfl rfl rfl rfl hl.1 rfl (Nat.le_of_ble_eq_true rfl) dL_law_309 ⟨Nat.le_refl _, Nat.le_refl _⟩ (fun H locs hP hD hS => ?_)
  refine lv_aload_n hx hb dL_law_312 rfl (lv_at hl 2 rfl) ?_
  refine lv_aload_n hx hb dL_law_313 rfl (lv_at hl 0 rfl) ?_
  refine lv_iload_n hx hb dL_law_314 rfl (lv_at hl 3 rfl) ?_
  refine lv_iconst (v := (1 : Int32)) hx hb dL_law_315 (by decide) ?_
  refine lv_iadd hx hb dL_law_316 ?_
  refine va_sld hx hb hX hbl hbA hS (sc_in (1 : Int32) 1 h0 h1 hL rfl (by decide)) dL_law_317 ?_
  refine kc_V (As := [.int (xs (x3 + (1 : Int32)).toNatClampNeg)]) (rest := [.int (f_X3_heard X (xs (x3 + (1 : Int32)).toNatClampNeg))]) B (c_X4_heard l D cI cO tF bd M (xs (x3 + (1 : Int32)).toNatClampNeg) (hR.mn) (hR.ht)) (cwV 1 hts gL_law_X4_heard rfl rfl rfl (by decide +kernel) ⟨Nat.le_of_ble_eq_true rfl, Nat.le_of_ble_eq_true rfl⟩) hP hD hS [22, 23, 24, 25, 26, 27, 28, 29, 30, 31, 32, 33, 34] wXM_subM (by decide) (w' := wX ad cI cO X ++ wM bd cI M) (wXM_setM _) (wM_fst _) 22 4 rfl rfl rfl rfl hl.1 rfl (Nat.le_of_ble_eq_true rfl) dL_law_318 ⟨Nat.le_refl _, Nat.le_refl _⟩ (fun H locs hP hD hS => ?_)
  have hv := rel_heard hR (xs (x3 + (1 : Int32)).toNatClampNeg)
  refine lv_icmp_eq (tgt := 1270) hx hb dL_law_321 (by decide) (fun _ => ?_) (fun h => absurd hv h)
  exact kk _ _ hR _ _ hP hD hS ls hl
set_option maxHeartbeats 4000000 in
set_option maxRecDepth 100000 in
theorem law_c4 {p : Program} (l : Launch) {e : Env} {s : State} {m : MethodId} {below : List Frame} {meth : Method} {c : Code} (D : va_G) (cI cO : ClassId) (tF : Nat) (ad bd : Nat → Nat) {b L : Nat} {xs : Nat → Int32} {A : Nat → Prop} {Q : State → Prop} {args : Array Value} (B : Bx p s m args meth c cL_law 4 ret wsL_law RL D cI cO tF A) (hX : va_X b L xs s s.heap) (hbl : b < s.heap.size) (hbA : ¬ A b) (X : XS) (M : MS) (hR : Rel X M) (x3 : Int32) (h0 : 0 ≤ x3.toInt) (h1 : x3.toInt + 6 ≤ L) (hL : L ≤ 3072) (kk : ∀ (X' : XS) (M' : MS), Rel X' M' → ∀ (H : Heap) (locs : List Loc), va_P D vwCl (wX ad cI cO X' ++ wM bd cI M') H → va_D A (wX ad cI cO X' ++ wM bd cI M') → va_S A s.heap H locs → ∀ ls : Array Slot, lv_has ls 4 [(0, .ref b), (1, .ref (ad 0)), (2, .ref (bd 0)), (3, .int x3)] → W p l e room_1 s m args below meth c H locs 600000 7302250 Q (F0 m 1270 ls [])) (H : Heap) (locs : List Loc) (hP : va_P D vwCl (wX ad cI cO X ++ wM bd cI M) H) (hD : va_D A (wX ad cI cO X ++ wM bd cI M)) (hS : va_S A s.heap H locs) (ls : Array Slot) (hl : lv_has ls 4 [(0, .ref b), (1, .ref (ad 0)), (2, .ref (bd 0)), (3, .int x3)]) : W p l e room_1 s m args below meth c H locs 600000 7302250 Q (F0 m 326 ls []) := by
  obtain ⟨hx, hb, hret, hml, hts, hown, hlocks, hE, hA⟩ := id B
  refine lv_aload_n hx hb dL_law_326 rfl (lv_at hl 1 rfl) ?_
  refine lv_aload_n hx hb dL_law_327 rfl (lv_at hl 0 rfl) ?_
  refine lv_iload_n hx hb dL_law_328 rfl (lv_at hl 3 rfl) ?_
  refine lv_iconst (v := (1 : Int32)) hx hb dL_law_329 (by decide) ?_
  refine lv_iadd hx hb dL_law_330 ?_
  refine va_sld hx hb hX hbl hbA hS (sc_in (1 : Int32) 1 h0 h1 hL rfl (by decide)) dL_law_331 ?_
  refine kc_V (As := [.int (xs (x3 + (1 : Int32)).toNatClampNeg)]) (rest := []) B (c_X3_day l D cI cO tF ad X (xs (x3 + (1 : Int32)).toNatClampNeg) (hR.xn)) (cwV 1 hts gL_law_X3_day rfl rfl rfl (by decide +kernel) ⟨Nat.le_of_ble_eq_true rfl, Nat.le_of_ble_eq_true rfl⟩) hP hD hS [0, 1, 2, 3, 4, 5, 6, 7, 8, 9, 10, 11, 12, 13, 14, 15, 16, 17, 18, 19, 20, 21] wXM_subX (by decide) (w' := wX ad cI cO ((f_X3_day X (xs (x3 + (1 : Int32)).toNatClampNeg)).2) ++ wM bd cI M) (wXM_setX _) (wX_fst _) 0 3 rfl rfl rfl rfl hl.1 rfl (Nat.le_of_ble_eq_true rfl) dL_law_332 ⟨Nat.le_refl _, Nat.le_refl _⟩ (fun H locs hP hD hS => ?_)
  refine lv_aload_n hx hb dL_law_335 rfl (lv_at hl 2 rfl) ?_
  refine lv_aload_n hx hb dL_law_336 rfl (lv_at hl 0 rfl) ?_
  refine lv_iload_n hx hb dL_law_337 rfl (lv_at hl 3 rfl) ?_
  refine lv_iconst (v := (1 : Int32)) hx hb dL_law_338 (by decide) ?_
  refine lv_iadd hx hb dL_law_339 ?_
  refine va_sld hx hb hX hbl hbA hS (sc_in (1 : Int32) 1 h0 h1 hL rfl (by decide)) dL_law_340 ?_
  refine kc_V (As := [.int (xs (x3 + (1 : Int32)).toNatClampNeg)]) (rest := [.int ((f_X3_day X (xs (x3 + (1 : Int32)).toNatClampNeg)).1)]) B (c_X4_day l D cI cO tF bd M (xs (x3 + (1 : Int32)).toNatClampNeg) (hR.mn) (hR.so)) (cwV 1 hts gL_law_X4_day rfl rfl rfl (by decide +kernel) ⟨Nat.le_of_ble_eq_true rfl, Nat.le_of_ble_eq_true rfl⟩) hP hD hS [22, 23, 24, 25, 26, 27, 28, 29, 30, 31, 32, 33, 34] wXM_subM (by decide) (w' := wX ad cI cO ((f_X3_day X (xs (x3 + (1 : Int32)).toNatClampNeg)).2) ++ wM bd cI ((f_X4_day M (xs (x3 + (1 : Int32)).toNatClampNeg)).2)) (wXM_setM _) (wM_fst _) 22 4 rfl rfl rfl rfl hl.1 rfl (Nat.le_of_ble_eq_true rfl) dL_law_341 ⟨Nat.le_refl _, Nat.le_refl _⟩ (fun H locs hP hD hS => ?_)
  have hv := rel_day hR (xs (x3 + (1 : Int32)).toNatClampNeg)
  refine lv_icmp_eq (tgt := 1270) hx hb dL_law_344 (by decide) (fun _ => ?_) (fun h => absurd hv.1 h)
  exact kk _ _ hv.2 _ _ hP hD hS ls hl
set_option maxHeartbeats 4000000 in
set_option maxRecDepth 100000 in
theorem law_c5 {p : Program} (l : Launch) {e : Env} {s : State} {m : MethodId} {below : List Frame} {meth : Method} {c : Code} (D : va_G) (cI cO : ClassId) (tF : Nat) (ad bd : Nat → Nat) {b L : Nat} {xs : Nat → Int32} {A : Nat → Prop} {Q : State → Prop} {args : Array Value} (B : Bx p s m args meth c cL_law 4 ret wsL_law RL D cI cO tF A) (hX : va_X b L xs s s.heap) (hbl : b < s.heap.size) (hbA : ¬ A b) (X : XS) (M : MS) (hR : Rel X M) (x3 : Int32) (h0 : 0 ≤ x3.toInt) (h1 : x3.toInt + 6 ≤ L) (hL : L ≤ 3072) (kk : ∀ (X' : XS) (M' : MS), Rel X' M' → ∀ (H : Heap) (locs : List Loc), va_P D vwCl (wX ad cI cO X' ++ wM bd cI M') H → va_D A (wX ad cI cO X' ++ wM bd cI M') → va_S A s.heap H locs → ∀ ls : Array Slot, lv_has ls 4 [(0, .ref b), (1, .ref (ad 0)), (2, .ref (bd 0)), (3, .int x3)] → W p l e room_1 s m args below meth c H locs 600000 7302250 Q (F0 m 1270 ls [])) (H : Heap) (locs : List Loc) (hP : va_P D vwCl (wX ad cI cO X ++ wM bd cI M) H) (hD : va_D A (wX ad cI cO X ++ wM bd cI M)) (hS : va_S A s.heap H locs) (ls : Array Slot) (hl : lv_has ls 4 [(0, .ref b), (1, .ref (ad 0)), (2, .ref (bd 0)), (3, .int x3)]) : W p l e room_1 s m args below meth c H locs 600000 7302250 Q (F0 m 349 ls []) := by
  obtain ⟨hx, hb, hret, hml, hts, hown, hlocks, hE, hA⟩ := id B
  refine lv_aload_n hx hb dL_law_349 rfl (lv_at hl 1 rfl) ?_
  refine lv_aload_n hx hb dL_law_350 rfl (lv_at hl 0 rfl) ?_
  refine lv_iload_n hx hb dL_law_351 rfl (lv_at hl 3 rfl) ?_
  refine lv_iconst (v := (1 : Int32)) hx hb dL_law_352 (by decide) ?_
  refine lv_iadd hx hb dL_law_353 ?_
  refine va_sld hx hb hX hbl hbA hS (sc_in (1 : Int32) 1 h0 h1 hL rfl (by decide)) dL_law_354 ?_
  refine kc_V (As := [.int (xs (x3 + (1 : Int32)).toNatClampNeg)]) (rest := []) B (c_X3_leave l D cI cO tF ad X (xs (x3 + (1 : Int32)).toNatClampNeg) (hR.xn)) (cwV 1 hts gL_law_X3_leave rfl rfl rfl (by decide +kernel) ⟨Nat.le_of_ble_eq_true rfl, Nat.le_of_ble_eq_true rfl⟩) hP hD hS [0, 1, 2, 3, 4, 5, 6, 7, 8, 9, 10, 11, 12, 13, 14, 15, 16, 17, 18, 19, 20, 21] wXM_subX (by decide) (w' := wX ad cI cO ((f_X3_leave X (xs (x3 + (1 : Int32)).toNatClampNeg)).2) ++ wM bd cI M) (wXM_setX _) (wX_fst _) 0 3 rfl rfl rfl rfl hl.1 rfl (Nat.le_of_ble_eq_true rfl) dL_law_355 ⟨Nat.le_refl _, Nat.le_refl _⟩ (fun H locs hP hD hS => ?_)
  refine lv_aload_n hx hb dL_law_358 rfl (lv_at hl 2 rfl) ?_
  refine lv_aload_n hx hb dL_law_359 rfl (lv_at hl 0 rfl) ?_
  refine lv_iload_n hx hb dL_law_360 rfl (lv_at hl 3 rfl) ?_
  refine lv_iconst (v := (1 : Int32)) hx hb dL_law_361 (by decide) ?_
  refine lv_iadd hx hb dL_law_362 ?_
  refine va_sld hx hb hX hbl hbA hS (sc_in (1 : Int32) 1 h0 h1 hL rfl (by decide)) dL_law_363 ?_
  refine kc_V (As := [.int (xs (x3 + (1 : Int32)).toNatClampNeg)]) (rest := [.int ((f_X3_leave X (xs (x3 + (1 : Int32)).toNatClampNeg)).1)]) B (c_X4_leave l D cI cO tF bd M (xs (x3 + (1 : Int32)).toNatClampNeg) (hR.mn) (hR.so)) (cwV 1 hts gL_law_X4_leave rfl rfl rfl (by decide +kernel) ⟨Nat.le_of_ble_eq_true rfl, Nat.le_of_ble_eq_true rfl⟩) hP hD hS [22, 23, 24, 25, 26, 27, 28, 29, 30, 31, 32, 33, 34] wXM_subM (by decide) (w' := wX ad cI cO ((f_X3_leave X (xs (x3 + (1 : Int32)).toNatClampNeg)).2) ++ wM bd cI ((f_X4_leave M (xs (x3 + (1 : Int32)).toNatClampNeg)).2)) (wXM_setM _) (wM_fst _) 22 4 rfl rfl rfl rfl hl.1 rfl (Nat.le_of_ble_eq_true rfl) dL_law_364 ⟨Nat.le_refl _, Nat.le_refl _⟩ (fun H locs hP hD hS => ?_)
  have hv := rel_leave hR (xs (x3 + (1 : Int32)).toNatClampNeg)
  refine lv_icmp_eq (tgt := 1270) hx hb dL_law_367 (by decide) (fun _ => ?_) (fun h => absurd hv.1 h)
  exact kk _ _ hv.2 _ _ hP hD hS ls hl
set_option maxHeartbeats 4000000 in
set_option maxRecDepth 100000 in
theorem law_c6 {p : Program} (l : Launch) {e : Env} {s : State} {m : MethodId} {below : List Frame} {meth : Method} {c : Code} (D : va_G) (cI cO : ClassId) (tF : Nat) (ad bd : Nat → Nat) {b L : Nat} {xs : Nat → Int32} {A : Nat → Prop} {Q : State → Prop} {args : Array Value} (B : Bx p s m args meth c cL_law 4 ret wsL_law RL D cI cO tF A) (hX : va_X b L xs s s.heap) (hbl : b < s.heap.size) (hbA : ¬ A b) (X : XS) (M : MS) (hR : Rel X M) (x3 : Int32) (h0 : 0 ≤ x3.toInt) (h1 : x3.toInt + 6 ≤ L) (hL : L ≤ 3072) (kk : ∀ (X' : XS) (M' : MS), Rel X' M' → ∀ (H : Heap) (locs : List Loc), va_P D vwCl (wX ad cI cO X' ++ wM bd cI M') H → va_D A (wX ad cI cO X' ++ wM bd cI M') → va_S A s.heap H locs → ∀ ls : Array Slot, lv_has ls 4 [(0, .ref b), (1, .ref (ad 0)), (2, .ref (bd 0)), (3, .int x3)] → W p l e room_1 s m args below meth c H locs 600000 7302250 Q (F0 m 1270 ls [])) (H : Heap) (locs : List Loc) (hP : va_P D vwCl (wX ad cI cO X ++ wM bd cI M) H) (hD : va_D A (wX ad cI cO X ++ wM bd cI M)) (hS : va_S A s.heap H locs) (ls : Array Slot) (hl : lv_has ls 4 [(0, .ref b), (1, .ref (ad 0)), (2, .ref (bd 0)), (3, .int x3)]) : W p l e room_1 s m args below meth c H locs 600000 7302250 Q (F0 m 372 ls []) := by
  obtain ⟨hx, hb, hret, hml, hts, hown, hlocks, hE, hA⟩ := id B
  refine lv_aload_n hx hb dL_law_372 rfl (lv_at hl 1 rfl) ?_
  refine lv_aload_n hx hb dL_law_373 rfl (lv_at hl 0 rfl) ?_
  refine lv_iload_n hx hb dL_law_374 rfl (lv_at hl 3 rfl) ?_
  refine lv_iconst (v := (1 : Int32)) hx hb dL_law_375 (by decide) ?_
  refine lv_iadd hx hb dL_law_376 ?_
  refine va_sld hx hb hX hbl hbA hS (sc_in (1 : Int32) 1 h0 h1 hL rfl (by decide)) dL_law_377 ?_
  refine kc_V (As := [.int (xs (x3 + (1 : Int32)).toNatClampNeg)]) (rest := []) B (c_X3_come l D cI cO tF ad X (xs (x3 + (1 : Int32)).toNatClampNeg) (hR.xn)) (cwV 1 hts gL_law_X3_come rfl rfl rfl (by decide +kernel) ⟨Nat.le_of_ble_eq_true rfl, Nat.le_of_ble_eq_true rfl⟩) hP hD hS [0, 1, 2, 3, 4, 5, 6, 7, 8, 9, 10, 11, 12, 13, 14, 15, 16, 17, 18, 19, 20, 21] wXM_subX (by decide) (w' := wX ad cI cO ((f_X3_come X (xs (x3 + (1 : Int32)).toNatClampNeg)).2) ++ wM bd cI M) (wXM_setX _) (wX_fst _) 0 3 rfl rfl rfl rfl hl.1 rfl (Nat.le_of_ble_eq_true rfl) dL_law_378 ⟨Nat.le_refl _, Nat.le_refl _⟩ (fun H locs hP hD hS => ?_)
  refine lv_aload_n hx hb dL_law_381 rfl (lv_at hl 2 rfl) ?_
  refine lv_aload_n hx hb dL_law_382 rfl (lv_at hl 0 rfl) ?_
  refine lv_iload_n hx hb dL_law_383 rfl (lv_at hl 3 rfl) ?_
  refine lv_iconst (v := (1 : Int32)) hx hb dL_law_384 (by decide) ?_
  refine lv_iadd hx hb dL_law_385 ?_
  refine va_sld hx hb hX hbl hbA hS (sc_in (1 : Int32) 1 h0 h1 hL rfl (by decide)) dL_law_386 ?_
  refine kc_V (As := [.int (xs (x3 + (1 : Int32)).toNatClampNeg)]) (rest := [.int ((f_X3_come X (xs (x3 + (1 : Int32)).toNatClampNeg)).1)]) B (c_X4_come l D cI cO tF bd M (xs (x3 + (1 : Int32)).toNatClampNeg) ) (cwV 1 hts gL_law_X4_come rfl rfl rfl (by decide +kernel) ⟨Nat.le_of_ble_eq_true rfl, Nat.le_of_ble_eq_true rfl⟩) hP hD hS [22, 23, 24, 25, 26, 27, 28, 29, 30, 31, 32, 33, 34] wXM_subM (by decide) (w' := wX ad cI cO ((f_X3_come X (xs (x3 + (1 : Int32)).toNatClampNeg)).2) ++ wM bd cI ((f_X4_come M (xs (x3 + (1 : Int32)).toNatClampNeg)).2)) (wXM_setM _) (wM_fst _) 22 4 rfl rfl rfl rfl hl.1 rfl (Nat.le_of_ble_eq_true rfl) dL_law_387 ⟨Nat.le_refl _, Nat.le_refl _⟩ (fun H locs hP hD hS => ?_)
  have hv := rel_come hR (xs (x3 + (1 : Int32)).toNatClampNeg)
  refine lv_icmp_eq (tgt := 1270) hx hb dL_law_390 (by decide) (fun _ => ?_) (fun h => absurd hv.1 h)
  exact kk _ _ hv.2 _ _ hP hD hS ls hl
set_option maxHeartbeats 4000000 in
set_option maxRecDepth 100000 in
theorem law_c7 {p : Program} (l : Launch) {e : Env} {s : State} {m : MethodId} {below : List Frame} {meth : Method} {c : Code} (D : va_G) (cI cO : ClassId) (tF : Nat) (ad bd : Nat → Nat) {b L : Nat} {xs : Nat → Int32} {A : Nat → Prop} {Q : State → Prop} {args : Array Value} (B : Bx p s m args meth c cL_law 4 ret wsL_law RL D cI cO tF A) (hX : va_X b L xs s s.heap) (hbl : b < s.heap.size) (hbA : ¬ A b) (X : XS) (M : MS) (hR : Rel X M) (x3 : Int32) (h0 : 0 ≤ x3.toInt) (h1 : x3.toInt + 6 ≤ L) (hL : L ≤ 3072) (kk : ∀ (X' : XS) (M' : MS), Rel X' M' → ∀ (H : Heap) (locs : List Loc), va_P D vwCl (wX ad cI cO X' ++ wM bd cI M') H → va_D A (wX ad cI cO X' ++ wM bd cI M') → va_S A s.heap H locs → ∀ ls : Array Slot, lv_has ls 4 [(0, .ref b), (1, .ref (ad 0)), (2, .ref (bd 0)), (3, .int x3)] → W p l e room_1 s m args below meth c H locs 600000 7302250 Q (F0 m 1270 ls [])) (H : Heap) (locs : List Loc) (hP : va_P D vwCl (wX ad cI cO X ++ wM bd cI M) H) (hD : va_D A (wX ad cI cO X ++ wM bd cI M)) (hS : va_S A s.heap H locs) (ls : Array Slot) (hl : lv_has ls 4 [(0, .ref b), (1, .ref (ad 0)), (2, .ref (bd 0)), (3, .int x3)]) : W p l e room_1 s m args below meth c H locs 600000 7302250 Q (F0 m 395 ls []) := by
  obtain ⟨hx, hb, hret, hml, hts, hown, hlocks, hE, hA⟩ := id B
  refine lv_aload_n hx hb dL_law_395 rfl (lv_at hl 1 rfl) ?_
  refine lv_aload_n hx hb dL_law_396 rfl (lv_at hl 0 rfl) ?_
  refine lv_iload_n hx hb dL_law_397 rfl (lv_at hl 3 rfl) ?_
  refine lv_iconst (v := (1 : Int32)) hx hb dL_law_398 (by decide) ?_
  refine lv_iadd hx hb dL_law_399 ?_
  refine va_sld hx hb hX hbl hbA hS (sc_in (1 : Int32) 1 h0 h1 hL rfl (by decide)) dL_law_400 ?_
  refine kc_V (As := [.int (xs (x3 + (1 : Int32)).toNatClampNeg)]) (rest := []) B (c_X3_gather l D cI cO tF ad X (xs (x3 + (1 : Int32)).toNatClampNeg) (hR.xn)) (cwV 1 hts gL_law_X3_gather rfl rfl rfl (by decide +kernel) ⟨Nat.le_of_ble_eq_true rfl, Nat.le_of_ble_eq_true rfl⟩) hP hD hS [0, 1, 2, 3, 4, 5, 6, 7, 8, 9, 10, 11, 12, 13, 14, 15, 16, 17, 18, 19, 20, 21] wXM_subX (by decide) (w' := wX ad cI cO ((f_X3_gather X (xs (x3 + (1 : Int32)).toNatClampNeg)).2) ++ wM bd cI M) (wXM_setX _) (wX_fst _) 0 3 rfl rfl rfl rfl hl.1 rfl (Nat.le_of_ble_eq_true rfl) dL_law_401 ⟨Nat.le_refl _, Nat.le_refl _⟩ (fun H locs hP hD hS => ?_)
  refine lv_aload_n hx hb dL_law_404 rfl (lv_at hl 2 rfl) ?_
  refine lv_aload_n hx hb dL_law_405 rfl (lv_at hl 0 rfl) ?_
  refine lv_iload_n hx hb dL_law_406 rfl (lv_at hl 3 rfl) ?_
  refine lv_iconst (v := (1 : Int32)) hx hb dL_law_407 (by decide) ?_
  refine lv_iadd hx hb dL_law_408 ?_
  refine va_sld hx hb hX hbl hbA hS (sc_in (1 : Int32) 1 h0 h1 hL rfl (by decide)) dL_law_409 ?_
  refine kc_V (As := [.int (xs (x3 + (1 : Int32)).toNatClampNeg)]) (rest := [.int ((f_X3_gather X (xs (x3 + (1 : Int32)).toNatClampNeg)).1)]) B (c_X4_gather l D cI cO tF bd M (xs (x3 + (1 : Int32)).toNatClampNeg) (hR.mn)) (cwV 1 hts gL_law_X4_gather rfl rfl rfl (by decide +kernel) ⟨Nat.le_of_ble_eq_true rfl, Nat.le_of_ble_eq_true rfl⟩) hP hD hS [22, 23, 24, 25, 26, 27, 28, 29, 30, 31, 32, 33, 34] wXM_subM (by decide) (w' := wX ad cI cO ((f_X3_gather X (xs (x3 + (1 : Int32)).toNatClampNeg)).2) ++ wM bd cI ((f_X4_gather M (xs (x3 + (1 : Int32)).toNatClampNeg)).2)) (wXM_setM _) (wM_fst _) 22 4 rfl rfl rfl rfl hl.1 rfl (Nat.le_of_ble_eq_true rfl) dL_law_410 ⟨Nat.le_refl _, Nat.le_refl _⟩ (fun H locs hP hD hS => ?_)
  have hv := rel_gather hR (xs (x3 + (1 : Int32)).toNatClampNeg)
  refine lv_icmp_eq (tgt := 1270) hx hb dL_law_413 (by decide) (fun _ => ?_) (fun h => absurd hv.1 h)
  exact kk _ _ hv.2 _ _ hP hD hS ls hl
set_option maxHeartbeats 4000000 in
set_option maxRecDepth 100000 in
theorem law_c8 {p : Program} (l : Launch) {e : Env} {s : State} {m : MethodId} {below : List Frame} {meth : Method} {c : Code} (D : va_G) (cI cO : ClassId) (tF : Nat) (ad bd : Nat → Nat) {b L : Nat} {xs : Nat → Int32} {A : Nat → Prop} {Q : State → Prop} {args : Array Value} (B : Bx p s m args meth c cL_law 4 ret wsL_law RL D cI cO tF A) (hX : va_X b L xs s s.heap) (hbl : b < s.heap.size) (hbA : ¬ A b) (X : XS) (M : MS) (hR : Rel X M) (x3 : Int32) (h0 : 0 ≤ x3.toInt) (h1 : x3.toInt + 6 ≤ L) (hL : L ≤ 3072) (kk : ∀ (X' : XS) (M' : MS), Rel X' M' → ∀ (H : Heap) (locs : List Loc), va_P D vwCl (wX ad cI cO X' ++ wM bd cI M') H → va_D A (wX ad cI cO X' ++ wM bd cI M') → va_S A s.heap H locs → ∀ ls : Array Slot, lv_has ls 4 [(0, .ref b), (1, .ref (ad 0)), (2, .ref (bd 0)), (3, .int x3)] → W p l e room_1 s m args below meth c H locs 600000 7302250 Q (F0 m 1270 ls [])) (H : Heap) (locs : List Loc) (hP : va_P D vwCl (wX ad cI cO X ++ wM bd cI M) H) (hD : va_D A (wX ad cI cO X ++ wM bd cI M)) (hS : va_S A s.heap H locs) (ls : Array Slot) (hl : lv_has ls 4 [(0, .ref b), (1, .ref (ad 0)), (2, .ref (bd 0)), (3, .int x3)]) : W p l e room_1 s m args below meth c H locs 600000 7302250 Q (F0 m 418 ls []) := by
  obtain ⟨hx, hb, hret, hml, hts, hown, hlocks, hE, hA⟩ := id B
  refine lv_aload_n hx hb dL_law_418 rfl (lv_at hl 1 rfl) ?_
  refine lv_aload_n hx hb dL_law_419 rfl (lv_at hl 0 rfl) ?_
  refine lv_iload_n hx hb dL_law_420 rfl (lv_at hl 3 rfl) ?_
  refine lv_iconst (v := (1 : Int32)) hx hb dL_law_421 (by decide) ?_
  refine lv_iadd hx hb dL_law_422 ?_
  refine va_sld hx hb hX hbl hbA hS (sc_in (1 : Int32) 1 h0 h1 hL rfl (by decide)) dL_law_423 ?_
  refine lv_aload_n hx hb dL_law_424 rfl (lv_at hl 0 rfl) ?_
  refine lv_iload_n hx hb dL_law_425 rfl (lv_at hl 3 rfl) ?_
  refine lv_iconst (v := (2 : Int32)) hx hb dL_law_426 (by decide) ?_
  refine lv_iadd hx hb dL_law_427 ?_
  refine va_sld hx hb hX hbl hbA hS (sc_in (2 : Int32) 2 h0 h1 hL rfl (by decide)) dL_law_428 ?_
  refine kc_V (As := [.int (xs (x3 + (1 : Int32)).toNatClampNeg), .int (xs (x3 + (2 : Int32)).toNatClampNeg)]) (rest := []) B (c_X3_pack l D cI cO tF ad X (xs (x3 + (1 : Int32)).toNatClampNeg) (xs (x3 + (2 : Int32)).toNatClampNeg) (hR.xn)) (cwV 2 hts gL_law_X3_pack rfl rfl rfl (by decide +kernel) ⟨Nat.le_of_ble_eq_true rfl, Nat.le_of_ble_eq_true rfl⟩) hP hD hS [0, 1, 2, 3, 4, 5, 6, 7, 8, 9, 10, 11, 12, 13, 14, 15, 16, 17, 18, 19, 20, 21] wXM_subX (by decide) (w' := wX ad cI cO ((f_X3_pack X (xs (x3 + (1 : Int32)).toNatClampNeg) (xs (x3 + (2 : Int32)).toNatClampNeg)).2) ++ wM bd cI M) (wXM_setX _) (wX_fst _) 0 3 rfl rfl rfl rfl hl.1 rfl (Nat.le_of_ble_eq_true rfl) dL_law_429 ⟨Nat.le_refl _, Nat.le_refl _⟩ (fun H locs hP hD hS => ?_)
  refine lv_aload_n hx hb dL_law_432 rfl (lv_at hl 2 rfl) ?_
  refine lv_aload_n hx hb dL_law_433 rfl (lv_at hl 0 rfl) ?_
  refine lv_iload_n hx hb dL_law_434 rfl (lv_at hl 3 rfl) ?_
  refine lv_iconst (v := (1 : Int32)) hx hb dL_law_435 (by decide) ?_
  refine lv_iadd hx hb dL_law_436 ?_
  refine va_sld hx hb hX hbl hbA hS (sc_in (1 : Int32) 1 h0 h1 hL rfl (by decide)) dL_law_437 ?_
  refine lv_aload_n hx hb dL_law_438 rfl (lv_at hl 0 rfl) ?_
  refine lv_iload_n hx hb dL_law_439 rfl (lv_at hl 3 rfl) ?_
  refine lv_iconst (v := (2 : Int32)) hx hb dL_law_440 (by decide) ?_
  refine lv_iadd hx hb dL_law_441 ?_
  refine va_sld hx hb hX hbl hbA hS (sc_in (2 : Int32) 2 h0 h1 hL rfl (by decide)) dL_law_442 ?_
  refine kc_V (As := [.int (xs (x3 + (1 : Int32)).toNatClampNeg), .int (xs (x3 + (2 : Int32)).toNatClampNeg)]) (rest := [.int ((f_X3_pack X (xs (x3 + (1 : Int32)).toNatClampNeg) (xs (x3 + (2 : Int32)).toNatClampNeg)).1)]) B (c_X4_pack l D cI cO tF bd M (xs (x3 + (1 : Int32)).toNatClampNeg) (xs (x3 + (2 : Int32)).toNatClampNeg) (hR.mn)) (cwV 2 hts gL_law_X4_pack rfl rfl rfl (by decide +kernel) ⟨Nat.le_of_ble_eq_true rfl, Nat.le_of_ble_eq_true rfl⟩) hP hD hS [22, 23, 24, 25, 26, 27, 28, 29, 30, 31, 32, 33, 34] wXM_subM (by decide) (w' := wX ad cI cO ((f_X3_pack X (xs (x3 + (1 : Int32)).toNatClampNeg) (xs (x3 + (2 : Int32)).toNatClampNeg)).2) ++ wM bd cI ((f_X4_pack M (xs (x3 + (1 : Int32)).toNatClampNeg) (xs (x3 + (2 : Int32)).toNatClampNeg)).2)) (wXM_setM _) (wM_fst _) 22 4 rfl rfl rfl rfl hl.1 rfl (Nat.le_of_ble_eq_true rfl) dL_law_443 ⟨Nat.le_refl _, Nat.le_refl _⟩ (fun H locs hP hD hS => ?_)
  have hv := rel_pack hR (xs (x3 + (1 : Int32)).toNatClampNeg) (xs (x3 + (2 : Int32)).toNatClampNeg)
  refine lv_icmp_eq (tgt := 1270) hx hb dL_law_446 (by decide) (fun _ => ?_) (fun h => absurd hv.1 h)
  exact kk _ _ hv.2 _ _ hP hD hS ls hl
