set_option maxHeartbeats 4000000 in
set_option maxRecDepth 100000 in
theorem law_c9 {p : Program} (l : Launch) {e : Env} {s : State} {m : MethodId} {below : List Frame} {meth : Method} {c : Code} (D : va_G) (cI cO : ClassId) (tF : Nat) (ad bd : Nat → Nat) {b L : Nat} {xs : Nat → Int32} {A : Nat → Prop} {Q : State → Prop} {args : Array Value} (B : Bx p s m args meth c cL_law 4 ret wsL_law RL D cI cO tF A) (hX : va_X b L xs s s.heap) (hbl : b < s.heap.size) (hbA : ¬ A b) (X : XS) (M : MS) (hR : Rel X M) (x3 : Int32) (h0 : 0 ≤ x3.toInt) (h1 : x3.toInt + 6 ≤ L) (hL : L ≤ 3072) (kk : ∀ (X' : XS) (M' : MS), Rel X' M' → ∀ (H : Heap) (locs : List Loc), va_P D vwCl (wX ad cI cO X' ++ wM bd cI M') H → va_D A (wX ad cI cO X' ++ wM bd cI M') → va_S A s.heap H locs → ∀ ls : Array Slot, lv_has ls 4 [(0, .ref b), (1, .ref (ad 0)), (2, .ref (bd 0)), (3, .int x3)] → W p l e room_1 s m args below meth c H locs 600000 7302250 Q (F0 m 1270 ls [])) (H : Heap) (locs : List Loc) (hP : va_P D vwCl (wX ad cI cO X ++ wM bd cI M) H) (hD : va_D A (wX ad cI cO X ++ wM bd cI M)) (hS : va_S A s.heap H locs) (ls : Array Slot) (hl : lv_has ls 4 [(0, .ref b), (1, .ref (ad 0)), (2, .ref (bd 0)), (3, .int x3)]) : W p l e room_1 s m args below meth c H locs 600000 7302250 Q (F0 m 451 ls []) := by
  obtain ⟨hx, hb, hret, hml, hts, hown, hlocks, hE, hA⟩ := id B
  refine lv_aload_n hx hb dL_law_451 rfl (lv_at hl 1 rfl) ?_
  refine lv_aload_n hx hb dL_law_452 rfl (lv_at hl 0 rfl) ?_
  refine lv_iload_n hx hb dL_law_453 rfl (lv_at hl 3 rfl) ?_
  refine lv_iconst (v := (1 : Int32)) hx hb dL_law_454 (by decide) ?_
  refine lv_iadd hx hb dL_law_455 ?_
  refine va_sld hx hb hX hbl hbA hS (sc_in (1 : Int32) 1 h0 h1 hL rfl (by decide)) dL_law_456 ?_
  refine kc_V (As := [.int (xs (x3 + (1 : Int32)).toNatClampNeg)]) (rest := []) B (c_X3_open l D cI cO tF ad X (xs (x3 + (1 : Int32)).toNatClampNeg) (hR.xn)) (cwV 1 hts gL_law_X3_open rfl rfl rfl (by decide +kernel) ⟨Nat.le_of_ble_eq_true rfl, Nat.le_of_ble_eq_true rfl⟩) hP hD hS [0, 1, 2, 3, 4, 5, 6, 7, 8, 9, 10, 11, 12, 13, 14, 15, 16, 17, 18, 19, 20, 21] wXM_subX (by decide) (w' := wX ad cI cO ((f_X3_open X (xs (x3 + (1 : Int32)).toNatClampNeg)).2) ++ wM bd cI M) (wXM_setX _) (wX_fst _) 0 3 rfl rfl rfl rfl hl.1 rfl (Nat.le_of_ble_eq_true rfl) dL_law_457 ⟨Nat.le_refl _, Nat.le_refl _⟩ (fun H locs hP hD hS => ?_)
  refine lv_aload_n hx hb dL_law_460 rfl (lv_at hl 2 rfl) ?_
  refine lv_aload_n hx hb dL_law_461 rfl (lv_at hl 0 rfl) ?_
  refine lv_iload_n hx hb dL_law_462 rfl (lv_at hl 3 rfl) ?_
  refine lv_iconst (v := (1 : Int32)) hx hb dL_law_463 (by decide) ?_
  refine lv_iadd hx hb dL_law_464 ?_
  refine va_sld hx hb hX hbl hbA hS (sc_in (1 : Int32) 1 h0 h1 hL rfl (by decide)) dL_law_465 ?_
  refine kc_V (As := [.int (xs (x3 + (1 : Int32)).toNatClampNeg)]) (rest := [.int ((f_X3_open X (xs (x3 + (1 : Int32)).toNatClampNeg)).1)]) B (c_X4_open l D cI cO tF bd M (xs (x3 + (1 : Int32)).toNatClampNeg) (hR.mn)) (cwV 1 hts gL_law_X4_open rfl rfl rfl (by decide +kernel) ⟨Nat.le_of_ble_eq_true rfl, Nat.le_of_ble_eq_true rfl⟩) hP hD hS [22, 23, 24, 25, 26, 27, 28, 29, 30, 31, 32, 33, 34] wXM_subM (by decide) (w' := wX ad cI cO ((f_X3_open X (xs (x3 + (1 : Int32)).toNatClampNeg)).2) ++ wM bd cI ((f_X4_open M (xs (x3 + (1 : Int32)).toNatClampNeg)).2)) (wXM_setM _) (wM_fst _) 22 4 rfl rfl rfl rfl hl.1 rfl (Nat.le_of_ble_eq_true rfl) dL_law_466 ⟨Nat.le_refl _, Nat.le_refl _⟩ (fun H locs hP hD hS => ?_)
  have hv := rel_open hR (xs (x3 + (1 : Int32)).toNatClampNeg)
  refine lv_icmp_eq (tgt := 1270) hx hb dL_law_469 (by decide) (fun _ => ?_) (fun h => absurd hv.1 h)
  exact kk _ _ hv.2 _ _ hP hD hS ls hl
set_option maxHeartbeats 4000000 in
set_option maxRecDepth 100000 in
theorem law_c10 {p : Program} (l : Launch) {e : Env} {s : State} {m : MethodId} {below : List Frame} {meth : Method} {c : Code} (D : va_G) (cI cO : ClassId) (tF : Nat) (ad bd : Nat → Nat) {b L : Nat} {xs : Nat → Int32} {A : Nat → Prop} {Q : State → Prop} {args : Array Value} (B : Bx p s m args meth c cL_law 4 ret wsL_law RL D cI cO tF A) (hX : va_X b L xs s s.heap) (hbl : b < s.heap.size) (hbA : ¬ A b) (X : XS) (M : MS) (hR : Rel X M) (x3 : Int32) (h0 : 0 ≤ x3.toInt) (h1 : x3.toInt + 6 ≤ L) (hL : L ≤ 3072) (kk : ∀ (X' : XS) (M' : MS), Rel X' M' → ∀ (H : Heap) (locs : List Loc), va_P D vwCl (wX ad cI cO X' ++ wM bd cI M') H → va_D A (wX ad cI cO X' ++ wM bd cI M') → va_S A s.heap H locs → ∀ ls : Array Slot, lv_has ls 4 [(0, .ref b), (1, .ref (ad 0)), (2, .ref (bd 0)), (3, .int x3)] → W p l e room_1 s m args below meth c H locs 600000 7302250 Q (F0 m 1270 ls [])) (H : Heap) (locs : List Loc) (hP : va_P D vwCl (wX ad cI cO X ++ wM bd cI M) H) (hD : va_D A (wX ad cI cO X ++ wM bd cI M)) (hS : va_S A s.heap H locs) (ls : Array Slot) (hl : lv_has ls 4 [(0, .ref b), (1, .ref (ad 0)), (2, .ref (bd 0)), (3, .int x3)]) : W p l e room_1 s m args below meth c H locs 600000 7302250 Q (F0 m 474 ls []) := by
  obtain ⟨hx, hb, hret, hml, hts, hown, hlocks, hE, hA⟩ := id B
  refine lv_aload_n hx hb dL_law_474 rfl (lv_at hl 1 rfl) ?_
  refine lv_aload_n hx hb dL_law_475 rfl (lv_at hl 0 rfl) ?_
  refine lv_iload_n hx hb dL_law_476 rfl (lv_at hl 3 rfl) ?_
  refine lv_iconst (v := (1 : Int32)) hx hb dL_law_477 (by decide) ?_
  refine lv_iadd hx hb dL_law_478 ?_
  refine va_sld hx hb hX hbl hbA hS (sc_in (1 : Int32) 1 h0 h1 hL rfl (by decide)) dL_law_479 ?_
  refine lv_aload_n hx hb dL_law_480 rfl (lv_at hl 0 rfl) ?_
  refine lv_iload_n hx hb dL_law_481 rfl (lv_at hl 3 rfl) ?_
  refine lv_iconst (v := (2 : Int32)) hx hb dL_law_482 (by decide) ?_
  refine lv_iadd hx hb dL_law_483 ?_
  refine va_sld hx hb hX hbl hbA hS (sc_in (2 : Int32) 2 h0 h1 hL rfl (by decide)) dL_law_484 ?_
  refine lv_aload_n hx hb dL_law_485 rfl (lv_at hl 0 rfl) ?_
  refine lv_iload_n hx hb dL_law_486 rfl (lv_at hl 3 rfl) ?_
  refine lv_iconst (v := (3 : Int32)) hx hb dL_law_487 (by decide) ?_
  refine lv_iadd hx hb dL_law_488 ?_
  refine va_sld hx hb hX hbl hbA hS (sc_in (3 : Int32) 3 h0 h1 hL rfl (by decide)) dL_law_489 ?_
  refine lv_aload_n hx hb dL_law_490 rfl (lv_at hl 0 rfl) ?_
  refine lv_iload_n hx hb dL_law_491 rfl (lv_at hl 3 rfl) ?_
  refine lv_iconst (v := (4 : Int32)) hx hb dL_law_492 (by decide) ?_
  refine lv_iadd hx hb dL_law_493 ?_
  refine va_sld hx hb hX hbl hbA hS (sc_in (4 : Int32) 4 h0 h1 hL rfl (by decide)) dL_law_494 ?_
  refine lv_aload_n hx hb dL_law_495 rfl (lv_at hl 0 rfl) ?_
  refine lv_iload_n hx hb dL_law_496 rfl (lv_at hl 3 rfl) ?_
  refine lv_iconst (v := (5 : Int32)) hx hb dL_law_497 (by decide) ?_
  refine lv_iadd hx hb dL_law_498 ?_
  refine va_sld hx hb hX hbl hbA hS (sc_in (5 : Int32) 5 h0 h1 hL rfl (by decide)) dL_law_499 ?_
  refine kc_V (As := [.int (xs (x3 + (1 : Int32)).toNatClampNeg), .int (xs (x3 + (2 : Int32)).toNatClampNeg), .int (xs (x3 + (3 : Int32)).toNatClampNeg), .int (xs (x3 + (4 : Int32)).toNatClampNeg), .int (xs (x3 + (5 : Int32)).toNatClampNeg)]) (rest := []) B (c_X3_year l D cI cO tF ad X (xs (x3 + (1 : Int32)).toNatClampNeg) (xs (x3 + (2 : Int32)).toNatClampNeg) (xs (x3 + (3 : Int32)).toNatClampNeg) (xs (x3 + (4 : Int32)).toNatClampNeg) (xs (x3 + (5 : Int32)).toNatClampNeg) (hR.xn)) (cwV 5 hts gL_law_X3_year rfl rfl rfl (by decide +kernel) ⟨Nat.le_of_ble_eq_true rfl, Nat.le_of_ble_eq_true rfl⟩) hP hD hS [0, 1, 2, 3, 4, 5, 6, 7, 8, 9, 10, 11, 12, 13, 14, 15, 16, 17, 18, 19, 20, 21] wXM_subX (by decide) (w' := wX ad cI cO ((f_X3_year X (xs (x3 + (1 : Int32)).toNatClampNeg) (xs (x3 + (2 : Int32)).toNatClampNeg) (xs (x3 + (3 : Int32)).toNatClampNeg) (xs (x3 + (4 : Int32)).toNatClampNeg) (xs (x3 + (5 : Int32)).toNatClampNeg)).2) ++ wM bd cI M) (wXM_setX _) (wX_fst _) 0 3 rfl rfl rfl rfl hl.1 rfl (Nat.le_of_ble_eq_true rfl) dL_law_500 ⟨Nat.le_refl _, Nat.le_refl _⟩ (fun H locs hP hD hS => ?_)
  refine lv_aload_n hx hb dL_law_503 rfl (lv_at hl 2 rfl) ?_
  refine lv_aload_n hx hb dL_law_504 rfl (lv_at hl 0 rfl) ?_
  refine lv_iload_n hx hb dL_law_505 rfl (lv_at hl 3 rfl) ?_
  refine lv_iconst (v := (1 : Int32)) hx hb dL_law_506 (by decide) ?_
  refine lv_iadd hx hb dL_law_507 ?_
  refine va_sld hx hb hX hbl hbA hS (sc_in (1 : Int32) 1 h0 h1 hL rfl (by decide)) dL_law_508 ?_
  refine lv_aload_n hx hb dL_law_509 rfl (lv_at hl 0 rfl) ?_
  refine lv_iload_n hx hb dL_law_510 rfl (lv_at hl 3 rfl) ?_
  refine lv_iconst (v := (2 : Int32)) hx hb dL_law_511 (by decide) ?_
  refine lv_iadd hx hb dL_law_512 ?_
  refine va_sld hx hb hX hbl hbA hS (sc_in (2 : Int32) 2 h0 h1 hL rfl (by decide)) dL_law_513 ?_
  refine lv_aload_n hx hb dL_law_514 rfl (lv_at hl 0 rfl) ?_
  refine lv_iload_n hx hb dL_law_515 rfl (lv_at hl 3 rfl) ?_
  refine lv_iconst (v := (3 : Int32)) hx hb dL_law_516 (by decide) ?_
  refine lv_iadd hx hb dL_law_517 ?_
  refine va_sld hx hb hX hbl hbA hS (sc_in (3 : Int32) 3 h0 h1 hL rfl (by decide)) dL_law_518 ?_
  refine lv_aload_n hx hb dL_law_519 rfl (lv_at hl 0 rfl) ?_
  refine lv_iload_n hx hb dL_law_520 rfl (lv_at hl 3 rfl) ?_
  refine lv_iconst (v := (4 : Int32)) hx hb dL_law_521 (by decide) ?_
  refine lv_iadd hx hb dL_law_522 ?_
  refine va_sld hx hb hX hbl hbA hS (sc_in (4 : Int32) 4 h0 h1 hL rfl (by decide)) dL_law_523 ?_
  refine lv_aload_n hx hb dL_law_524 rfl (lv_at hl 0 rfl) ?_
  refine lv_iload_n hx hb dL_law_525 rfl (lv_at hl 3 rfl) ?_
  refine lv_iconst (v := (5 : Int32)) hx hb dL_law_526 (by decide) ?_
  refine lv_iadd hx hb dL_law_527 ?_
  refine va_sld hx hb hX hbl hbA hS (sc_in (5 : Int32) 5 h0 h1 hL rfl (by decide)) dL_law_528 ?_
  refine kc_V (As := [.int (xs (x3 + (1 : Int32)).toNatClampNeg), .int (xs (x3 + (2 : Int32)).toNatClampNeg), .int (xs (x3 + (3 : Int32)).toNatClampNeg), .int (xs (x3 + (4 : Int32)).toNatClampNeg), .int (xs (x3 + (5 : Int32)).toNatClampNeg)]) (rest := [.int ((f_X3_year X (xs (x3 + (1 : Int32)).toNatClampNeg) (xs (x3 + (2 : Int32)).toNatClampNeg) (xs (x3 + (3 : Int32)).toNatClampNeg) (xs (x3 + (4 : Int32)).toNatClampNeg) (xs (x3 + (5 : Int32)).toNatClampNeg)).1)]) B (c_X4_year l D cI cO tF bd M (xs (x3 + (1 : Int32)).toNatClampNeg) (xs (x3 + (2 : Int32)).toNatClampNeg) (xs (x3 + (3 : Int32)).toNatClampNeg) (xs (x3 + (4 : Int32)).toNatClampNeg) (xs (x3 + (5 : Int32)).toNatClampNeg) (hR.mn) (hR.ht) (hR.so) (hR.mL)) (cwV 5 hts gL_law_X4_year rfl rfl rfl (by decide +kernel) ⟨Nat.le_of_ble_eq_true rfl, Nat.le_of_ble_eq_true rfl⟩) hP hD hS [22, 23, 24, 25, 26, 27, 28, 29, 30, 31, 32, 33, 34] wXM_subM (by decide) (w' := wX ad cI cO ((f_X3_year X (xs (x3 + (1 : Int32)).toNatClampNeg) (xs (x3 + (2 : Int32)).toNatClampNeg) (xs (x3 + (3 : Int32)).toNatClampNeg) (xs (x3 + (4 : Int32)).toNatClampNeg) (xs (x3 + (5 : Int32)).toNatClampNeg)).2) ++ wM bd cI ((f_X4_year M (xs (x3 + (1 : Int32)).toNatClampNeg) (xs (x3 + (2 : Int32)).toNatClampNeg) (xs (x3 + (3 : Int32)).toNatClampNeg) (xs (x3 + (4 : Int32)).toNatClampNeg) (xs (x3 + (5 : Int32)).toNatClampNeg)).2)) (wXM_setM _) (wM_fst _) 22 4 rfl rfl rfl rfl hl.1 rfl (Nat.le_of_ble_eq_true rfl) dL_law_529 ⟨Nat.le_refl _, Nat.le_refl _⟩ (fun H locs hP hD hS => ?_)
  have hv := rel_year hR (xs (x3 + (1 : Int32)).toNatClampNeg) (xs (x3 + (2 : Int32)).toNatClampNeg) (xs (x3 + (3 : Int32)).toNatClampNeg) (xs (x3 + (4 : Int32)).toNatClampNeg) (xs (x3 + (5 : Int32)).toNatClampNeg)
  refine lv_icmp_eq (tgt := 1270) hx hb dL_law_532 (by decide) (fun _ => ?_) (fun h => absurd hv.1 h)
  exact kk _ _ hv.2 _ _ hP hD hS ls hl
set_option maxHeartbeats 4000000 in
set_option maxRecDepth 100000 in
theorem law_c11 {p : Program} (l : Launch) {e : Env} {s : State} {m : MethodId} {below : List Frame} {meth : Method} {c : Code} (D : va_G) (cI cO : ClassId) (tF : Nat) (ad bd : Nat → Nat) {b L : Nat} {xs : Nat → Int32} {A : Nat → Prop} {Q : State → Prop} {args : Array Value} (B : Bx p s m args meth c cL_law 4 ret wsL_law RL D cI cO tF A) (hX : va_X b L xs s s.heap) (hbl : b < s.heap.size) (hbA : ¬ A b) (X : XS) (M : MS) (hR : Rel X M) (x3 : Int32) (h0 : 0 ≤ x3.toInt) (h1 : x3.toInt + 6 ≤ L) (hL : L ≤ 3072) (kk : ∀ (X' : XS) (M' : MS), Rel X' M' → ∀ (H : Heap) (locs : List Loc), va_P D vwCl (wX ad cI cO X' ++ wM bd cI M') H → va_D A (wX ad cI cO X' ++ wM bd cI M') → va_S A s.heap H locs → ∀ ls : Array Slot, lv_has ls 4 [(0, .ref b), (1, .ref (ad 0)), (2, .ref (bd 0)), (3, .int x3)] → W p l e room_1 s m args below meth c H locs 600000 7302250 Q (F0 m 1270 ls [])) (H : Heap) (locs : List Loc) (hP : va_P D vwCl (wX ad cI cO X ++ wM bd cI M) H) (hD : va_D A (wX ad cI cO X ++ wM bd cI M)) (hS : va_S A s.heap H locs) (ls : Array Slot) (hl : lv_has ls 4 [(0, .ref b), (1, .ref (ad 0)), (2, .ref (bd 0)), (3, .int x3)]) : W p l e room_1 s m args below meth c H locs 600000 7302250 Q (F0 m 537 ls []) := by
  obtain ⟨hx, hb, hret, hml, hts, hown, hlocks, hE, hA⟩ := id B
  refine lv_aload_n hx hb dL_law_537 rfl (lv_at hl 1 rfl) ?_
  refine lv_aload_n hx hb dL_law_538 rfl (lv_at hl 0 rfl) ?_
  refine lv_iload_n hx hb dL_law_539 rfl (lv_at hl 3 rfl) ?_
  refine lv_iconst (v := (1 : Int32)) hx hb dL_law_540 (by decide) ?_
  refine lv_iadd hx hb dL_law_541 ?_
  refine va_sld hx hb hX hbl hbA hS (sc_in (1 : Int32) 1 h0 h1 hL rfl (by decide)) dL_law_542 ?_
  refine lv_aload_n hx hb dL_law_543 rfl (lv_at hl 0 rfl) ?_
  refine lv_iload_n hx hb dL_law_544 rfl (lv_at hl 3 rfl) ?_
  refine lv_iconst (v := (2 : Int32)) hx hb dL_law_545 (by decide) ?_
  refine lv_iadd hx hb dL_law_546 ?_
  refine va_sld hx hb hX hbl hbA hS (sc_in (2 : Int32) 2 h0 h1 hL rfl (by decide)) dL_law_547 ?_
  refine lv_aload_n hx hb dL_law_548 rfl (lv_at hl 0 rfl) ?_
  refine lv_iload_n hx hb dL_law_549 rfl (lv_at hl 3 rfl) ?_
  refine lv_iconst (v := (3 : Int32)) hx hb dL_law_550 (by decide) ?_
  refine lv_iadd hx hb dL_law_551 ?_
  refine va_sld hx hb hX hbl hbA hS (sc_in (3 : Int32) 3 h0 h1 hL rfl (by decide)) dL_law_552 ?_
  refine kc_V (As := [.int (xs (x3 + (1 : Int32)).toNatClampNeg), .int (xs (x3 + (2 : Int32)).toNatClampNeg), .int (xs (x3 + (3 : Int32)).toNatClampNeg)]) (rest := []) B (c_X3_asked l D cI cO tF ad X (xs (x3 + (1 : Int32)).toNatClampNeg) (xs (x3 + (2 : Int32)).toNatClampNeg) (xs (x3 + (3 : Int32)).toNatClampNeg) (hR.xn)) (cwV 3 hts gL_law_X3_asked rfl rfl rfl (by decide +kernel) ⟨Nat.le_of_ble_eq_true rfl, Nat.le_of_ble_eq_true rfl⟩) hP hD hS [0, 1, 2, 3, 4, 5, 6, 7, 8, 9, 10, 11, 12, 13, 14, 15, 16, 17, 18, 19, 20, 21] wXM_subX (by decide) (w' := wX ad cI cO X ++ wM bd cI M) (wXM_setX _) (wX_fst _) 0 3 rfl rfl rfl rfl hl.1 rfl (Nat.le_of_ble_eq_true rfl) dL_law_553 ⟨Nat.le_refl _, Nat.le_refl _⟩ (fun H locs hP hD hS => ?_)
  refine lv_aload_n hx hb dL_law_556 rfl (lv_at hl 2 rfl) ?_
  refine lv_aload_n hx hb dL_law_557 rfl (lv_at hl 0 rfl) ?_
  refine lv_iload_n hx hb dL_law_558 rfl (lv_at hl 3 rfl) ?_
  refine lv_iconst (v := (1 : Int32)) hx hb dL_law_559 (by decide) ?_
  refine lv_iadd hx hb dL_law_560 ?_
  refine va_sld hx hb hX hbl hbA hS (sc_in (1 : Int32) 1 h0 h1 hL rfl (by decide)) dL_law_561 ?_
  refine lv_aload_n hx hb dL_law_562 rfl (lv_at hl 0 rfl) ?_
  refine lv_iload_n hx hb dL_law_563 rfl (lv_at hl 3 rfl) ?_
  refine lv_iconst (v := (2 : Int32)) hx hb dL_law_564 (by decide) ?_
  refine lv_iadd hx hb dL_law_565 ?_
  refine va_sld hx hb hX hbl hbA hS (sc_in (2 : Int32) 2 h0 h1 hL rfl (by decide)) dL_law_566 ?_
  refine lv_aload_n hx hb dL_law_567 rfl (lv_at hl 0 rfl) ?_
  refine lv_iload_n hx hb dL_law_568 rfl (lv_at hl 3 rfl) ?_
  refine lv_iconst (v := (3 : Int32)) hx hb dL_law_569 (by decide) ?_
  refine lv_iadd hx hb dL_law_570 ?_
  refine va_sld hx hb hX hbl hbA hS (sc_in (3 : Int32) 3 h0 h1 hL rfl (by decide)) dL_law_571 ?_
  refine kc_V (As := [.int (xs (x3 + (1 : Int32)).toNatClampNeg), .int (xs (x3 + (2 : Int32)).toNatClampNeg), .int (xs (x3 + (3 : Int32)).toNatClampNeg)]) (rest := [.int (f_X3_asked X (xs (x3 + (1 : Int32)).toNatClampNeg) (xs (x3 + (2 : Int32)).toNatClampNeg) (xs (x3 + (3 : Int32)).toNatClampNeg))]) B (c_X4_asked l D cI cO tF bd M (xs (x3 + (1 : Int32)).toNatClampNeg) (xs (x3 + (2 : Int32)).toNatClampNeg) (xs (x3 + (3 : Int32)).toNatClampNeg) (hR.mn)) (cwV 3 hts gL_law_X4_asked rfl rfl rfl (by decide +kernel) ⟨Nat.le_of_ble_eq_true rfl, Nat.le_of_ble_eq_true rfl⟩) hP hD hS [22, 23, 24, 25, 26, 27, 28, 29, 30, 31, 32, 33, 34] wXM_subM (by decide) (w' := wX ad cI cO X ++ wM bd cI M) (wXM_setM _) (wM_fst _) 22 4 rfl rfl rfl rfl hl.1 rfl (Nat.le_of_ble_eq_true rfl) dL_law_572 ⟨Nat.le_refl _, Nat.le_refl _⟩ (fun H locs hP hD hS => ?_)
  have hv := rel_asked hR (xs (x3 + (1 : Int32)).toNatClampNeg) (xs (x3 + (2 : Int32)).toNatClampNeg) (xs (x3 + (3 : Int32)).toNatClampNeg)
  refine lv_icmp_eq (tgt := 1270) hx hb dL_law_575 (by decide) (fun _ => ?_) (fun h => absurd hv h)
  exact kk _ _ hR _ _ hP hD hS ls hl
set_option maxHeartbeats 4000000 in
set_option maxRecDepth 100000 in
theorem law_c12 {p : Program} (l : Launch) {e : Env} {s : State} {m : MethodId} {below : List Frame} {meth : Method} {c : Code} (D : va_G) (cI cO : ClassId) (tF : Nat) (ad bd : Nat → Nat) {b L : Nat} {xs : Nat → Int32} {A : Nat → Prop} {Q : State → Prop} {args : Array Value} (B : Bx p s m args meth c cL_law 4 ret wsL_law RL D cI cO tF A) (hX : va_X b L xs s s.heap) (hbl : b < s.heap.size) (hbA : ¬ A b) (X : XS) (M : MS) (hR : Rel X M) (x3 : Int32) (h0 : 0 ≤ x3.toInt) (h1 : x3.toInt + 6 ≤ L) (hL : L ≤ 3072) (kk : ∀ (X' : XS) (M' : MS), Rel X' M' → ∀ (H : Heap) (locs : List Loc), va_P D vwCl (wX ad cI cO X' ++ wM bd cI M') H → va_D A (wX ad cI cO X' ++ wM bd cI M') → va_S A s.heap H locs → ∀ ls : Array Slot, lv_has ls 4 [(0, .ref b), (1, .ref (ad 0)), (2, .ref (bd 0)), (3, .int x3)] → W p l e room_1 s m args below meth c H locs 600000 7302250 Q (F0 m 1270 ls [])) (H : Heap) (locs : List Loc) (hP : va_P D vwCl (wX ad cI cO X ++ wM bd cI M) H) (hD : va_D A (wX ad cI cO X ++ wM bd cI M)) (hS : va_S A s.heap H locs) (ls : Array Slot) (hl : lv_has ls 4 [(0, .ref b), (1, .ref (ad 0)), (2, .ref (bd 0)), (3, .int x3)]) : W p l e room_1 s m args below meth c H locs 600000 7302250 Q (F0 m 580 ls []) := by
  obtain ⟨hx, hb, hret, hml, hts, hown, hlocks, hE, hA⟩ := id B
  refine lv_aload_n hx hb dL_law_580 rfl (lv_at hl 1 rfl) ?_
  refine lv_aload_n hx hb dL_law_581 rfl (lv_at hl 0 rfl) ?_
  refine lv_iload_n hx hb dL_law_582 rfl (lv_at hl 3 rfl) ?_
  refine lv_iconst (v := (1 : Int32)) hx hb dL_law_583 (by decide) ?_
  refine lv_iadd hx hb dL_law_584 ?_
  refine va_sld hx hb hX hbl hbA hS (sc_in (1 : Int32) 1 h0 h1 hL rfl (by decide)) dL_law_585 ?_
  refine lv_aload_n hx hb dL_law_586 rfl (lv_at hl 0 rfl) ?_
  refine lv_iload_n hx hb dL_law_587 rfl (lv_at hl 3 rfl) ?_
  refine lv_iconst (v := (2 : Int32)) hx hb dL_law_588 (by decide) ?_
  refine lv_iadd hx hb dL_law_589 ?_
  refine va_sld hx hb hX hbl hbA hS (sc_in (2 : Int32) 2 h0 h1 hL rfl (by decide)) dL_law_590 ?_
  refine kc_V (As := [.int (xs (x3 + (1 : Int32)).toNatClampNeg), .int (xs (x3 + (2 : Int32)).toNatClampNeg)]) (rest := []) B (c_X3_gatherings l D cI cO tF ad X (xs (x3 + (1 : Int32)).toNatClampNeg) (xs (x3 + (2 : Int32)).toNatClampNeg) (hR.xn)) (cwV 2 hts gL_law_X3_gatherings rfl rfl rfl (by decide +kernel) ⟨Nat.le_of_ble_eq_true rfl, Nat.le_of_ble_eq_true rfl⟩) hP hD hS [0, 1, 2, 3, 4, 5, 6, 7, 8, 9, 10, 11, 12, 13, 14, 15, 16, 17, 18, 19, 20, 21] wXM_subX (by decide) (w' := wX ad cI cO X ++ wM bd cI M) (wXM_setX _) (wX_fst _) 0 3 rfl rfl rfl rfl hl.1 rfl (Nat.le_of_ble_eq_true rfl) dL_law_591 ⟨Nat.le_refl _, Nat.le_refl _⟩ (fun H locs hP hD hS => ?_)
  refine lv_aload_n hx hb dL_law_594 rfl (lv_at hl 2 rfl) ?_
  refine lv_aload_n hx hb dL_law_595 rfl (lv_at hl 0 rfl) ?_
  refine lv_iload_n hx hb dL_law_596 rfl (lv_at hl 3 rfl) ?_
  refine lv_iconst (v := (1 : Int32)) hx hb dL_law_597 (by decide) ?_
  refine lv_iadd hx hb dL_law_598 ?_
  refine va_sld hx hb hX hbl hbA hS (sc_in (1 : Int32) 1 h0 h1 hL rfl (by decide)) dL_law_599 ?_
  refine lv_aload_n hx hb dL_law_600 rfl (lv_at hl 0 rfl) ?_
  refine lv_iload_n hx hb dL_law_601 rfl (lv_at hl 3 rfl) ?_
  refine lv_iconst (v := (2 : Int32)) hx hb dL_law_602 (by decide) ?_
  refine lv_iadd hx hb dL_law_603 ?_
  refine va_sld hx hb hX hbl hbA hS (sc_in (2 : Int32) 2 h0 h1 hL rfl (by decide)) dL_law_604 ?_
  refine kc_V (As := [.int (xs (x3 + (1 : Int32)).toNatClampNeg), .int (xs (x3 + (2 : Int32)).toNatClampNeg)]) (rest := [.int (f_X3_gatherings X (xs (x3 + (1 : Int32)).toNatClampNeg) (xs (x3 + (2 : Int32)).toNatClampNeg))]) B (c_X4_gatherings l D cI cO tF bd M (xs (x3 + (1 : Int32)).toNatClampNeg) (xs (x3 + (2 : Int32)).toNatClampNeg) (hR.mn)) (cwV 2 hts gL_law_X4_gatherings rfl rfl rfl (by decide +kernel) ⟨Nat.le_of_ble_eq_true rfl, Nat.le_of_ble_eq_true rfl⟩) hP hD hS [22, 23, 24, 25, 26, 27, 28, 29, 30, 31, 32, 33, 34] wXM_subM (by decide) (w' := wX ad cI cO X ++ wM bd cI ((f_X4_gatherings M (xs (x3 + (1 : Int32)).toNatClampNeg) (xs (x3 + (2 : Int32)).toNatClampNeg)).2)) (wXM_setM _) (wM_fst _) 22 4 rfl rfl rfl rfl hl.1 rfl (Nat.le_of_ble_eq_true rfl) dL_law_605 ⟨Nat.le_refl _, Nat.le_refl _⟩ (fun H locs hP hD hS => ?_)
  have hv := rel_gatherings hR (xs (x3 + (1 : Int32)).toNatClampNeg) (xs (x3 + (2 : Int32)).toNatClampNeg)
  refine lv_icmp_eq (tgt := 1270) hx hb dL_law_608 (by decide) (fun _ => ?_) (fun h => absurd hv.1 h)
  exact kk _ _ hv.2 _ _ hP hD hS ls hl
set_option maxHeartbeats 4000000 in
set_option maxRecDepth 100000 in
theorem law_c13 {p : Program} (l : Launch) {e : Env} {s : State} {m : MethodId} {below : List Frame} {meth : Method} {c : Code} (D : va_G) (cI cO : ClassId) (tF : Nat) (ad bd : Nat → Nat) {b L : Nat} {xs : Nat → Int32} {A : Nat → Prop} {Q : State → Prop} {args : Array Value} (B : Bx p s m args meth c cL_law 4 ret wsL_law RL D cI cO tF A) (hX : va_X b L xs s s.heap) (hbl : b < s.heap.size) (hbA : ¬ A b) (X : XS) (M : MS) (hR : Rel X M) (x3 : Int32) (h0 : 0 ≤ x3.toInt) (h1 : x3.toInt + 6 ≤ L) (hL : L ≤ 3072) (kk : ∀ (X' : XS) (M' : MS), Rel X' M' → ∀ (H : Heap) (locs : List Loc), va_P D vwCl (wX ad cI cO X' ++ wM bd cI M') H → va_D A (wX ad cI cO X' ++ wM bd cI M') → va_S A s.heap H locs → ∀ ls : Array Slot, lv_has ls 4 [(0, .ref b), (1, .ref (ad 0)), (2, .ref (bd 0)), (3, .int x3)] → W p l e room_1 s m args below meth c H locs 600000 7302250 Q (F0 m 1270 ls [])) (H : Heap) (locs : List Loc) (hP : va_P D vwCl (wX ad cI cO X ++ wM bd cI M) H) (hD : va_D A (wX ad cI cO X ++ wM bd cI M)) (hS : va_S A s.heap H locs) (ls : Array Slot) (hl : lv_has ls 4 [(0, .ref b), (1, .ref (ad 0)), (2, .ref (bd 0)), (3, .int x3)]) : W p l e room_1 s m args below meth c H locs 600000 7302250 Q (F0 m 613 ls []) := by
  obtain ⟨hx, hb, hret, hml, hts, hown, hlocks, hE, hA⟩ := id B
  refine lv_aload_n hx hb dL_law_613 rfl (lv_at hl 1 rfl) ?_
  refine lv_aload_n hx hb dL_law_614 rfl (lv_at hl 0 rfl) ?_
  refine lv_iload_n hx hb dL_law_615 rfl (lv_at hl 3 rfl) ?_
  refine lv_iconst (v := (1 : Int32)) hx hb dL_law_616 (by decide) ?_
  refine lv_iadd hx hb dL_law_617 ?_
  refine va_sld hx hb hX hbl hbA hS (sc_in (1 : Int32) 1 h0 h1 hL rfl (by decide)) dL_law_618 ?_
  refine kc_V (As := [.int (xs (x3 + (1 : Int32)).toNatClampNeg)]) (rest := []) B (c_X3_level l D cI cO tF ad X (xs (x3 + (1 : Int32)).toNatClampNeg) (hR.xn)) (cwV 1 hts gL_law_X3_level rfl rfl rfl (by decide +kernel) ⟨Nat.le_of_ble_eq_true rfl, Nat.le_of_ble_eq_true rfl⟩) hP hD hS [0, 1, 2, 3, 4, 5, 6, 7, 8, 9, 10, 11, 12, 13, 14, 15, 16, 17, 18, 19, 20, 21] wXM_subX (by decide) (w' := wX ad cI cO X ++ wM bd cI M) (wXM_setX _) (wX_fst _) 0 3 rfl rfl rfl rfl hl.1 rfl (Nat.le_of_ble_eq_true rfl) dL_law_619 ⟨Nat.le_refl _, Nat.le_refl _⟩ (fun H locs hP hD hS => ?_)
  refine lv_aload_n hx hb dL_law_622 rfl (lv_at hl 2 rfl) ?_
  refine lv_aload_n hx hb dL_law_623 rfl (lv_at hl 0 rfl) ?_
  refine lv_iload_n hx hb dL_law_624 rfl (lv_at hl 3 rfl) ?_
  refine lv_iconst (v := (1 : Int32)) hx hb dL_law_625 (by decide) ?_
  refine lv_iadd hx hb dL_law_626 ?_
  refine va_sld hx hb hX hbl hbA hS (sc_in (1 : Int32) 1 h0 h1 hL rfl (by decide)) dL_law_627 ?_
  refine kc_V (As := [.int (xs (x3 + (1 : Int32)).toNatClampNeg)]) (rest := [.int (f_X3_level X (xs (x3 + (1 : Int32)).toNatClampNeg))]) B (c_X4_level l D cI cO tF bd M (xs (x3 + (1 : Int32)).toNatClampNeg) (hR.mn) (rel_hlv hR)) (cwV 1 hts gL_law_X4_level rfl rfl rfl (by decide +kernel) ⟨Nat.le_of_ble_eq_true rfl, Nat.le_of_ble_eq_true rfl⟩) hP hD hS [22, 23, 24, 25, 26, 27, 28, 29, 30, 31, 32, 33, 34] wXM_subM (by decide) (w' := wX ad cI cO X ++ wM bd cI M) (wXM_setM _) (wM_fst _) 22 4 rfl rfl rfl rfl hl.1 rfl (Nat.le_of_ble_eq_true rfl) dL_law_628 ⟨Nat.le_refl _, Nat.le_refl _⟩ (fun H locs hP hD hS => ?_)
  have hv := rel_level hR (xs (x3 + (1 : Int32)).toNatClampNeg)
  refine lv_icmp_eq (tgt := 1270) hx hb dL_law_631 (by decide) (fun _ => ?_) (fun h => absurd hv h)
  exact kk _ _ hR _ _ hP hD hS ls hl
set_option maxHeartbeats 4000000 in
set_option maxRecDepth 100000 in
theorem law_c14 {p : Program} (l : Launch) {e : Env} {s : State} {m : MethodId} {below : List Frame} {meth : Method} {c : Code} (D : va_G) (cI cO : ClassId) (tF : Nat) (ad bd : Nat → Nat) {b L : Nat} {xs : Nat → Int32} {A : Nat → Prop} {Q : State → Prop} {args : Array Value} (B : Bx p s m args meth c cL_law 4 ret wsL_law RL D cI cO tF A) (hX : va_X b L xs s s.heap) (hbl : b < s.heap.size) (hbA : ¬ A b) (X : XS) (M : MS) (hR : Rel X M) (x3 : Int32) (h0 : 0 ≤ x3.toInt) (h1 : x3.toInt + 6 ≤ L) (hL : L ≤ 3072) (kk : ∀ (X' : XS) (M' : MS), Rel X' M' → ∀ (H : Heap) (locs : List Loc), va_P D vwCl (wX ad cI cO X' ++ wM bd cI M') H → va_D A (wX ad cI cO X' ++ wM bd cI M') → va_S A s.heap H locs → ∀ ls : Array Slot, lv_has ls 4 [(0, .ref b), (1, .ref (ad 0)), (2, .ref (bd 0)), (3, .int x3)] → W p l e room_1 s m args below meth c H locs 600000 7302250 Q (F0 m 1270 ls [])) (H : Heap) (locs : List Loc) (hP : va_P D vwCl (wX ad cI cO X ++ wM bd cI M) H) (hD : va_D A (wX ad cI cO X ++ wM bd cI M)) (hS : va_S A s.heap H locs) (ls : Array Slot) (hl : lv_has ls 4 [(0, .ref b), (1, .ref (ad 0)), (2, .ref (bd 0)), (3, .int x3)]) : W p l e room_1 s m args below meth c H locs 600000 7302250 Q (F0 m 636 ls []) := by
  obtain ⟨hx, hb, hret, hml, hts, hown, hlocks, hE, hA⟩ := id B
  refine lv_aload_n hx hb dL_law_636 rfl (lv_at hl 1 rfl) ?_
  refine lv_aload_n hx hb dL_law_637 rfl (lv_at hl 0 rfl) ?_
  refine lv_iload_n hx hb dL_law_638 rfl (lv_at hl 3 rfl) ?_
  refine lv_iconst (v := (1 : Int32)) hx hb dL_law_639 (by decide) ?_
  refine lv_iadd hx hb dL_law_640 ?_
  refine va_sld hx hb hX hbl hbA hS (sc_in (1 : Int32) 1 h0 h1 hL rfl (by decide)) dL_law_641 ?_
  refine lv_aload_n hx hb dL_law_642 rfl (lv_at hl 0 rfl) ?_
  refine lv_iload_n hx hb dL_law_643 rfl (lv_at hl 3 rfl) ?_
  refine lv_iconst (v := (2 : Int32)) hx hb dL_law_644 (by decide) ?_
  refine lv_iadd hx hb dL_law_645 ?_
  refine va_sld hx hb hX hbl hbA hS (sc_in (2 : Int32) 2 h0 h1 hL rfl (by decide)) dL_law_646 ?_
  refine lv_aload_n hx hb dL_law_647 rfl (lv_at hl 0 rfl) ?_
  refine lv_iload_n hx hb dL_law_648 rfl (lv_at hl 3 rfl) ?_
  refine lv_iconst (v := (3 : Int32)) hx hb dL_law_649 (by decide) ?_
  refine lv_iadd hx hb dL_law_650 ?_
  refine va_sld hx hb hX hbl hbA hS (sc_in (3 : Int32) 3 h0 h1 hL rfl (by decide)) dL_law_651 ?_
  refine kc_V (As := [.int (xs (x3 + (1 : Int32)).toNatClampNeg), .int (xs (x3 + (2 : Int32)).toNatClampNeg), .int (xs (x3 + (3 : Int32)).toNatClampNeg)]) (rest := []) B (c_X3_were l D cI cO tF ad X (xs (x3 + (1 : Int32)).toNatClampNeg) (xs (x3 + (2 : Int32)).toNatClampNeg) (xs (x3 + (3 : Int32)).toNatClampNeg) (hR.xn)) (cwV 3 hts gL_law_X3_were rfl rfl rfl (by decide +kernel) ⟨Nat.le_of_ble_eq_true rfl, Nat.le_of_ble_eq_true rfl⟩) hP hD hS [0, 1, 2, 3, 4, 5, 6, 7, 8, 9, 10, 11, 12, 13, 14, 15, 16, 17, 18, 19, 20, 21] wXM_subX (by decide) (w' := wX ad cI cO X ++ wM bd cI M) (wXM_setX _) (wX_fst _) 0 3 rfl rfl rfl rfl hl.1 rfl (Nat.le_of_ble_eq_true rfl) dL_law_652 ⟨Nat.le_refl _, Nat.le_refl _⟩ (fun H locs hP hD hS => ?_)
  refine lv_aload_n hx hb dL_law_655 rfl (lv_at hl 2 rfl) ?_
  refine lv_aload_n hx hb dL_law_656 rfl (lv_at hl 0 rfl) ?_
  refine lv_iload_n hx hb dL_law_657 rfl (lv_at hl 3 rfl) ?_
  refine lv_iconst (v := (1 : Int32)) hx hb dL_law_658 (by decide) ?_
  refine lv_iadd hx hb dL_law_659 ?_
  refine va_sld hx hb hX hbl hbA hS (sc_in (1 : Int32) 1 h0 h1 hL rfl (by decide)) dL_law_660 ?_
  refine lv_aload_n hx hb dL_law_661 rfl (lv_at hl 0 rfl) ?_
  refine lv_iload_n hx hb dL_law_662 rfl (lv_at hl 3 rfl) ?_
  refine lv_iconst (v := (2 : Int32)) hx hb dL_law_663 (by decide) ?_
  refine lv_iadd hx hb dL_law_664 ?_
  refine va_sld hx hb hX hbl hbA hS (sc_in (2 : Int32) 2 h0 h1 hL rfl (by decide)) dL_law_665 ?_
  refine lv_aload_n hx hb dL_law_666 rfl (lv_at hl 0 rfl) ?_
  refine lv_iload_n hx hb dL_law_667 rfl (lv_at hl 3 rfl) ?_
  refine lv_iconst (v := (3 : Int32)) hx hb dL_law_668 (by decide) ?_
  refine lv_iadd hx hb dL_law_669 ?_
  refine va_sld hx hb hX hbl hbA hS (sc_in (3 : Int32) 3 h0 h1 hL rfl (by decide)) dL_law_670 ?_
  refine kc_V (As := [.int (xs (x3 + (1 : Int32)).toNatClampNeg), .int (xs (x3 + (2 : Int32)).toNatClampNeg), .int (xs (x3 + (3 : Int32)).toNatClampNeg)]) (rest := [.int (f_X3_were X (xs (x3 + (1 : Int32)).toNatClampNeg) (xs (x3 + (2 : Int32)).toNatClampNeg) (xs (x3 + (3 : Int32)).toNatClampNeg))]) B (c_X4_were l D cI cO tF bd M (xs (x3 + (1 : Int32)).toNatClampNeg) (xs (x3 + (2 : Int32)).toNatClampNeg) (xs (x3 + (3 : Int32)).toNatClampNeg) (hR.mn)) (cwV 3 hts gL_law_X4_were rfl rfl rfl (by decide +kernel) ⟨Nat.le_of_ble_eq_true rfl, Nat.le_of_ble_eq_true rfl⟩) hP hD hS [22, 23, 24, 25, 26, 27, 28, 29, 30, 31, 32, 33, 34] wXM_subM (by decide) (w' := wX ad cI cO X ++ wM bd cI M) (wXM_setM _) (wM_fst _) 22 4 rfl rfl rfl rfl hl.1 rfl (Nat.le_of_ble_eq_true rfl) dL_law_671 ⟨Nat.le_refl _, Nat.le_refl _⟩ (fun H locs hP hD hS => ?_)
  have hv := rel_were hR (xs (x3 + (1 : Int32)).toNatClampNeg) (xs (x3 + (2 : Int32)).toNatClampNeg) (xs (x3 + (3 : Int32)).toNatClampNeg)
  refine lv_icmp_eq (tgt := 1270) hx hb dL_law_674 (by decide) (fun _ => ?_) (fun h => absurd hv h)
  exact kk _ _ hR _ _ hP hD hS ls hl
set_option maxHeartbeats 4000000 in
set_option maxRecDepth 100000 in
theorem law_c15 {p : Program} (l : Launch) {e : Env} {s : State} {m : MethodId} {below : List Frame} {meth : Method} {c : Code} (D : va_G) (cI cO : ClassId) (tF : Nat) (ad bd : Nat → Nat) {b L : Nat} {xs : Nat → Int32} {A : Nat → Prop} {Q : State → Prop} {args : Array Value} (B : Bx p s m args meth c cL_law 4 ret wsL_law RL D cI cO tF A) (hX : va_X b L xs s s.heap) (hbl : b < s.heap.size) (hbA : ¬ A b) (X : XS) (M : MS) (hR : Rel X M) (x3 : Int32) (h0 : 0 ≤ x3.toInt) (h1 : x3.toInt + 6 ≤ L) (hL : L ≤ 3072) (kk : ∀ (X' : XS) (M' : MS), Rel X' M' → ∀ (H : Heap) (locs : List Loc), va_P D vwCl (wX ad cI cO X' ++ wM bd cI M') H → va_D A (wX ad cI cO X' ++ wM bd cI M') → va_S A s.heap H locs → ∀ ls : Array Slot, lv_has ls 4 [(0, .ref b), (1, .ref (ad 0)), (2, .ref (bd 0)), (3, .int x3)] → W p l e room_1 s m args below meth c H locs 600000 7302250 Q (F0 m 1270 ls [])) (H : Heap) (locs : List Loc) (hP : va_P D vwCl (wX ad cI cO X ++ wM bd cI M) H) (hD : va_D A (wX ad cI cO X ++ wM bd cI M)) (hS : va_S A s.heap H locs) (ls : Array Slot) (hl : lv_has ls 4 [(0, .ref b), (1, .ref (ad 0)), (2, .ref (bd 0)), (3, .int x3)]) : W p l e room_1 s m args below meth c H locs 600000 7302250 Q (F0 m 679 ls []) := by
  obtain ⟨hx, hb, hret, hml, hts, hown, hlocks, hE, hA⟩ := id B
  refine lv_aload_n hx hb dL_law_679 rfl (lv_at hl 1 rfl) ?_
  refine lv_aload_n hx hb dL_law_680 rfl (lv_at hl 0 rfl) ?_
  refine lv_iload_n hx hb dL_law_681 rfl (lv_at hl 3 rfl) ?_
  refine lv_iconst (v := (1 : Int32)) hx hb dL_law_682 (by decide) ?_
  refine lv_iadd hx hb dL_law_683 ?_
  refine va_sld hx hb hX hbl hbA hS (sc_in (1 : Int32) 1 h0 h1 hL rfl (by decide)) dL_law_684 ?_
  refine lv_aload_n hx hb dL_law_685 rfl (lv_at hl 0 rfl) ?_
  refine lv_iload_n hx hb dL_law_686 rfl (lv_at hl 3 rfl) ?_
  refine lv_iconst (v := (2 : Int32)) hx hb dL_law_687 (by decide) ?_
  refine lv_iadd hx hb dL_law_688 ?_
  refine va_sld hx hb hX hbl hbA hS (sc_in (2 : Int32) 2 h0 h1 hL rfl (by decide)) dL_law_689 ?_
  refine kc_V (As := [.int (xs (x3 + (1 : Int32)).toNatClampNeg), .int (xs (x3 + (2 : Int32)).toNatClampNeg)]) (rest := []) B (c_X3_rounds l D cI cO tF ad X (xs (x3 + (1 : Int32)).toNatClampNeg) (xs (x3 + (2 : Int32)).toNatClampNeg) ) (cwV 2 hts gL_law_X3_rounds rfl rfl rfl (by decide +kernel) ⟨Nat.le_of_ble_eq_true rfl, Nat.le_of_ble_eq_true rfl⟩) hP hD hS [0, 1, 2, 3, 4, 5, 6, 7, 8, 9, 10, 11, 12, 13, 14, 15, 16, 17, 18, 19, 20, 21] wXM_subX (by decide) (w' := wX ad cI cO X ++ wM bd cI M) (wXM_setX _) (wX_fst _) 0 3 rfl rfl rfl rfl hl.1 rfl (Nat.le_of_ble_eq_true rfl) dL_law_690 ⟨Nat.le_refl _, Nat.le_refl _⟩ (fun H locs hP hD hS => ?_)
  refine lv_aload_n hx hb dL_law_693 rfl (lv_at hl 2 rfl) ?_
  refine lv_aload_n hx hb dL_law_694 rfl (lv_at hl 0 rfl) ?_
  refine lv_iload_n hx hb dL_law_695 rfl (lv_at hl 3 rfl) ?_
  refine lv_iconst (v := (1 : Int32)) hx hb dL_law_696 (by decide) ?_
  refine lv_iadd hx hb dL_law_697 ?_
  refine va_sld hx hb hX hbl hbA hS (sc_in (1 : Int32) 1 h0 h1 hL rfl (by decide)) dL_law_698 ?_
  refine lv_aload_n hx hb dL_law_699 rfl (lv_at hl 0 rfl) ?_
  refine lv_iload_n hx hb dL_law_700 rfl (lv_at hl 3 rfl) ?_
  refine lv_iconst (v := (2 : Int32)) hx hb dL_law_701 (by decide) ?_
  refine lv_iadd hx hb dL_law_702 ?_
  refine va_sld hx hb hX hbl hbA hS (sc_in (2 : Int32) 2 h0 h1 hL rfl (by decide)) dL_law_703 ?_
  refine kc_V (As := [.int (xs (x3 + (1 : Int32)).toNatClampNeg), .int (xs (x3 + (2 : Int32)).toNatClampNeg)]) (rest := [.int (f_X3_rounds X (xs (x3 + (1 : Int32)).toNatClampNeg) (xs (x3 + (2 : Int32)).toNatClampNeg))]) B (c_X4_rounds l D cI cO tF bd M (xs (x3 + (1 : Int32)).toNatClampNeg) (xs (x3 + (2 : Int32)).toNatClampNeg) ) (cwV 2 hts gL_law_X4_rounds rfl rfl rfl (by decide +kernel) ⟨Nat.le_of_ble_eq_true rfl, Nat.le_of_ble_eq_true rfl⟩) hP hD hS [22, 23, 24, 25, 26, 27, 28, 29, 30, 31, 32, 33, 34] wXM_subM (by decide) (w' := wX ad cI cO X ++ wM bd cI M) (wXM_setM _) (wM_fst _) 22 4 rfl rfl rfl rfl hl.1 rfl (Nat.le_of_ble_eq_true rfl) dL_law_704 ⟨Nat.le_refl _, Nat.le_refl _⟩ (fun H locs hP hD hS => ?_)
  have hv := rel_rounds hR (xs (x3 + (1 : Int32)).toNatClampNeg) (xs (x3 + (2 : Int32)).toNatClampNeg)
  refine lv_icmp_eq (tgt := 1270) hx hb dL_law_707 (by decide) (fun _ => ?_) (fun h => absurd hv h)
  exact kk _ _ hR _ _ hP hD hS ls hl
set_option maxHeartbeats 4000000 in
set_option maxRecDepth 100000 in
theorem law_c16 {p : Program} (l : Launch) {e : Env} {s : State} {m : MethodId} {below : List Frame} {meth : Method} {c : Code} (D : va_G) (cI cO : ClassId) (tF : Nat) (ad bd : Nat → Nat) {b L : Nat} {xs : Nat → Int32} {A : Nat → Prop} {Q : State → Prop} {args : Array Value} (B : Bx p s m args meth c cL_law 4 ret wsL_law RL D cI cO tF A) (hX : va_X b L xs s s.heap) (hbl : b < s.heap.size) (hbA : ¬ A b) (X : XS) (M : MS) (hR : Rel X M) (x3 : Int32) (h0 : 0 ≤ x3.toInt) (h1 : x3.toInt + 6 ≤ L) (hL : L ≤ 3072) (kk : ∀ (X' : XS) (M' : MS), Rel X' M' → ∀ (H : Heap) (locs : List Loc), va_P D vwCl (wX ad cI cO X' ++ wM bd cI M') H → va_D A (wX ad cI cO X' ++ wM bd cI M') → va_S A s.heap H locs → ∀ ls : Array Slot, lv_has ls 4 [(0, .ref b), (1, .ref (ad 0)), (2, .ref (bd 0)), (3, .int x3)] → W p l e room_1 s m args below meth c H locs 600000 7302250 Q (F0 m 1270 ls [])) (H : Heap) (locs : List Loc) (hP : va_P D vwCl (wX ad cI cO X ++ wM bd cI M) H) (hD : va_D A (wX ad cI cO X ++ wM bd cI M)) (hS : va_S A s.heap H locs) (ls : Array Slot) (hl : lv_has ls 4 [(0, .ref b), (1, .ref (ad 0)), (2, .ref (bd 0)), (3, .int x3)]) : W p l e room_1 s m args below meth c H locs 600000 7302250 Q (F0 m 712 ls []) := by
  obtain ⟨hx, hb, hret, hml, hts, hown, hlocks, hE, hA⟩ := id B
  refine lv_aload_n hx hb dL_law_712 rfl (lv_at hl 1 rfl) ?_
  refine lv_aload_n hx hb dL_law_713 rfl (lv_at hl 0 rfl) ?_
  refine lv_iload_n hx hb dL_law_714 rfl (lv_at hl 3 rfl) ?_
  refine lv_iconst (v := (1 : Int32)) hx hb dL_law_715 (by decide) ?_
  refine lv_iadd hx hb dL_law_716 ?_
  refine va_sld hx hb hX hbl hbA hS (sc_in (1 : Int32) 1 h0 h1 hL rfl (by decide)) dL_law_717 ?_
  refine lv_aload_n hx hb dL_law_718 rfl (lv_at hl 0 rfl) ?_
  refine lv_iload_n hx hb dL_law_719 rfl (lv_at hl 3 rfl) ?_
  refine lv_iconst (v := (2 : Int32)) hx hb dL_law_720 (by decide) ?_
  refine lv_iadd hx hb dL_law_721 ?_
  refine va_sld hx hb hX hbl hbA hS (sc_in (2 : Int32) 2 h0 h1 hL rfl (by decide)) dL_law_722 ?_
  refine kc_V (As := [.int (xs (x3 + (1 : Int32)).toNatClampNeg), .int (xs (x3 + (2 : Int32)).toNatClampNeg)]) (rest := []) B (c_X3_worth l D cI cO tF ad X (xs (x3 + (1 : Int32)).toNatClampNeg) (xs (x3 + (2 : Int32)).toNatClampNeg) (hR.xn)) (cwV 2 hts gL_law_X3_worth rfl rfl rfl (by decide +kernel) ⟨Nat.le_of_ble_eq_true rfl, Nat.le_of_ble_eq_true rfl⟩) hP hD hS [0, 1, 2, 3, 4, 5, 6, 7, 8, 9, 10, 11, 12, 13, 14, 15, 16, 17, 18, 19, 20, 21] wXM_subX (by decide) (w' := wX ad cI cO X ++ wM bd cI M) (wXM_setX _) (wX_fst _) 0 3 rfl rfl rfl rfl hl.1 rfl (Nat.le_of_ble_eq_true rfl) dL_law_723 ⟨Nat.le_refl _, Nat.le_refl _⟩ (fun H locs hP hD hS => ?_)
  refine lv_aload_n hx hb dL_law_726 rfl (lv_at hl 2 rfl) ?_
  refine lv_aload_n hx hb dL_law_727 rfl (lv_at hl 0 rfl) ?_
  refine lv_iload_n hx hb dL_law_728 rfl (lv_at hl 3 rfl) ?_
  refine lv_iconst (v := (1 : Int32)) hx hb dL_law_729 (by decide) ?_
  refine lv_iadd hx hb dL_law_730 ?_
  refine va_sld hx hb hX hbl hbA hS (sc_in (1 : Int32) 1 h0 h1 hL rfl (by decide)) dL_law_731 ?_
  refine lv_aload_n hx hb dL_law_732 rfl (lv_at hl 0 rfl) ?_
  refine lv_iload_n hx hb dL_law_733 rfl (lv_at hl 3 rfl) ?_
  refine lv_iconst (v := (2 : Int32)) hx hb dL_law_734 (by decide) ?_
  refine lv_iadd hx hb dL_law_735 ?_
  refine va_sld hx hb hX hbl hbA hS (sc_in (2 : Int32) 2 h0 h1 hL rfl (by decide)) dL_law_736 ?_
  refine kc_V (As := [.int (xs (x3 + (1 : Int32)).toNatClampNeg), .int (xs (x3 + (2 : Int32)).toNatClampNeg)]) (rest := [.long (f_X3_worth X (xs (x3 + (1 : Int32)).toNatClampNeg) (xs (x3 + (2 : Int32)).toNatClampNeg))]) B (c_X4_worth l D cI cO tF bd M (xs (x3 + (1 : Int32)).toNatClampNeg) (xs (x3 + (2 : Int32)).toNatClampNeg) (hR.mn) (hR.so)) (cwV 2 hts gL_law_X4_worth rfl rfl rfl (by decide +kernel) ⟨Nat.le_of_ble_eq_true rfl, Nat.le_of_ble_eq_true rfl⟩) hP hD hS [22, 23, 24, 25, 26, 27, 28, 29, 30, 31, 32, 33, 34] wXM_subM (by decide) (w' := wX ad cI cO X ++ wM bd cI M) (wXM_setM _) (wM_fst _) 22 4 rfl rfl rfl rfl hl.1 rfl (Nat.le_of_ble_eq_true rfl) dL_law_737 ⟨Nat.le_refl _, Nat.le_refl _⟩ (fun H locs hP hD hS => ?_)
  have hv := rel_worth hR (xs (x3 + (1 : Int32)).toNatClampNeg) (xs (x3 + (2 : Int32)).toNatClampNeg)
  refine W.lcmp hx hb dL_law_740 ?_
  refine lv_if_eq (tgt := 1270) hx hb dL_law_741 (by decide) (fun _ => ?_) (fun h => absurd (lg_eq hv) h)
  exact kk _ _ hR _ _ hP hD hS ls hl
set_option maxHeartbeats 4000000 in
set_option maxRecDepth 100000 in
theorem law_c17 {p : Program} (l : Launch) {e : Env} {s : State} {m : MethodId} {below : List Frame} {meth : Method} {c : Code} (D : va_G) (cI cO : ClassId) (tF : Nat) (ad bd : Nat → Nat) {b L : Nat} {xs : Nat → Int32} {A : Nat → Prop} {Q : State → Prop} {args : Array Value} (B : Bx p s m args meth c cL_law 4 ret wsL_law RL D cI cO tF A) (hX : va_X b L xs s s.heap) (hbl : b < s.heap.size) (hbA : ¬ A b) (X : XS) (M : MS) (hR : Rel X M) (x3 : Int32) (h0 : 0 ≤ x3.toInt) (h1 : x3.toInt + 6 ≤ L) (hL : L ≤ 3072) (kk : ∀ (X' : XS) (M' : MS), Rel X' M' → ∀ (H : Heap) (locs : List Loc), va_P D vwCl (wX ad cI cO X' ++ wM bd cI M') H → va_D A (wX ad cI cO X' ++ wM bd cI M') → va_S A s.heap H locs → ∀ ls : Array Slot, lv_has ls 4 [(0, .ref b), (1, .ref (ad 0)), (2, .ref (bd 0)), (3, .int x3)] → W p l e room_1 s m args below meth c H locs 600000 7302250 Q (F0 m 1270 ls [])) (H : Heap) (locs : List Loc) (hP : va_P D vwCl (wX ad cI cO X ++ wM bd cI M) H) (hD : va_D A (wX ad cI cO X ++ wM bd cI M)) (hS : va_S A s.heap H locs) (ls : Array Slot) (hl : lv_has ls 4 [(0, .ref b), (1, .ref (ad 0)), (2, .ref (bd 0)), (3, .int x3)]) : W p l e room_1 s m args below meth c H locs 600000 7302250 Q (F0 m 746 ls []) := by
  obtain ⟨hx, hb, hret, hml, hts, hown, hlocks, hE, hA⟩ := id B
  refine lv_aload_n hx hb dL_law_746 rfl (lv_at hl 1 rfl) ?_
  refine lv_aload_n hx hb dL_law_747 rfl (lv_at hl 0 rfl) ?_
  refine lv_iload_n hx hb dL_law_748 rfl (lv_at hl 3 rfl) ?_
  refine lv_iconst (v := (1 : Int32)) hx hb dL_law_749 (by decide) ?_
  refine lv_iadd hx hb dL_law_750 ?_
  refine va_sld hx hb hX hbl hbA hS (sc_in (1 : Int32) 1 h0 h1 hL rfl (by decide)) dL_law_751 ?_
  refine kc_V (As := [.int (xs (x3 + (1 : Int32)).toNatClampNeg)]) (rest := []) B (c_X3_mean l D cI cO tF ad X (xs (x3 + (1 : Int32)).toNatClampNeg) (hR.xn)) (cwV 1 hts gL_law_X3_mean rfl rfl rfl (by decide +kernel) ⟨Nat.le_of_ble_eq_true rfl, Nat.le_of_ble_eq_true rfl⟩) hP hD hS [0, 1, 2, 3, 4, 5, 6, 7, 8, 9, 10, 11, 12, 13, 14, 15, 16, 17, 18, 19, 20, 21] wXM_subX (by decide) (w' := wX ad cI cO X ++ wM bd cI M) (wXM_setX _) (wX_fst _) 0 3 rfl rfl rfl rfl hl.1 rfl (Nat.le_of_ble_eq_true rfl) dL_law_752 ⟨Nat.le_refl _, Nat.le_refl _⟩ (fun H locs hP hD hS => ?_)
  refine lv_aload_n hx hb dL_law_755 rfl (lv_at hl 2 rfl) ?_
  refine lv_aload_n hx hb dL_law_756 rfl (lv_at hl 0 rfl) ?_
  refine lv_iload_n hx hb dL_law_757 rfl (lv_at hl 3 rfl) ?_
  refine lv_iconst (v := (1 : Int32)) hx hb dL_law_758 (by decide) ?_
  refine lv_iadd hx hb dL_law_759 ?_
  refine va_sld hx hb hX hbl hbA hS (sc_in (1 : Int32) 1 h0 h1 hL rfl (by decide)) dL_law_760 ?_
  refine kc_V (As := [.int (xs (x3 + (1 : Int32)).toNatClampNeg)]) (rest := [.long (f_X3_mean X (xs (x3 + (1 : Int32)).toNatClampNeg))]) B (c_X4_mean l D cI cO tF bd M (xs (x3 + (1 : Int32)).toNatClampNeg) (hR.mn) (hR.so) (rel_hpo hR)) (cwV 1 hts gL_law_X4_mean rfl rfl rfl (by decide +kernel) ⟨Nat.le_of_ble_eq_true rfl, Nat.le_of_ble_eq_true rfl⟩) hP hD hS [22, 23, 24, 25, 26, 27, 28, 29, 30, 31, 32, 33, 34] wXM_subM (by decide) (w' := wX ad cI cO X ++ wM bd cI M) (wXM_setM _) (wM_fst _) 22 4 rfl rfl rfl rfl hl.1 rfl (Nat.le_of_ble_eq_true rfl) dL_law_761 ⟨Nat.le_refl _, Nat.le_refl _⟩ (fun H locs hP hD hS => ?_)
  have hv := rel_mean hR (xs (x3 + (1 : Int32)).toNatClampNeg)
  refine W.lcmp hx hb dL_law_764 ?_
  refine lv_if_eq (tgt := 1270) hx hb dL_law_765 (by decide) (fun _ => ?_) (fun h => absurd (lg_eq hv) h)
  exact kk _ _ hR _ _ hP hD hS ls hl
