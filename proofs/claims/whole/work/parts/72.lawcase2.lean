set_option maxHeartbeats 4000000 in
set_option maxRecDepth 100000 in
theorem law_c18 {p : Program} (l : Launch) {e : Env} {s : State} {m : MethodId} {below : List Frame} {meth : Method} {c : Code} (D : va_G) (cI cO : ClassId) (tF : Nat) (ad bd : Nat → Nat) {b L : Nat} {xs : Nat → Int32} {A : Nat → Prop} {Q : State → Prop} {args : Array Value} (B : Bx p s m args meth c cL_law 4 ret wsL_law RL D cI cO tF A) (hX : va_X b L xs s s.heap) (hbl : b < s.heap.size) (hbA : ¬ A b) (X : XS) (M : MS) (hR : Rel X M) (x3 : Int32) (h0 : 0 ≤ x3.toInt) (h1 : x3.toInt + 6 ≤ L) (hL : L ≤ 3072) (kk : ∀ (X' : XS) (M' : MS), Rel X' M' → ∀ (H : Heap) (locs : List Loc), va_P D vwCl (wX ad cI cO X' ++ wM bd cI M') H → va_D A (wX ad cI cO X' ++ wM bd cI M') → va_S A s.heap H locs → ∀ ls : Array Slot, lv_has ls 4 [(0, .ref b), (1, .ref (ad 0)), (2, .ref (bd 0)), (3, .int x3)] → W p l e room_1 s m args below meth c H locs 600000 7302250 Q (F0 m 1270 ls [])) (H : Heap) (locs : List Loc) (hP : va_P D vwCl (wX ad cI cO X ++ wM bd cI M) H) (hD : va_D A (wX ad cI cO X ++ wM bd cI M)) (hS : va_S A s.heap H locs) (ls : Array Slot) (hl : lv_has ls 4 [(0, .ref b), (1, .ref (ad 0)), (2, .ref (bd 0)), (3, .int x3)]) : W p l e room_1 s m args below meth c H locs 600000 7302250 Q (F0 m 770 ls []) := by
  obtain ⟨hx, hb, hret, hml, hts, hown, hlocks, hE, hA⟩ := id B
  refine lv_aload_n hx hb dL_law_770 rfl (lv_at hl 1 rfl) ?_
  refine lv_aload_n hx hb dL_law_771 rfl (lv_at hl 0 rfl) ?_
  refine lv_iload_n hx hb dL_law_772 rfl (lv_at hl 3 rfl) ?_
  refine lv_iconst (v := (1 : Int32)) hx hb dL_law_773 (by decide) ?_
  refine lv_iadd hx hb dL_law_774 ?_
  refine va_sld hx hb hX hbl hbA hS (sc_in (1 : Int32) 1 h0 h1 hL rfl (by decide)) dL_law_775 ?_
  refine lv_aload_n hx hb dL_law_776 rfl (lv_at hl 0 rfl) ?_
  refine lv_iload_n hx hb dL_law_777 rfl (lv_at hl 3 rfl) ?_
  refine lv_iconst (v := (2 : Int32)) hx hb dL_law_778 (by decide) ?_
  refine lv_iadd hx hb dL_law_779 ?_
  refine va_sld hx hb hX hbl hbA hS (sc_in (2 : Int32) 2 h0 h1 hL rfl (by decide)) dL_law_780 ?_
  refine lv_aload_n hx hb dL_law_781 rfl (lv_at hl 0 rfl) ?_
  refine lv_iload_n hx hb dL_law_782 rfl (lv_at hl 3 rfl) ?_
  refine lv_iconst (v := (3 : Int32)) hx hb dL_law_783 (by decide) ?_
  refine lv_iadd hx hb dL_law_784 ?_
  refine va_sld hx hb hX hbl hbA hS (sc_in (3 : Int32) 3 h0 h1 hL rfl (by decide)) dL_law_785 ?_
  refine kc_V (As := [.int (xs (x3 + (1 : Int32)).toNatClampNeg), .int (xs (x3 + (2 : Int32)).toNatClampNeg), .int (xs (x3 + (3 : Int32)).toNatClampNeg)]) (rest := []) B (c_X3_reading l D cI cO tF ad X (xs (x3 + (1 : Int32)).toNatClampNeg) (xs (x3 + (2 : Int32)).toNatClampNeg) (xs (x3 + (3 : Int32)).toNatClampNeg) (hR.xn) (hR.xr0)) (cwV 3 hts gL_law_X3_reading rfl rfl rfl (by decide +kernel) ⟨Nat.le_of_ble_eq_true rfl, Nat.le_of_ble_eq_true rfl⟩) hP hD hS [0, 1, 2, 3, 4, 5, 6, 7, 8, 9, 10, 11, 12, 13, 14, 15, 16, 17, 18, 19, 20, 21] wXM_subX (by decide) (w' := wX ad cI cO ((f_X3_reading X (xs (x3 + (1 : Int32)).toNatClampNeg) (xs (x3 + (2 : Int32)).toNatClampNeg) (xs (x3 + (3 : Int32)).toNatClampNeg)).2) ++ wM bd cI M) (wXM_setX _) (wX_fst _) 0 3 rfl rfl rfl rfl hl.1 rfl (Nat.le_of_ble_eq_true rfl) dL_law_786 ⟨Nat.le_refl _, Nat.le_refl _⟩ (fun H locs hP hD hS => ?_)
  refine lv_aload_n hx hb dL_law_789 rfl (lv_at hl 2 rfl) ?_
  refine lv_aload_n hx hb dL_law_790 rfl (lv_at hl 0 rfl) ?_
  refine lv_iload_n hx hb dL_law_791 rfl (lv_at hl 3 rfl) ?_
  refine lv_iconst (v := (1 : Int32)) hx hb dL_law_792 (by decide) ?_
  refine lv_iadd hx hb dL_law_793 ?_
  refine va_sld hx hb hX hbl hbA hS (sc_in (1 : Int32) 1 h0 h1 hL rfl (by decide)) dL_law_794 ?_
  refine lv_aload_n hx hb dL_law_795 rfl (lv_at hl 0 rfl) ?_
  refine lv_iload_n hx hb dL_law_796 rfl (lv_at hl 3 rfl) ?_
  refine lv_iconst (v := (2 : Int32)) hx hb dL_law_797 (by decide) ?_
  refine lv_iadd hx hb dL_law_798 ?_
  refine va_sld hx hb hX hbl hbA hS (sc_in (2 : Int32) 2 h0 h1 hL rfl (by decide)) dL_law_799 ?_
  refine lv_aload_n hx hb dL_law_800 rfl (lv_at hl 0 rfl) ?_
  refine lv_iload_n hx hb dL_law_801 rfl (lv_at hl 3 rfl) ?_
  refine lv_iconst (v := (3 : Int32)) hx hb dL_law_802 (by decide) ?_
  refine lv_iadd hx hb dL_law_803 ?_
  refine va_sld hx hb hX hbl hbA hS (sc_in (3 : Int32) 3 h0 h1 hL rfl (by decide)) dL_law_804 ?_
  refine kc_V (As := [.int (xs (x3 + (1 : Int32)).toNatClampNeg), .int (xs (x3 + (2 : Int32)).toNatClampNeg), .int (xs (x3 + (3 : Int32)).toNatClampNeg)]) (rest := [.int ((f_X3_reading X (xs (x3 + (1 : Int32)).toNatClampNeg) (xs (x3 + (2 : Int32)).toNatClampNeg) (xs (x3 + (3 : Int32)).toNatClampNeg)).1)]) B (c_X4_reading l D cI cO tF bd M (xs (x3 + (1 : Int32)).toNatClampNeg) (xs (x3 + (2 : Int32)).toNatClampNeg) (xs (x3 + (3 : Int32)).toNatClampNeg) (hR.mr)) (cwV 3 hts gL_law_X4_reading rfl rfl rfl (by decide +kernel) ⟨Nat.le_of_ble_eq_true rfl, Nat.le_of_ble_eq_true rfl⟩) hP hD hS [22, 23, 24, 25, 26, 27, 28, 29, 30, 31, 32, 33, 34] wXM_subM (by decide) (w' := wX ad cI cO ((f_X3_reading X (xs (x3 + (1 : Int32)).toNatClampNeg) (xs (x3 + (2 : Int32)).toNatClampNeg) (xs (x3 + (3 : Int32)).toNatClampNeg)).2) ++ wM bd cI ((f_X4_reading M (xs (x3 + (1 : Int32)).toNatClampNeg) (xs (x3 + (2 : Int32)).toNatClampNeg) (xs (x3 + (3 : Int32)).toNatClampNeg)).2)) (wXM_setM _) (wM_fst _) 22 4 rfl rfl rfl rfl hl.1 rfl (Nat.le_of_ble_eq_true rfl) dL_law_805 ⟨Nat.le_refl _, Nat.le_refl _⟩ (fun H locs hP hD hS => ?_)
  have hv := rel_reading hR (xs (x3 + (1 : Int32)).toNatClampNeg) (xs (x3 + (2 : Int32)).toNatClampNeg) (xs (x3 + (3 : Int32)).toNatClampNeg)
  refine lv_icmp_eq (tgt := 1270) hx hb dL_law_808 (by decide) (fun _ => ?_) (fun h => absurd hv.1 h)
  exact kk _ _ hv.2 _ _ hP hD hS ls hl
set_option maxHeartbeats 4000000 in
set_option maxRecDepth 100000 in
theorem law_c19 {p : Program} (l : Launch) {e : Env} {s : State} {m : MethodId} {below : List Frame} {meth : Method} {c : Code} (D : va_G) (cI cO : ClassId) (tF : Nat) (ad bd : Nat → Nat) {b L : Nat} {xs : Nat → Int32} {A : Nat → Prop} {Q : State → Prop} {args : Array Value} (B : Bx p s m args meth c cL_law 4 ret wsL_law RL D cI cO tF A) (hX : va_X b L xs s s.heap) (hbl : b < s.heap.size) (hbA : ¬ A b) (X : XS) (M : MS) (hR : Rel X M) (x3 : Int32) (h0 : 0 ≤ x3.toInt) (h1 : x3.toInt + 6 ≤ L) (hL : L ≤ 3072) (kk : ∀ (X' : XS) (M' : MS), Rel X' M' → ∀ (H : Heap) (locs : List Loc), va_P D vwCl (wX ad cI cO X' ++ wM bd cI M') H → va_D A (wX ad cI cO X' ++ wM bd cI M') → va_S A s.heap H locs → ∀ ls : Array Slot, lv_has ls 4 [(0, .ref b), (1, .ref (ad 0)), (2, .ref (bd 0)), (3, .int x3)] → W p l e room_1 s m args below meth c H locs 600000 7302250 Q (F0 m 1270 ls [])) (H : Heap) (locs : List Loc) (hP : va_P D vwCl (wX ad cI cO X ++ wM bd cI M) H) (hD : va_D A (wX ad cI cO X ++ wM bd cI M)) (hS : va_S A s.heap H locs) (ls : Array Slot) (hl : lv_has ls 4 [(0, .ref b), (1, .ref (ad 0)), (2, .ref (bd 0)), (3, .int x3)]) : W p l e room_1 s m args below meth c H locs 600000 7302250 Q (F0 m 813 ls []) := by
  obtain ⟨hx, hb, hret, hml, hts, hown, hlocks, hE, hA⟩ := id B
  refine lv_aload_n hx hb dL_law_813 rfl (lv_at hl 1 rfl) ?_
  refine lv_aload_n hx hb dL_law_814 rfl (lv_at hl 0 rfl) ?_
  refine lv_iload_n hx hb dL_law_815 rfl (lv_at hl 3 rfl) ?_
  refine lv_iconst (v := (1 : Int32)) hx hb dL_law_816 (by decide) ?_
  refine lv_iadd hx hb dL_law_817 ?_
  refine va_sld hx hb hX hbl hbA hS (sc_in (1 : Int32) 1 h0 h1 hL rfl (by decide)) dL_law_818 ?_
  refine kc_V (As := [.int (xs (x3 + (1 : Int32)).toNatClampNeg)]) (rest := []) B (c_X3_back l D cI cO tF ad X (xs (x3 + (1 : Int32)).toNatClampNeg) ) (cwV 1 hts gL_law_X3_back rfl rfl rfl (by decide +kernel) ⟨Nat.le_of_ble_eq_true rfl, Nat.le_of_ble_eq_true rfl⟩) hP hD hS [0, 1, 2, 3, 4, 5, 6, 7, 8, 9, 10, 11, 12, 13, 14, 15, 16, 17, 18, 19, 20, 21] wXM_subX (by decide) (w' := wX ad cI cO ((f_X3_back X (xs (x3 + (1 : Int32)).toNatClampNeg)).2) ++ wM bd cI M) (wXM_setX _) (wX_fst _) 0 3 rfl rfl rfl rfl hl.1 rfl (Nat.le_of_ble_eq_true rfl) dL_law_819 ⟨Nat.le_refl _, Nat.le_refl _⟩ (fun H locs hP hD hS => ?_)
  refine lv_aload_n hx hb dL_law_822 rfl (lv_at hl 2 rfl) ?_
  refine lv_aload_n hx hb dL_law_823 rfl (lv_at hl 0 rfl) ?_
  refine lv_iload_n hx hb dL_law_824 rfl (lv_at hl 3 rfl) ?_
  refine lv_iconst (v := (1 : Int32)) hx hb dL_law_825 (by decide) ?_
  refine lv_iadd hx hb dL_law_826 ?_
  refine va_sld hx hb hX hbl hbA hS (sc_in (1 : Int32) 1 h0 h1 hL rfl (by decide)) dL_law_827 ?_
  refine kc_V (As := [.int (xs (x3 + (1 : Int32)).toNatClampNeg)]) (rest := [.int ((f_X3_back X (xs (x3 + (1 : Int32)).toNatClampNeg)).1)]) B (c_X4_back l D cI cO tF bd M (xs (x3 + (1 : Int32)).toNatClampNeg) ) (cwV 1 hts gL_law_X4_back rfl rfl rfl (by decide +kernel) ⟨Nat.le_of_ble_eq_true rfl, Nat.le_of_ble_eq_true rfl⟩) hP hD hS [22, 23, 24, 25, 26, 27, 28, 29, 30, 31, 32, 33, 34] wXM_subM (by decide) (w' := wX ad cI cO ((f_X3_back X (xs (x3 + (1 : Int32)).toNatClampNeg)).2) ++ wM bd cI ((f_X4_back M (xs (x3 + (1 : Int32)).toNatClampNeg)).2)) (wXM_setM _) (wM_fst _) 22 4 rfl rfl rfl rfl hl.1 rfl (Nat.le_of_ble_eq_true rfl) dL_law_828 ⟨Nat.le_refl _, Nat.le_refl _⟩ (fun H locs hP hD hS => ?_)
  have hv := rel_back hR (xs (x3 + (1 : Int32)).toNatClampNeg)
  refine lv_icmp_eq (tgt := 1270) hx hb dL_law_831 (by decide) (fun _ => ?_) (fun h => absurd hv.1 h)
  exact kk _ _ hv.2 _ _ hP hD hS ls hl
set_option maxHeartbeats 4000000 in
set_option maxRecDepth 100000 in
theorem law_c20 {p : Program} (l : Launch) {e : Env} {s : State} {m : MethodId} {below : List Frame} {meth : Method} {c : Code} (D : va_G) (cI cO : ClassId) (tF : Nat) (ad bd : Nat → Nat) {b L : Nat} {xs : Nat → Int32} {A : Nat → Prop} {Q : State → Prop} {args : Array Value} (B : Bx p s m args meth c cL_law 4 ret wsL_law RL D cI cO tF A) (hX : va_X b L xs s s.heap) (hbl : b < s.heap.size) (hbA : ¬ A b) (X : XS) (M : MS) (hR : Rel X M) (x3 : Int32) (h0 : 0 ≤ x3.toInt) (h1 : x3.toInt + 6 ≤ L) (hL : L ≤ 3072) (kk : ∀ (X' : XS) (M' : MS), Rel X' M' → ∀ (H : Heap) (locs : List Loc), va_P D vwCl (wX ad cI cO X' ++ wM bd cI M') H → va_D A (wX ad cI cO X' ++ wM bd cI M') → va_S A s.heap H locs → ∀ ls : Array Slot, lv_has ls 4 [(0, .ref b), (1, .ref (ad 0)), (2, .ref (bd 0)), (3, .int x3)] → W p l e room_1 s m args below meth c H locs 600000 7302250 Q (F0 m 1270 ls [])) (H : Heap) (locs : List Loc) (hP : va_P D vwCl (wX ad cI cO X ++ wM bd cI M) H) (hD : va_D A (wX ad cI cO X ++ wM bd cI M)) (hS : va_S A s.heap H locs) (ls : Array Slot) (hl : lv_has ls 4 [(0, .ref b), (1, .ref (ad 0)), (2, .ref (bd 0)), (3, .int x3)]) : W p l e room_1 s m args below meth c H locs 600000 7302250 Q (F0 m 836 ls []) := by
  obtain ⟨hx, hb, hret, hml, hts, hown, hlocks, hE, hA⟩ := id B
  refine lv_aload_n hx hb dL_law_836 rfl (lv_at hl 1 rfl) ?_
  refine lv_aload_n hx hb dL_law_837 rfl (lv_at hl 0 rfl) ?_
  refine lv_iload_n hx hb dL_law_838 rfl (lv_at hl 3 rfl) ?_
  refine lv_iconst (v := (1 : Int32)) hx hb dL_law_839 (by decide) ?_
  refine lv_iadd hx hb dL_law_840 ?_
  refine va_sld hx hb hX hbl hbA hS (sc_in (1 : Int32) 1 h0 h1 hL rfl (by decide)) dL_law_841 ?_
  refine kc_V (As := [.int (xs (x3 + (1 : Int32)).toNatClampNeg)]) (rest := []) B (c_X3_ears l D cI cO tF ad X (xs (x3 + (1 : Int32)).toNatClampNeg) (hR.xn) (hR.xr) (hR.xq)) (cwV 1 hts gL_law_X3_ears rfl rfl rfl (by decide +kernel) ⟨Nat.le_of_ble_eq_true rfl, Nat.le_of_ble_eq_true rfl⟩) hP hD hS [0, 1, 2, 3, 4, 5, 6, 7, 8, 9, 10, 11, 12, 13, 14, 15, 16, 17, 18, 19, 20, 21] wXM_subX (by decide) (w' := wX ad cI cO X ++ wM bd cI M) (wXM_setX _) (wX_fst _) 0 3 rfl rfl rfl rfl hl.1 rfl (Nat.le_of_ble_eq_true rfl) dL_law_842 ⟨Nat.le_refl _, Nat.le_refl _⟩ (fun H locs hP hD hS => ?_)
  refine lv_aload_n hx hb dL_law_845 rfl (lv_at hl 2 rfl) ?_
  refine lv_aload_n hx hb dL_law_846 rfl (lv_at hl 0 rfl) ?_
  refine lv_iload_n hx hb dL_law_847 rfl (lv_at hl 3 rfl) ?_
  refine lv_iconst (v := (1 : Int32)) hx hb dL_law_848 (by decide) ?_
  refine lv_iadd hx hb dL_law_849 ?_
  refine va_sld hx hb hX hbl hbA hS (sc_in (1 : Int32) 1 h0 h1 hL rfl (by decide)) dL_law_850 ?_
  refine kc_V (As := [.int (xs (x3 + (1 : Int32)).toNatClampNeg)]) (rest := [.int (f_X3_ears X (xs (x3 + (1 : Int32)).toNatClampNeg))]) B (c_X4_ears l D cI cO tF bd M (xs (x3 + (1 : Int32)).toNatClampNeg) (hR.mn) (hR.mr.2) (hR.mw)) (cwV 1 hts gL_law_X4_ears rfl rfl rfl (by decide +kernel) ⟨Nat.le_of_ble_eq_true rfl, Nat.le_of_ble_eq_true rfl⟩) hP hD hS [22, 23, 24, 25, 26, 27, 28, 29, 30, 31, 32, 33, 34] wXM_subM (by decide) (w' := wX ad cI cO X ++ wM bd cI ((f_X4_ears M (xs (x3 + (1 : Int32)).toNatClampNeg)).2)) (wXM_setM _) (wM_fst _) 22 4 rfl rfl rfl rfl hl.1 rfl (Nat.le_of_ble_eq_true rfl) dL_law_851 ⟨Nat.le_refl _, Nat.le_refl _⟩ (fun H locs hP hD hS => ?_)
  have hv := rel_ears hR (xs (x3 + (1 : Int32)).toNatClampNeg)
  refine lv_icmp_eq (tgt := 1270) hx hb dL_law_854 (by decide) (fun _ => ?_) (fun h => absurd hv.1 h)
  exact kk _ _ hv.2 _ _ hP hD hS ls hl
set_option maxHeartbeats 4000000 in
set_option maxRecDepth 100000 in
theorem law_c21 {p : Program} (l : Launch) {e : Env} {s : State} {m : MethodId} {below : List Frame} {meth : Method} {c : Code} (D : va_G) (cI cO : ClassId) (tF : Nat) (ad bd : Nat → Nat) {b L : Nat} {xs : Nat → Int32} {A : Nat → Prop} {Q : State → Prop} {args : Array Value} (B : Bx p s m args meth c cL_law 4 ret wsL_law RL D cI cO tF A) (hX : va_X b L xs s s.heap) (hbl : b < s.heap.size) (hbA : ¬ A b) (X : XS) (M : MS) (hR : Rel X M) (x3 : Int32) (h0 : 0 ≤ x3.toInt) (h1 : x3.toInt + 6 ≤ L) (hL : L ≤ 3072) (kk : ∀ (X' : XS) (M' : MS), Rel X' M' → ∀ (H : Heap) (locs : List Loc), va_P D vwCl (wX ad cI cO X' ++ wM bd cI M') H → va_D A (wX ad cI cO X' ++ wM bd cI M') → va_S A s.heap H locs → ∀ ls : Array Slot, lv_has ls 4 [(0, .ref b), (1, .ref (ad 0)), (2, .ref (bd 0)), (3, .int x3)] → W p l e room_1 s m args below meth c H locs 600000 7302250 Q (F0 m 1270 ls [])) (H : Heap) (locs : List Loc) (hP : va_P D vwCl (wX ad cI cO X ++ wM bd cI M) H) (hD : va_D A (wX ad cI cO X ++ wM bd cI M)) (hS : va_S A s.heap H locs) (ls : Array Slot) (hl : lv_has ls 4 [(0, .ref b), (1, .ref (ad 0)), (2, .ref (bd 0)), (3, .int x3)]) : W p l e room_1 s m args below meth c H locs 600000 7302250 Q (F0 m 859 ls []) := by
  obtain ⟨hx, hb, hret, hml, hts, hown, hlocks, hE, hA⟩ := id B
  refine lv_aload_n hx hb dL_law_859 rfl (lv_at hl 1 rfl) ?_
  refine lv_aload_n hx hb dL_law_860 rfl (lv_at hl 0 rfl) ?_
  refine lv_iload_n hx hb dL_law_861 rfl (lv_at hl 3 rfl) ?_
  refine lv_iconst (v := (1 : Int32)) hx hb dL_law_862 (by decide) ?_
  refine lv_iadd hx hb dL_law_863 ?_
  refine va_sld hx hb hX hbl hbA hS (sc_in (1 : Int32) 1 h0 h1 hL rfl (by decide)) dL_law_864 ?_
  refine kc_V (As := [.int (xs (x3 + (1 : Int32)).toNatClampNeg)]) (rest := []) B (c_X3_kinds l D cI cO tF ad X (xs (x3 + (1 : Int32)).toNatClampNeg) (hR.xn) (hR.xr) (hR.xq)) (cwV 1 hts gL_law_X3_kinds rfl rfl rfl (by decide +kernel) ⟨Nat.le_of_ble_eq_true rfl, Nat.le_of_ble_eq_true rfl⟩) hP hD hS [0, 1, 2, 3, 4, 5, 6, 7, 8, 9, 10, 11, 12, 13, 14, 15, 16, 17, 18, 19, 20, 21] wXM_subX (by decide) (w' := wX ad cI cO X ++ wM bd cI M) (wXM_setX _) (wX_fst _) 0 3 rfl rfl rfl rfl hl.1 rfl (Nat.le_of_ble_eq_true rfl) dL_law_865 ⟨Nat.le_refl _, Nat.le_refl _⟩ (fun H locs hP hD hS => ?_)
  refine lv_aload_n hx hb dL_law_868 rfl (lv_at hl 2 rfl) ?_
  refine lv_aload_n hx hb dL_law_869 rfl (lv_at hl 0 rfl) ?_
  refine lv_iload_n hx hb dL_law_870 rfl (lv_at hl 3 rfl) ?_
  refine lv_iconst (v := (1 : Int32)) hx hb dL_law_871 (by decide) ?_
  refine lv_iadd hx hb dL_law_872 ?_
  refine va_sld hx hb hX hbl hbA hS (sc_in (1 : Int32) 1 h0 h1 hL rfl (by decide)) dL_law_873 ?_
  refine kc_V (As := [.int (xs (x3 + (1 : Int32)).toNatClampNeg)]) (rest := [.int (f_X3_kinds X (xs (x3 + (1 : Int32)).toNatClampNeg))]) B (c_X4_kinds l D cI cO tF bd M (xs (x3 + (1 : Int32)).toNatClampNeg) (hR.mn) (hR.mr.2) (hR.mw)) (cwV 1 hts gL_law_X4_kinds rfl rfl rfl (by decide +kernel) ⟨Nat.le_of_ble_eq_true rfl, Nat.le_of_ble_eq_true rfl⟩) hP hD hS [22, 23, 24, 25, 26, 27, 28, 29, 30, 31, 32, 33, 34] wXM_subM (by decide) (w' := wX ad cI cO X ++ wM bd cI ((f_X4_kinds M (xs (x3 + (1 : Int32)).toNatClampNeg)).2)) (wXM_setM _) (wM_fst _) 22 4 rfl rfl rfl rfl hl.1 rfl (Nat.le_of_ble_eq_true rfl) dL_law_874 ⟨Nat.le_refl _, Nat.le_refl _⟩ (fun H locs hP hD hS => ?_)
  have hv := rel_kinds hR (xs (x3 + (1 : Int32)).toNatClampNeg)
  refine lv_icmp_eq (tgt := 1270) hx hb dL_law_877 (by decide) (fun _ => ?_) (fun h => absurd hv.1 h)
  exact kk _ _ hv.2 _ _ hP hD hS ls hl
set_option maxHeartbeats 4000000 in
set_option maxRecDepth 100000 in
theorem law_c22 {p : Program} (l : Launch) {e : Env} {s : State} {m : MethodId} {below : List Frame} {meth : Method} {c : Code} (D : va_G) (cI cO : ClassId) (tF : Nat) (ad bd : Nat → Nat) {b L : Nat} {xs : Nat → Int32} {A : Nat → Prop} {Q : State → Prop} {args : Array Value} (B : Bx p s m args meth c cL_law 4 ret wsL_law RL D cI cO tF A) (hX : va_X b L xs s s.heap) (hbl : b < s.heap.size) (hbA : ¬ A b) (X : XS) (M : MS) (hR : Rel X M) (x3 : Int32) (h0 : 0 ≤ x3.toInt) (h1 : x3.toInt + 6 ≤ L) (hL : L ≤ 3072) (kk : ∀ (X' : XS) (M' : MS), Rel X' M' → ∀ (H : Heap) (locs : List Loc), va_P D vwCl (wX ad cI cO X' ++ wM bd cI M') H → va_D A (wX ad cI cO X' ++ wM bd cI M') → va_S A s.heap H locs → ∀ ls : Array Slot, lv_has ls 4 [(0, .ref b), (1, .ref (ad 0)), (2, .ref (bd 0)), (3, .int x3)] → W p l e room_1 s m args below meth c H locs 600000 7302250 Q (F0 m 1270 ls [])) (H : Heap) (locs : List Loc) (hP : va_P D vwCl (wX ad cI cO X ++ wM bd cI M) H) (hD : va_D A (wX ad cI cO X ++ wM bd cI M)) (hS : va_S A s.heap H locs) (ls : Array Slot) (hl : lv_has ls 4 [(0, .ref b), (1, .ref (ad 0)), (2, .ref (bd 0)), (3, .int x3)]) : W p l e room_1 s m args below meth c H locs 600000 7302250 Q (F0 m 882 ls []) := by
  obtain ⟨hx, hb, hret, hml, hts, hown, hlocks, hE, hA⟩ := id B
  refine lv_aload_n hx hb dL_law_882 rfl (lv_at hl 1 rfl) ?_
  refine lv_aload_n hx hb dL_law_883 rfl (lv_at hl 0 rfl) ?_
  refine lv_iload_n hx hb dL_law_884 rfl (lv_at hl 3 rfl) ?_
  refine lv_iconst (v := (1 : Int32)) hx hb dL_law_885 (by decide) ?_
  refine lv_iadd hx hb dL_law_886 ?_
  refine va_sld hx hb hX hbl hbA hS (sc_in (1 : Int32) 1 h0 h1 hL rfl (by decide)) dL_law_887 ?_
  refine lv_aload_n hx hb dL_law_888 rfl (lv_at hl 0 rfl) ?_
  refine lv_iload_n hx hb dL_law_889 rfl (lv_at hl 3 rfl) ?_
  refine lv_iconst (v := (2 : Int32)) hx hb dL_law_890 (by decide) ?_
  refine lv_iadd hx hb dL_law_891 ?_
  refine va_sld hx hb hX hbl hbA hS (sc_in (2 : Int32) 2 h0 h1 hL rfl (by decide)) dL_law_892 ?_
  refine lv_aload_n hx hb dL_law_893 rfl (lv_at hl 0 rfl) ?_
  refine lv_iload_n hx hb dL_law_894 rfl (lv_at hl 3 rfl) ?_
  refine lv_iconst (v := (3 : Int32)) hx hb dL_law_895 (by decide) ?_
  refine lv_iadd hx hb dL_law_896 ?_
  refine va_sld hx hb hX hbl hbA hS (sc_in (3 : Int32) 3 h0 h1 hL rfl (by decide)) dL_law_897 ?_
  refine kc_V (As := [.int (xs (x3 + (1 : Int32)).toNatClampNeg), .int (xs (x3 + (2 : Int32)).toNatClampNeg), .int (xs (x3 + (3 : Int32)).toNatClampNeg)]) (rest := []) B (c_X3_odds l D cI cO tF ad X (xs (x3 + (1 : Int32)).toNatClampNeg) (xs (x3 + (2 : Int32)).toNatClampNeg) (xs (x3 + (3 : Int32)).toNatClampNeg) (hR.xn)) (cwV 3 hts gL_law_X3_odds rfl rfl rfl (by decide +kernel) ⟨Nat.le_of_ble_eq_true rfl, Nat.le_of_ble_eq_true rfl⟩) hP hD hS [0, 1, 2, 3, 4, 5, 6, 7, 8, 9, 10, 11, 12, 13, 14, 15, 16, 17, 18, 19, 20, 21] wXM_subX (by decide) (w' := wX ad cI cO X ++ wM bd cI M) (wXM_setX _) (wX_fst _) 0 3 rfl rfl rfl rfl hl.1 rfl (Nat.le_of_ble_eq_true rfl) dL_law_898 ⟨Nat.le_refl _, Nat.le_refl _⟩ (fun H locs hP hD hS => ?_)
  refine lv_aload_n hx hb dL_law_901 rfl (lv_at hl 2 rfl) ?_
  refine lv_aload_n hx hb dL_law_902 rfl (lv_at hl 0 rfl) ?_
  refine lv_iload_n hx hb dL_law_903 rfl (lv_at hl 3 rfl) ?_
  refine lv_iconst (v := (1 : Int32)) hx hb dL_law_904 (by decide) ?_
  refine lv_iadd hx hb dL_law_905 ?_
  refine va_sld hx hb hX hbl hbA hS (sc_in (1 : Int32) 1 h0 h1 hL rfl (by decide)) dL_law_906 ?_
  refine lv_aload_n hx hb dL_law_907 rfl (lv_at hl 0 rfl) ?_
  refine lv_iload_n hx hb dL_law_908 rfl (lv_at hl 3 rfl) ?_
  refine lv_iconst (v := (2 : Int32)) hx hb dL_law_909 (by decide) ?_
  refine lv_iadd hx hb dL_law_910 ?_
  refine va_sld hx hb hX hbl hbA hS (sc_in (2 : Int32) 2 h0 h1 hL rfl (by decide)) dL_law_911 ?_
  refine lv_aload_n hx hb dL_law_912 rfl (lv_at hl 0 rfl) ?_
  refine lv_iload_n hx hb dL_law_913 rfl (lv_at hl 3 rfl) ?_
  refine lv_iconst (v := (3 : Int32)) hx hb dL_law_914 (by decide) ?_
  refine lv_iadd hx hb dL_law_915 ?_
  refine va_sld hx hb hX hbl hbA hS (sc_in (3 : Int32) 3 h0 h1 hL rfl (by decide)) dL_law_916 ?_
  refine kc_V (As := [.int (xs (x3 + (1 : Int32)).toNatClampNeg), .int (xs (x3 + (2 : Int32)).toNatClampNeg), .int (xs (x3 + (3 : Int32)).toNatClampNeg)]) (rest := [.long (f_X3_odds X (xs (x3 + (1 : Int32)).toNatClampNeg) (xs (x3 + (2 : Int32)).toNatClampNeg) (xs (x3 + (3 : Int32)).toNatClampNeg))]) B (c_X4_odds l D cI cO tF bd M (xs (x3 + (1 : Int32)).toNatClampNeg) (xs (x3 + (2 : Int32)).toNatClampNeg) (xs (x3 + (3 : Int32)).toNatClampNeg) (hR.mn) (hR.ht)) (cwV 3 hts gL_law_X4_odds rfl rfl rfl (by decide +kernel) ⟨Nat.le_of_ble_eq_true rfl, Nat.le_of_ble_eq_true rfl⟩) hP hD hS [22, 23, 24, 25, 26, 27, 28, 29, 30, 31, 32, 33, 34] wXM_subM (by decide) (w' := wX ad cI cO X ++ wM bd cI M) (wXM_setM _) (wM_fst _) 22 4 rfl rfl rfl rfl hl.1 rfl (Nat.le_of_ble_eq_true rfl) dL_law_917 ⟨Nat.le_refl _, Nat.le_refl _⟩ (fun H locs hP hD hS => ?_)
  have hv := rel_odds hR (xs (x3 + (1 : Int32)).toNatClampNeg) (xs (x3 + (2 : Int32)).toNatClampNeg) (xs (x3 + (3 : Int32)).toNatClampNeg)
  refine W.lcmp hx hb dL_law_920 ?_
  refine lv_if_eq (tgt := 1270) hx hb dL_law_921 (by decide) (fun _ => ?_) (fun h => absurd (lg_eq hv) h)
  exact kk _ _ hR _ _ hP hD hS ls hl
set_option maxHeartbeats 4000000 in
set_option maxRecDepth 100000 in
theorem law_c23 {p : Program} (l : Launch) {e : Env} {s : State} {m : MethodId} {below : List Frame} {meth : Method} {c : Code} (D : va_G) (cI cO : ClassId) (tF : Nat) (ad bd : Nat → Nat) {b L : Nat} {xs : Nat → Int32} {A : Nat → Prop} {Q : State → Prop} {args : Array Value} (B : Bx p s m args meth c cL_law 4 ret wsL_law RL D cI cO tF A) (hX : va_X b L xs s s.heap) (hbl : b < s.heap.size) (hbA : ¬ A b) (X : XS) (M : MS) (hR : Rel X M) (x3 : Int32) (h0 : 0 ≤ x3.toInt) (h1 : x3.toInt + 6 ≤ L) (hL : L ≤ 3072) (kk : ∀ (X' : XS) (M' : MS), Rel X' M' → ∀ (H : Heap) (locs : List Loc), va_P D vwCl (wX ad cI cO X' ++ wM bd cI M') H → va_D A (wX ad cI cO X' ++ wM bd cI M') → va_S A s.heap H locs → ∀ ls : Array Slot, lv_has ls 4 [(0, .ref b), (1, .ref (ad 0)), (2, .ref (bd 0)), (3, .int x3)] → W p l e room_1 s m args below meth c H locs 600000 7302250 Q (F0 m 1270 ls [])) (H : Heap) (locs : List Loc) (hP : va_P D vwCl (wX ad cI cO X ++ wM bd cI M) H) (hD : va_D A (wX ad cI cO X ++ wM bd cI M)) (hS : va_S A s.heap H locs) (ls : Array Slot) (hl : lv_has ls 4 [(0, .ref b), (1, .ref (ad 0)), (2, .ref (bd 0)), (3, .int x3)]) : W p l e room_1 s m args below meth c H locs 600000 7302250 Q (F0 m 926 ls []) := by
  obtain ⟨hx, hb, hret, hml, hts, hown, hlocks, hE, hA⟩ := id B
  refine lv_aload_n hx hb dL_law_926 rfl (lv_at hl 1 rfl) ?_
  refine lv_aload_n hx hb dL_law_927 rfl (lv_at hl 0 rfl) ?_
  refine lv_iload_n hx hb dL_law_928 rfl (lv_at hl 3 rfl) ?_
  refine lv_iconst (v := (1 : Int32)) hx hb dL_law_929 (by decide) ?_
  refine lv_iadd hx hb dL_law_930 ?_
  refine va_sld hx hb hX hbl hbA hS (sc_in (1 : Int32) 1 h0 h1 hL rfl (by decide)) dL_law_931 ?_
  refine lv_aload_n hx hb dL_law_932 rfl (lv_at hl 0 rfl) ?_
  refine lv_iload_n hx hb dL_law_933 rfl (lv_at hl 3 rfl) ?_
  refine lv_iconst (v := (2 : Int32)) hx hb dL_law_934 (by decide) ?_
  refine lv_iadd hx hb dL_law_935 ?_
  refine va_sld hx hb hX hbl hbA hS (sc_in (2 : Int32) 2 h0 h1 hL rfl (by decide)) dL_law_936 ?_
  refine lv_aload_n hx hb dL_law_937 rfl (lv_at hl 0 rfl) ?_
  refine lv_iload_n hx hb dL_law_938 rfl (lv_at hl 3 rfl) ?_
  refine lv_iconst (v := (3 : Int32)) hx hb dL_law_939 (by decide) ?_
  refine lv_iadd hx hb dL_law_940 ?_
  refine va_sld hx hb hX hbl hbA hS (sc_in (3 : Int32) 3 h0 h1 hL rfl (by decide)) dL_law_941 ?_
  refine kc_V (As := [.int (xs (x3 + (1 : Int32)).toNatClampNeg), .int (xs (x3 + (2 : Int32)).toNatClampNeg), .int (xs (x3 + (3 : Int32)).toNatClampNeg)]) (rest := []) B (c_X3_sheet l D cI cO tF ad X (xs (x3 + (1 : Int32)).toNatClampNeg) (xs (x3 + (2 : Int32)).toNatClampNeg) (xs (x3 + (3 : Int32)).toNatClampNeg) ) (cwV 3 hts gL_law_X3_sheet rfl rfl rfl (by decide +kernel) ⟨Nat.le_of_ble_eq_true rfl, Nat.le_of_ble_eq_true rfl⟩) hP hD hS [0, 1, 2, 3, 4, 5, 6, 7, 8, 9, 10, 11, 12, 13, 14, 15, 16, 17, 18, 19, 20, 21] wXM_subX (by decide) (w' := wX ad cI cO ((f_X3_sheet X (xs (x3 + (1 : Int32)).toNatClampNeg) (xs (x3 + (2 : Int32)).toNatClampNeg) (xs (x3 + (3 : Int32)).toNatClampNeg)).2) ++ wM bd cI M) (wXM_setX _) (wX_fst _) 0 3 rfl rfl rfl rfl hl.1 rfl (Nat.le_of_ble_eq_true rfl) dL_law_942 ⟨Nat.le_refl _, Nat.le_refl _⟩ (fun H locs hP hD hS => ?_)
  refine lv_aload_n hx hb dL_law_945 rfl (lv_at hl 2 rfl) ?_
  refine lv_aload_n hx hb dL_law_946 rfl (lv_at hl 0 rfl) ?_
  refine lv_iload_n hx hb dL_law_947 rfl (lv_at hl 3 rfl) ?_
  refine lv_iconst (v := (1 : Int32)) hx hb dL_law_948 (by decide) ?_
  refine lv_iadd hx hb dL_law_949 ?_
  refine va_sld hx hb hX hbl hbA hS (sc_in (1 : Int32) 1 h0 h1 hL rfl (by decide)) dL_law_950 ?_
  refine lv_aload_n hx hb dL_law_951 rfl (lv_at hl 0 rfl) ?_
  refine lv_iload_n hx hb dL_law_952 rfl (lv_at hl 3 rfl) ?_
  refine lv_iconst (v := (2 : Int32)) hx hb dL_law_953 (by decide) ?_
  refine lv_iadd hx hb dL_law_954 ?_
  refine va_sld hx hb hX hbl hbA hS (sc_in (2 : Int32) 2 h0 h1 hL rfl (by decide)) dL_law_955 ?_
  refine lv_aload_n hx hb dL_law_956 rfl (lv_at hl 0 rfl) ?_
  refine lv_iload_n hx hb dL_law_957 rfl (lv_at hl 3 rfl) ?_
  refine lv_iconst (v := (3 : Int32)) hx hb dL_law_958 (by decide) ?_
  refine lv_iadd hx hb dL_law_959 ?_
  refine va_sld hx hb hX hbl hbA hS (sc_in (3 : Int32) 3 h0 h1 hL rfl (by decide)) dL_law_960 ?_
  refine kc_V (As := [.int (xs (x3 + (1 : Int32)).toNatClampNeg), .int (xs (x3 + (2 : Int32)).toNatClampNeg), .int (xs (x3 + (3 : Int32)).toNatClampNeg)]) (rest := [.int ((f_X3_sheet X (xs (x3 + (1 : Int32)).toNatClampNeg) (xs (x3 + (2 : Int32)).toNatClampNeg) (xs (x3 + (3 : Int32)).toNatClampNeg)).1)]) B (c_X4_sheet l D cI cO tF bd M (xs (x3 + (1 : Int32)).toNatClampNeg) (xs (x3 + (2 : Int32)).toNatClampNeg) (xs (x3 + (3 : Int32)).toNatClampNeg) ) (cwV 3 hts gL_law_X4_sheet rfl rfl rfl (by decide +kernel) ⟨Nat.le_of_ble_eq_true rfl, Nat.le_of_ble_eq_true rfl⟩) hP hD hS [22, 23, 24, 25, 26, 27, 28, 29, 30, 31, 32, 33, 34] wXM_subM (by decide) (w' := wX ad cI cO ((f_X3_sheet X (xs (x3 + (1 : Int32)).toNatClampNeg) (xs (x3 + (2 : Int32)).toNatClampNeg) (xs (x3 + (3 : Int32)).toNatClampNeg)).2) ++ wM bd cI ((f_X4_sheet M (xs (x3 + (1 : Int32)).toNatClampNeg) (xs (x3 + (2 : Int32)).toNatClampNeg) (xs (x3 + (3 : Int32)).toNatClampNeg)).2)) (wXM_setM _) (wM_fst _) 22 4 rfl rfl rfl rfl hl.1 rfl (Nat.le_of_ble_eq_true rfl) dL_law_961 ⟨Nat.le_refl _, Nat.le_refl _⟩ (fun H locs hP hD hS => ?_)
  have hv := rel_sheet hR (xs (x3 + (1 : Int32)).toNatClampNeg) (xs (x3 + (2 : Int32)).toNatClampNeg) (xs (x3 + (3 : Int32)).toNatClampNeg)
  refine lv_icmp_eq (tgt := 1270) hx hb dL_law_964 (by decide) (fun _ => ?_) (fun h => absurd hv.1 h)
  exact kk _ _ hv.2 _ _ hP hD hS ls hl
set_option maxHeartbeats 4000000 in
set_option maxRecDepth 100000 in
theorem law_c24 {p : Program} (l : Launch) {e : Env} {s : State} {m : MethodId} {below : List Frame} {meth : Method} {c : Code} (D : va_G) (cI cO : ClassId) (tF : Nat) (ad bd : Nat → Nat) {b L : Nat} {xs : Nat → Int32} {A : Nat → Prop} {Q : State → Prop} {args : Array Value} (B : Bx p s m args meth c cL_law 4 ret wsL_law RL D cI cO tF A) (hX : va_X b L xs s s.heap) (hbl : b < s.heap.size) (hbA : ¬ A b) (X : XS) (M : MS) (hR : Rel X M) (x3 : Int32) (h0 : 0 ≤ x3.toInt) (h1 : x3.toInt + 6 ≤ L) (hL : L ≤ 3072) (kk : ∀ (X' : XS) (M' : MS), Rel X' M' → ∀ (H : Heap) (locs : List Loc), va_P D vwCl (wX ad cI cO X' ++ wM bd cI M') H → va_D A (wX ad cI cO X' ++ wM bd cI M') → va_S A s.heap H locs → ∀ ls : Array Slot, lv_has ls 4 [(0, .ref b), (1, .ref (ad 0)), (2, .ref (bd 0)), (3, .int x3)] → W p l e room_1 s m args below meth c H locs 600000 7302250 Q (F0 m 1270 ls [])) (H : Heap) (locs : List Loc) (hP : va_P D vwCl (wX ad cI cO X ++ wM bd cI M) H) (hD : va_D A (wX ad cI cO X ++ wM bd cI M)) (hS : va_S A s.heap H locs) (ls : Array Slot) (hl : lv_has ls 4 [(0, .ref b), (1, .ref (ad 0)), (2, .ref (bd 0)), (3, .int x3)]) : W p l e room_1 s m args below meth c H locs 600000 7302250 Q (F0 m 969 ls []) := by
  obtain ⟨hx, hb, hret, hml, hts, hown, hlocks, hE, hA⟩ := id B
  refine lv_aload_n hx hb dL_law_969 rfl (lv_at hl 1 rfl) ?_
  refine lv_aload_n hx hb dL_law_970 rfl (lv_at hl 0 rfl) ?_
  refine lv_iload_n hx hb dL_law_971 rfl (lv_at hl 3 rfl) ?_
  refine lv_iconst (v := (1 : Int32)) hx hb dL_law_972 (by decide) ?_
  refine lv_iadd hx hb dL_law_973 ?_
  refine va_sld hx hb hX hbl hbA hS (sc_in (1 : Int32) 1 h0 h1 hL rfl (by decide)) dL_law_974 ?_
  refine kc_V (As := [.int (xs (x3 + (1 : Int32)).toNatClampNeg)]) (rest := []) B (c_X3_lose l D cI cO tF ad X (xs (x3 + (1 : Int32)).toNatClampNeg) ) (cwV 1 hts gL_law_X3_lose rfl rfl rfl (by decide +kernel) ⟨Nat.le_of_ble_eq_true rfl, Nat.le_of_ble_eq_true rfl⟩) hP hD hS [0, 1, 2, 3, 4, 5, 6, 7, 8, 9, 10, 11, 12, 13, 14, 15, 16, 17, 18, 19, 20, 21] wXM_subX (by decide) (w' := wX ad cI cO ((f_X3_lose X (xs (x3 + (1 : Int32)).toNatClampNeg)).2) ++ wM bd cI M) (wXM_setX _) (wX_fst _) 0 3 rfl rfl rfl rfl hl.1 rfl (Nat.le_of_ble_eq_true rfl) dL_law_975 ⟨Nat.le_refl _, Nat.le_refl _⟩ (fun H locs hP hD hS => ?_)
  refine lv_aload_n hx hb dL_law_978 rfl (lv_at hl 2 rfl) ?_
  refine lv_aload_n hx hb dL_law_979 rfl (lv_at hl 0 rfl) ?_
  refine lv_iload_n hx hb dL_law_980 rfl (lv_at hl 3 rfl) ?_
  refine lv_iconst (v := (1 : Int32)) hx hb dL_law_981 (by decide) ?_
  refine lv_iadd hx hb dL_law_982 ?_
  refine va_sld hx hb hX hbl hbA hS (sc_in (1 : Int32) 1 h0 h1 hL rfl (by decide)) dL_law_983 ?_
  refine kc_V (As := [.int (xs (x3 + (1 : Int32)).toNatClampNeg)]) (rest := [.int ((f_X3_lose X (xs (x3 + (1 : Int32)).toNatClampNeg)).1)]) B (c_X4_lose l D cI cO tF bd M (xs (x3 + (1 : Int32)).toNatClampNeg) ) (cwV 1 hts gL_law_X4_lose rfl rfl rfl (by decide +kernel) ⟨Nat.le_of_ble_eq_true rfl, Nat.le_of_ble_eq_true rfl⟩) hP hD hS [22, 23, 24, 25, 26, 27, 28, 29, 30, 31, 32, 33, 34] wXM_subM (by decide) (w' := wX ad cI cO ((f_X3_lose X (xs (x3 + (1 : Int32)).toNatClampNeg)).2) ++ wM bd cI ((f_X4_lose M (xs (x3 + (1 : Int32)).toNatClampNeg)).2)) (wXM_setM _) (wM_fst _) 22 4 rfl rfl rfl rfl hl.1 rfl (Nat.le_of_ble_eq_true rfl) dL_law_984 ⟨Nat.le_refl _, Nat.le_refl _⟩ (fun H locs hP hD hS => ?_)
  have hv := rel_lose hR (xs (x3 + (1 : Int32)).toNatClampNeg)
  refine lv_icmp_eq (tgt := 1270) hx hb dL_law_987 (by decide) (fun _ => ?_) (fun h => absurd hv.1 h)
  exact kk _ _ hv.2 _ _ hP hD hS ls hl
set_option maxHeartbeats 4000000 in
set_option maxRecDepth 100000 in
theorem law_c25 {p : Program} (l : Launch) {e : Env} {s : State} {m : MethodId} {below : List Frame} {meth : Method} {c : Code} (D : va_G) (cI cO : ClassId) (tF : Nat) (ad bd : Nat → Nat) {b L : Nat} {xs : Nat → Int32} {A : Nat → Prop} {Q : State → Prop} {args : Array Value} (B : Bx p s m args meth c cL_law 4 ret wsL_law RL D cI cO tF A) (hX : va_X b L xs s s.heap) (hbl : b < s.heap.size) (hbA : ¬ A b) (X : XS) (M : MS) (hR : Rel X M) (x3 : Int32) (h0 : 0 ≤ x3.toInt) (h1 : x3.toInt + 6 ≤ L) (hL : L ≤ 3072) (kk : ∀ (X' : XS) (M' : MS), Rel X' M' → ∀ (H : Heap) (locs : List Loc), va_P D vwCl (wX ad cI cO X' ++ wM bd cI M') H → va_D A (wX ad cI cO X' ++ wM bd cI M') → va_S A s.heap H locs → ∀ ls : Array Slot, lv_has ls 4 [(0, .ref b), (1, .ref (ad 0)), (2, .ref (bd 0)), (3, .int x3)] → W p l e room_1 s m args below meth c H locs 600000 7302250 Q (F0 m 1270 ls [])) (H : Heap) (locs : List Loc) (hP : va_P D vwCl (wX ad cI cO X ++ wM bd cI M) H) (hD : va_D A (wX ad cI cO X ++ wM bd cI M)) (hS : va_S A s.heap H locs) (ls : Array Slot) (hl : lv_has ls 4 [(0, .ref b), (1, .ref (ad 0)), (2, .ref (bd 0)), (3, .int x3)]) : W p l e room_1 s m args below meth c H locs 600000 7302250 Q (F0 m 992 ls []) := by
  obtain ⟨hx, hb, hret, hml, hts, hown, hlocks, hE, hA⟩ := id B
  refine lv_aload_n hx hb dL_law_992 rfl (lv_at hl 1 rfl) ?_
  refine lv_aload_n hx hb dL_law_993 rfl (lv_at hl 0 rfl) ?_
  refine lv_iload_n hx hb dL_law_994 rfl (lv_at hl 3 rfl) ?_
  refine lv_iconst (v := (1 : Int32)) hx hb dL_law_995 (by decide) ?_
  refine lv_iadd hx hb dL_law_996 ?_
  refine va_sld hx hb hX hbl hbA hS (sc_in (1 : Int32) 1 h0 h1 hL rfl (by decide)) dL_law_997 ?_
  refine lv_aload_n hx hb dL_law_998 rfl (lv_at hl 0 rfl) ?_
  refine lv_iload_n hx hb dL_law_999 rfl (lv_at hl 3 rfl) ?_
  refine lv_iconst (v := (2 : Int32)) hx hb dL_law_1000 (by decide) ?_
  refine lv_iadd hx hb dL_law_1001 ?_
  refine va_sld hx hb hX hbl hbA hS (sc_in (2 : Int32) 2 h0 h1 hL rfl (by decide)) dL_law_1002 ?_
  refine lv_aload_n hx hb dL_law_1003 rfl (lv_at hl 0 rfl) ?_
  refine lv_iload_n hx hb dL_law_1004 rfl (lv_at hl 3 rfl) ?_
  refine lv_iconst (v := (3 : Int32)) hx hb dL_law_1005 (by decide) ?_
  refine lv_iadd hx hb dL_law_1006 ?_
  refine va_sld hx hb hX hbl hbA hS (sc_in (3 : Int32) 3 h0 h1 hL rfl (by decide)) dL_law_1007 ?_
  refine kc_V (As := [.int (xs (x3 + (1 : Int32)).toNatClampNeg), .int (xs (x3 + (2 : Int32)).toNatClampNeg), .int (xs (x3 + (3 : Int32)).toNatClampNeg)]) (rest := []) B (c_X3_put l D cI cO tF ad X (xs (x3 + (1 : Int32)).toNatClampNeg) (xs (x3 + (2 : Int32)).toNatClampNeg) (xs (x3 + (3 : Int32)).toNatClampNeg) (hR.xL)) (cwV 3 hts gL_law_X3_put rfl rfl rfl (by decide +kernel) ⟨Nat.le_of_ble_eq_true rfl, Nat.le_of_ble_eq_true rfl⟩) hP hD hS [0, 1, 2, 3, 4, 5, 6, 7, 8, 9, 10, 11, 12, 13, 14, 15, 16, 17, 18, 19, 20, 21] wXM_subX (by decide) (w' := wX ad cI cO ((f_X3_put X (xs (x3 + (1 : Int32)).toNatClampNeg) (xs (x3 + (2 : Int32)).toNatClampNeg) (xs (x3 + (3 : Int32)).toNatClampNeg)).2) ++ wM bd cI M) (wXM_setX _) (wX_fst _) 0 3 rfl rfl rfl rfl hl.1 rfl (Nat.le_of_ble_eq_true rfl) dL_law_1008 ⟨Nat.le_refl _, Nat.le_refl _⟩ (fun H locs hP hD hS => ?_)
  refine lv_aload_n hx hb dL_law_1011 rfl (lv_at hl 2 rfl) ?_
  refine lv_aload_n hx hb dL_law_1012 rfl (lv_at hl 0 rfl) ?_
  refine lv_iload_n hx hb dL_law_1013 rfl (lv_at hl 3 rfl) ?_
  refine lv_iconst (v := (1 : Int32)) hx hb dL_law_1014 (by decide) ?_
  refine lv_iadd hx hb dL_law_1015 ?_
  refine va_sld hx hb hX hbl hbA hS (sc_in (1 : Int32) 1 h0 h1 hL rfl (by decide)) dL_law_1016 ?_
  refine lv_aload_n hx hb dL_law_1017 rfl (lv_at hl 0 rfl) ?_
  refine lv_iload_n hx hb dL_law_1018 rfl (lv_at hl 3 rfl) ?_
  refine lv_iconst (v := (2 : Int32)) hx hb dL_law_1019 (by decide) ?_
  refine lv_iadd hx hb dL_law_1020 ?_
  refine va_sld hx hb hX hbl hbA hS (sc_in (2 : Int32) 2 h0 h1 hL rfl (by decide)) dL_law_1021 ?_
  refine lv_aload_n hx hb dL_law_1022 rfl (lv_at hl 0 rfl) ?_
  refine lv_iload_n hx hb dL_law_1023 rfl (lv_at hl 3 rfl) ?_
  refine lv_iconst (v := (3 : Int32)) hx hb dL_law_1024 (by decide) ?_
  refine lv_iadd hx hb dL_law_1025 ?_
  refine va_sld hx hb hX hbl hbA hS (sc_in (3 : Int32) 3 h0 h1 hL rfl (by decide)) dL_law_1026 ?_
  refine kc_V (As := [.int (xs (x3 + (1 : Int32)).toNatClampNeg), .int (xs (x3 + (2 : Int32)).toNatClampNeg), .int (xs (x3 + (3 : Int32)).toNatClampNeg)]) (rest := [.int ((f_X3_put X (xs (x3 + (1 : Int32)).toNatClampNeg) (xs (x3 + (2 : Int32)).toNatClampNeg) (xs (x3 + (3 : Int32)).toNatClampNeg)).1)]) B (c_X4_put l D cI cO tF bd M (xs (x3 + (1 : Int32)).toNatClampNeg) (xs (x3 + (2 : Int32)).toNatClampNeg) (xs (x3 + (3 : Int32)).toNatClampNeg) (hR.mL)) (cwV 3 hts gL_law_X4_put rfl rfl rfl (by decide +kernel) ⟨Nat.le_of_ble_eq_true rfl, Nat.le_of_ble_eq_true rfl⟩) hP hD hS [22, 23, 24, 25, 26, 27, 28, 29, 30, 31, 32, 33, 34] wXM_subM (by decide) (w' := wX ad cI cO ((f_X3_put X (xs (x3 + (1 : Int32)).toNatClampNeg) (xs (x3 + (2 : Int32)).toNatClampNeg) (xs (x3 + (3 : Int32)).toNatClampNeg)).2) ++ wM bd cI ((f_X4_put M (xs (x3 + (1 : Int32)).toNatClampNeg) (xs (x3 + (2 : Int32)).toNatClampNeg) (xs (x3 + (3 : Int32)).toNatClampNeg)).2)) (wXM_setM _) (wM_fst _) 22 4 rfl rfl rfl rfl hl.1 rfl (Nat.le_of_ble_eq_true rfl) dL_law_1027 ⟨Nat.le_refl _, Nat.le_refl _⟩ (fun H locs hP hD hS => ?_)
  have hv := rel_put hR (xs (x3 + (1 : Int32)).toNatClampNeg) (xs (x3 + (2 : Int32)).toNatClampNeg) (xs (x3 + (3 : Int32)).toNatClampNeg)
  refine lv_icmp_eq (tgt := 1270) hx hb dL_law_1030 (by decide) (fun _ => ?_) (fun h => absurd hv.1 h)
  exact kk _ _ hv.2 _ _ hP hD hS ls hl
set_option maxHeartbeats 4000000 in
set_option maxRecDepth 100000 in
theorem law_c26 {p : Program} (l : Launch) {e : Env} {s : State} {m : MethodId} {below : List Frame} {meth : Method} {c : Code} (D : va_G) (cI cO : ClassId) (tF : Nat) (ad bd : Nat → Nat) {b L : Nat} {xs : Nat → Int32} {A : Nat → Prop} {Q : State → Prop} {args : Array Value} (B : Bx p s m args meth c cL_law 4 ret wsL_law RL D cI cO tF A) (hX : va_X b L xs s s.heap) (hbl : b < s.heap.size) (hbA : ¬ A b) (X : XS) (M : MS) (hR : Rel X M) (x3 : Int32) (h0 : 0 ≤ x3.toInt) (h1 : x3.toInt + 6 ≤ L) (hL : L ≤ 3072) (kk : ∀ (X' : XS) (M' : MS), Rel X' M' → ∀ (H : Heap) (locs : List Loc), va_P D vwCl (wX ad cI cO X' ++ wM bd cI M') H → va_D A (wX ad cI cO X' ++ wM bd cI M') → va_S A s.heap H locs → ∀ ls : Array Slot, lv_has ls 4 [(0, .ref b), (1, .ref (ad 0)), (2, .ref (bd 0)), (3, .int x3)] → W p l e room_1 s m args below meth c H locs 600000 7302250 Q (F0 m 1270 ls [])) (H : Heap) (locs : List Loc) (hP : va_P D vwCl (wX ad cI cO X ++ wM bd cI M) H) (hD : va_D A (wX ad cI cO X ++ wM bd cI M)) (hS : va_S A s.heap H locs) (ls : Array Slot) (hl : lv_has ls 4 [(0, .ref b), (1, .ref (ad 0)), (2, .ref (bd 0)), (3, .int x3)]) : W p l e room_1 s m args below meth c H locs 600000 7302250 Q (F0 m 1035 ls []) := by
  obtain ⟨hx, hb, hret, hml, hts, hown, hlocks, hE, hA⟩ := id B
  refine lv_aload_n hx hb dL_law_1035 rfl (lv_at hl 1 rfl) ?_
  refine lv_aload_n hx hb dL_law_1036 rfl (lv_at hl 0 rfl) ?_
  refine lv_iload_n hx hb dL_law_1037 rfl (lv_at hl 3 rfl) ?_
  refine lv_iconst (v := (1 : Int32)) hx hb dL_law_1038 (by decide) ?_
  refine lv_iadd hx hb dL_law_1039 ?_
  refine va_sld hx hb hX hbl hbA hS (sc_in (1 : Int32) 1 h0 h1 hL rfl (by decide)) dL_law_1040 ?_
  refine lv_aload_n hx hb dL_law_1041 rfl (lv_at hl 0 rfl) ?_
  refine lv_iload_n hx hb dL_law_1042 rfl (lv_at hl 3 rfl) ?_
  refine lv_iconst (v := (2 : Int32)) hx hb dL_law_1043 (by decide) ?_
  refine lv_iadd hx hb dL_law_1044 ?_
  refine va_sld hx hb hX hbl hbA hS (sc_in (2 : Int32) 2 h0 h1 hL rfl (by decide)) dL_law_1045 ?_
  refine lv_aload_n hx hb dL_law_1046 rfl (lv_at hl 0 rfl) ?_
  refine lv_iload_n hx hb dL_law_1047 rfl (lv_at hl 3 rfl) ?_
  refine lv_iconst (v := (3 : Int32)) hx hb dL_law_1048 (by decide) ?_
  refine lv_iadd hx hb dL_law_1049 ?_
  refine va_sld hx hb hX hbl hbA hS (sc_in (3 : Int32) 3 h0 h1 hL rfl (by decide)) dL_law_1050 ?_
  refine kc_V (As := [.int (xs (x3 + (1 : Int32)).toNatClampNeg), .int (xs (x3 + (2 : Int32)).toNatClampNeg), .int (xs (x3 + (3 : Int32)).toNatClampNeg)]) (rest := []) B (c_X3_cell l D cI cO tF ad X (xs (x3 + (1 : Int32)).toNatClampNeg) (xs (x3 + (2 : Int32)).toNatClampNeg) (xs (x3 + (3 : Int32)).toNatClampNeg) ) (cwV 3 hts gL_law_X3_cell rfl rfl rfl (by decide +kernel) ⟨Nat.le_of_ble_eq_true rfl, Nat.le_of_ble_eq_true rfl⟩) hP hD hS [0, 1, 2, 3, 4, 5, 6, 7, 8, 9, 10, 11, 12, 13, 14, 15, 16, 17, 18, 19, 20, 21] wXM_subX (by decide) (w' := wX ad cI cO ((f_X3_cell X (xs (x3 + (1 : Int32)).toNatClampNeg) (xs (x3 + (2 : Int32)).toNatClampNeg) (xs (x3 + (3 : Int32)).toNatClampNeg)).2) ++ wM bd cI M) (wXM_setX _) (wX_fst _) 0 3 rfl rfl rfl rfl hl.1 rfl (Nat.le_of_ble_eq_true rfl) dL_law_1051 ⟨Nat.le_refl _, Nat.le_refl _⟩ (fun H locs hP hD hS => ?_)
  refine lv_aload_n hx hb dL_law_1054 rfl (lv_at hl 2 rfl) ?_
  refine lv_aload_n hx hb dL_law_1055 rfl (lv_at hl 0 rfl) ?_
  refine lv_iload_n hx hb dL_law_1056 rfl (lv_at hl 3 rfl) ?_
  refine lv_iconst (v := (1 : Int32)) hx hb dL_law_1057 (by decide) ?_
  refine lv_iadd hx hb dL_law_1058 ?_
  refine va_sld hx hb hX hbl hbA hS (sc_in (1 : Int32) 1 h0 h1 hL rfl (by decide)) dL_law_1059 ?_
  refine lv_aload_n hx hb dL_law_1060 rfl (lv_at hl 0 rfl) ?_
  refine lv_iload_n hx hb dL_law_1061 rfl (lv_at hl 3 rfl) ?_
  refine lv_iconst (v := (2 : Int32)) hx hb dL_law_1062 (by decide) ?_
  refine lv_iadd hx hb dL_law_1063 ?_
  refine va_sld hx hb hX hbl hbA hS (sc_in (2 : Int32) 2 h0 h1 hL rfl (by decide)) dL_law_1064 ?_
  refine lv_aload_n hx hb dL_law_1065 rfl (lv_at hl 0 rfl) ?_
  refine lv_iload_n hx hb dL_law_1066 rfl (lv_at hl 3 rfl) ?_
  refine lv_iconst (v := (3 : Int32)) hx hb dL_law_1067 (by decide) ?_
  refine lv_iadd hx hb dL_law_1068 ?_
  refine va_sld hx hb hX hbl hbA hS (sc_in (3 : Int32) 3 h0 h1 hL rfl (by decide)) dL_law_1069 ?_
  refine kc_V (As := [.int (xs (x3 + (1 : Int32)).toNatClampNeg), .int (xs (x3 + (2 : Int32)).toNatClampNeg), .int (xs (x3 + (3 : Int32)).toNatClampNeg)]) (rest := [.long ((f_X3_cell X (xs (x3 + (1 : Int32)).toNatClampNeg) (xs (x3 + (2 : Int32)).toNatClampNeg) (xs (x3 + (3 : Int32)).toNatClampNeg)).1)]) B (c_X4_cell l D cI cO tF bd M (xs (x3 + (1 : Int32)).toNatClampNeg) (xs (x3 + (2 : Int32)).toNatClampNeg) (xs (x3 + (3 : Int32)).toNatClampNeg) (hR.mL)) (cwV 3 hts gL_law_X4_cell rfl rfl rfl (by decide +kernel) ⟨Nat.le_of_ble_eq_true rfl, Nat.le_of_ble_eq_true rfl⟩) hP hD hS [22, 23, 24, 25, 26, 27, 28, 29, 30, 31, 32, 33, 34] wXM_subM (by decide) (w' := wX ad cI cO ((f_X3_cell X (xs (x3 + (1 : Int32)).toNatClampNeg) (xs (x3 + (2 : Int32)).toNatClampNeg) (xs (x3 + (3 : Int32)).toNatClampNeg)).2) ++ wM bd cI ((f_X4_cell M (xs (x3 + (1 : Int32)).toNatClampNeg) (xs (x3 + (2 : Int32)).toNatClampNeg) (xs (x3 + (3 : Int32)).toNatClampNeg)).2)) (wXM_setM _) (wM_fst _) 22 4 rfl rfl rfl rfl hl.1 rfl (Nat.le_of_ble_eq_true rfl) dL_law_1070 ⟨Nat.le_refl _, Nat.le_refl _⟩ (fun H locs hP hD hS => ?_)
  have hv := rel_cell hR (xs (x3 + (1 : Int32)).toNatClampNeg) (xs (x3 + (2 : Int32)).toNatClampNeg) (xs (x3 + (3 : Int32)).toNatClampNeg)
  refine W.lcmp hx hb dL_law_1073 ?_
  refine lv_if_eq (tgt := 1270) hx hb dL_law_1074 (by decide) (fun _ => ?_) (fun h => absurd (lg_eq hv.1) h)
  exact kk _ _ hv.2 _ _ hP hD hS ls hl
