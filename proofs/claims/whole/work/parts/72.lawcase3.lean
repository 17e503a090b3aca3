set_option maxHeartbeats 4000000 in
set_option maxRecDepth 100000 in
theorem law_c27 {p : Program} (l : Launch) {e : Env} {s : State} {m : MethodId} {below : List Frame} {meth : Method} {c : Code} (D : va_G) (cI cO : ClassId) (tF : Nat) (ad bd : Nat → Nat) {b L : Nat} {xs : Nat → Int32} {A : Nat → Prop} {Q : State → Prop} {args : Array Value} (B : Bx p s m args meth c cL_law 4 ret wsL_law RL D cI cO tF A) (hX : va_X b L xs s s.heap) (hbl : b < s.heap.size) (hbA : ¬ A b) (X : XS) (M : MS) (hR : Rel X M) (x3 : Int32) (h0 : 0 ≤ x3.toInt) (h1 : x3.toInt + 6 ≤ L) (hL : L ≤ 3072) (kk : ∀ (X' : XS) (M' : MS), Rel X' M' → ∀ (H : Heap) (locs : List Loc), va_P D vwCl (wX ad cI cO X' ++ wM bd cI M') H → va_D A (wX ad cI cO X' ++ wM bd cI M') → va_S A s.heap H locs → ∀ ls : Array Slot, lv_has ls 4 [(0, .ref b), (1, .ref (ad 0)), (2, .ref (bd 0)), (3, .int x3)] → W p l e room_1 s m args below meth c H locs 600000 7302250 Q (F0 m 1270 ls [])) (H : Heap) (locs : List Loc) (hP : va_P D vwCl (wX ad cI cO X ++ wM bd cI M) H) (hD : va_D A (wX ad cI cO X ++ wM bd cI M)) (hS : va_S A s.heap H locs) (ls : Array Slot) (hl : lv_has ls 4 [(0, .ref b), (1, .ref (ad 0)), (2, .ref (bd 0)), (3, .int x3)]) : W p l e room_1 s m args below meth c H locs 600000 7302250 Q (F0 m 1079 ls []) := by
  obtain ⟨hx, hb, hret, hml, hts, hown, hlocks, hE, hA⟩ := id B
  refine lv_aload_n hx hb dL_law_1079 rfl (lv_at hl 1 rfl) ?_
  refine lv_aload_n hx hb dL_law_1080 rfl (lv_at hl 0 rfl) ?_
  refine lv_iload_n hx hb dL_law_1081 rfl (lv_at hl 3 rfl) ?_
  refine lv_iconst (v := (1 : Int32)) hx hb dL_law_1082 (by decide) ?_
  refine lv_iadd hx hb dL_law_1083 ?_
  refine va_sld hx hb hX hbl hbA hS (sc_in (1 : Int32) 1 h0 h1 hL rfl (by decide)) dL_law_1084 ?_
  refine lv_aload_n hx hb dL_law_1085 rfl (lv_at hl 0 rfl) ?_
  refine lv_iload_n hx hb dL_law_1086 rfl (lv_at hl 3 rfl) ?_
  refine lv_iconst (v := (2 : Int32)) hx hb dL_law_1087 (by decide) ?_
  refine lv_iadd hx hb dL_law_1088 ?_
  refine va_sld hx hb hX hbl hbA hS (sc_in (2 : Int32) 2 h0 h1 hL rfl (by decide)) dL_law_1089 ?_
  refine lv_aload_n hx hb dL_law_1090 rfl (lv_at hl 0 rfl) ?_
  refine lv_iload_n hx hb dL_law_1091 rfl (lv_at hl 3 rfl) ?_
  refine lv_iconst (v := (3 : Int32)) hx hb dL_law_1092 (by decide) ?_
  refine lv_iadd hx hb dL_law_1093 ?_
  refine va_sld hx hb hX hbl hbA hS (sc_in (3 : Int32) 3 h0 h1 hL rfl (by decide)) dL_law_1094 ?_
  refine lv_aload_n hx hb dL_law_1095 rfl (lv_at hl 0 rfl) ?_
  refine lv_iload_n hx hb dL_law_1096 rfl (lv_at hl 3 rfl) ?_
  refine lv_iconst (v := (4 : Int32)) hx hb dL_law_1097 (by decide) ?_
  refine lv_iadd hx hb dL_law_1098 ?_
  refine va_sld hx hb hX hbl hbA hS (sc_in (4 : Int32) 4 h0 h1 hL rfl (by decide)) dL_law_1099 ?_
  refine lv_aload_n hx hb dL_law_1100 rfl (lv_at hl 0 rfl) ?_
  refine lv_iload_n hx hb dL_law_1101 rfl (lv_at hl 3 rfl) ?_
  refine lv_iconst (v := (5 : Int32)) hx hb dL_law_1102 (by decide) ?_
  refine lv_iadd hx hb dL_law_1103 ?_
  refine va_sld hx hb hX hbl hbA hS (sc_in (5 : Int32) 5 h0 h1 hL rfl (by decide)) dL_law_1104 ?_
  refine kc_V (As := [.int (xs (x3 + (1 : Int32)).toNatClampNeg), .int (xs (x3 + (2 : Int32)).toNatClampNeg), .int (xs (x3 + (3 : Int32)).toNatClampNeg), .int (xs (x3 + (4 : Int32)).toNatClampNeg), .int (xs (x3 + (5 : Int32)).toNatClampNeg)]) (rest := []) B (c_X3_copy l D cI cO tF ad X (xs (x3 + (1 : Int32)).toNatClampNeg) (xs (x3 + (2 : Int32)).toNatClampNeg) (xs (x3 + (3 : Int32)).toNatClampNeg) (xs (x3 + (4 : Int32)).toNatClampNeg) (xs (x3 + (5 : Int32)).toNatClampNeg) (hR.xL)) (cwV 5 hts gL_law_X3_copy rfl rfl rfl (by decide +kernel) ⟨Nat.le_of_ble_eq_true rfl, Nat.le_of_ble_eq_true rfl⟩) hP hD hS [0, 1, 2, 3, 4, 5, 6, 7, 8, 9, 10, 11, 12, 13, 14, 15, 16, 17, 18, 19, 20, 21] wXM_subX (by decide) (w' := wX ad cI cO ((f_X3_copy X (xs (x3 + (1 : Int32)).toNatClampNeg) (xs (x3 + (2 : Int32)).toNatClampNeg) (xs (x3 + (3 : Int32)).toNatClampNeg) (xs (x3 + (4 : Int32)).toNatClampNeg) (xs (x3 + (5 : Int32)).toNatClampNeg)).2) ++ wM bd cI M) (wXM_setX _) (wX_fst _) 0 3 rfl rfl rfl rfl hl.1 rfl (Nat.le_of_ble_eq_true rfl) dL_law_1105 ⟨Nat.le_refl _, Nat.le_refl _⟩ (fun H locs hP hD hS => ?_)
  refine lv_aload_n hx hb dL_law_1108 rfl (lv_at hl 2 rfl) ?_
  refine lv_aload_n hx hb dL_law_1109 rfl (lv_at hl 0 rfl) ?_
  refine lv_iload_n hx hb dL_law_1110 rfl (lv_at hl 3 rfl) ?_
  refine lv_iconst (v := (1 : Int32)) hx hb dL_law_1111 (by decide) ?_
  refine lv_iadd hx hb dL_law_1112 ?_
  refine va_sld hx hb hX hbl hbA hS (sc_in (1 : Int32) 1 h0 h1 hL rfl (by decide)) dL_law_1113 ?_
  refine lv_aload_n hx hb dL_law_1114 rfl (lv_at hl 0 rfl) ?_
  refine lv_iload_n hx hb dL_law_1115 rfl (lv_at hl 3 rfl) ?_
  refine lv_iconst (v := (2 : Int32)) hx hb dL_law_1116 (by decide) ?_
  refine lv_iadd hx hb dL_law_1117 ?_
  refine va_sld hx hb hX hbl hbA hS (sc_in (2 : Int32) 2 h0 h1 hL rfl (by decide)) dL_law_1118 ?_
  refine lv_aload_n hx hb dL_law_1119 rfl (lv_at hl 0 rfl) ?_
  refine lv_iload_n hx hb dL_law_1120 rfl (lv_at hl 3 rfl) ?_
  refine lv_iconst (v := (3 : Int32)) hx hb dL_law_1121 (by decide) ?_
  refine lv_iadd hx hb dL_law_1122 ?_
  refine va_sld hx hb hX hbl hbA hS (sc_in (3 : Int32) 3 h0 h1 hL rfl (by decide)) dL_law_1123 ?_
  refine lv_aload_n hx hb dL_law_1124 rfl (lv_at hl 0 rfl) ?_
  refine lv_iload_n hx hb dL_law_1125 rfl (lv_at hl 3 rfl) ?_
  refine lv_iconst (v := (4 : Int32)) hx hb dL_law_1126 (by decide) ?_
  refine lv_iadd hx hb dL_law_1127 ?_
  refine va_sld hx hb hX hbl hbA hS (sc_in (4 : Int32) 4 h0 h1 hL rfl (by decide)) dL_law_1128 ?_
  refine lv_aload_n hx hb dL_law_1129 rfl (lv_at hl 0 rfl) ?_
  refine lv_iload_n hx hb dL_law_1130 rfl (lv_at hl 3 rfl) ?_
  refine lv_iconst (v := (5 : Int32)) hx hb dL_law_1131 (by decide) ?_
  refine lv_iadd hx hb dL_law_1132 ?_
  refine va_sld hx hb hX hbl hbA hS (sc_in (5 : Int32) 5 h0 h1 hL rfl (by decide)) dL_law_1133 ?_
  refine kc_V (As := [.int (xs (x3 + (1 : Int32)).toNatClampNeg), .int (xs (x3 + (2 : Int32)).toNatClampNeg), .int (xs (x3 + (3 : Int32)).toNatClampNeg), .int (xs (x3 + (4 : Int32)).toNatClampNeg), .int (xs (x3 + (5 : Int32)).toNatClampNeg)]) (rest := [.int ((f_X3_copy X (xs (x3 + (1 : Int32)).toNatClampNeg) (xs (x3 + (2 : Int32)).toNatClampNeg) (xs (x3 + (3 : Int32)).toNatClampNeg) (xs (x3 + (4 : Int32)).toNatClampNeg) (xs (x3 + (5 : Int32)).toNatClampNeg)).1)]) B (c_X4_copy l D cI cO tF bd M (xs (x3 + (1 : Int32)).toNatClampNeg) (xs (x3 + (2 : Int32)).toNatClampNeg) (xs (x3 + (3 : Int32)).toNatClampNeg) (xs (x3 + (4 : Int32)).toNatClampNeg) (xs (x3 + (5 : Int32)).toNatClampNeg) (hR.mL)) (cwV 5 hts gL_law_X4_copy rfl rfl rfl (by decide +kernel) ⟨Nat.le_of_ble_eq_true rfl, Nat.le_of_ble_eq_true rfl⟩) hP hD hS [22, 23, 24, 25, 26, 27, 28, 29, 30, 31, 32, 33, 34] wXM_subM (by decide) (w' := wX ad cI cO ((f_X3_copy X (xs (x3 + (1 : Int32)).toNatClampNeg) (xs (x3 + (2 : Int32)).toNatClampNeg) (xs (x3 + (3 : Int32)).toNatClampNeg) (xs (x3 + (4 : Int32)).toNatClampNeg) (xs (x3 + (5 : Int32)).toNatClampNeg)).2) ++ wM bd cI ((f_X4_copy M (xs (x3 + (1 : Int32)).toNatClampNeg) (xs (x3 + (2 : Int32)).toNatClampNeg) (xs (x3 + (3 : Int32)).toNatClampNeg) (xs (x3 + (4 : Int32)).toNatClampNeg) (xs (x3 + (5 : Int32)).toNatClampNeg)).2)) (wXM_setM _) (wM_fst _) 22 4 rfl rfl rfl rfl hl.1 rfl (Nat.le_of_ble_eq_true rfl) dL_law_1134 ⟨Nat.le_refl _, Nat.le_refl _⟩ (fun H locs hP hD hS => ?_)
  have hv := rel_copy hR (xs (x3 + (1 : Int32)).toNatClampNeg) (xs (x3 + (2 : Int32)).toNatClampNeg) (xs (x3 + (3 : Int32)).toNatClampNeg) (xs (x3 + (4 : Int32)).toNatClampNeg) (xs (x3 + (5 : Int32)).toNatClampNeg)
  refine lv_icmp_eq (tgt := 1270) hx hb dL_law_1137 (by decide) (fun _ => ?_) (fun h => absurd hv.1 h)
  exact kk _ _ hv.2 _ _ hP hD hS ls hl
set_option maxHeartbeats 4000000 in
set_option maxRecDepth 100000 in
theorem law_c28 {p : Program} (l : Launch) {e : Env} {s : State} {m : MethodId} {below : List Frame} {meth : Method} {c : Code} (D : va_G) (cI cO : ClassId) (tF : Nat) (ad bd : Nat → Nat) {b L : Nat} {xs : Nat → Int32} {A : Nat → Prop} {Q : State → Prop} {args : Array Value} (B : Bx p s m args meth c cL_law 4 ret wsL_law RL D cI cO tF A) (hX : va_X b L xs s s.heap) (hbl : b < s.heap.size) (hbA : ¬ A b) (X : XS) (M : MS) (hR : Rel X M) (x3 : Int32) (h0 : 0 ≤ x3.toInt) (h1 : x3.toInt + 6 ≤ L) (hL : L ≤ 3072) (kk : ∀ (X' : XS) (M' : MS), Rel X' M' → ∀ (H : Heap) (locs : List Loc), va_P D vwCl (wX ad cI cO X' ++ wM bd cI M') H → va_D A (wX ad cI cO X' ++ wM bd cI M') → va_S A s.heap H locs → ∀ ls : Array Slot, lv_has ls 4 [(0, .ref b), (1, .ref (ad 0)), (2, .ref (bd 0)), (3, .int x3)] → W p l e room_1 s m args below meth c H locs 600000 7302250 Q (F0 m 1270 ls [])) (H : Heap) (locs : List Loc) (hP : va_P D vwCl (wX ad cI cO X ++ wM bd cI M) H) (hD : va_D A (wX ad cI cO X ++ wM bd cI M)) (hS : va_S A s.heap H locs) (ls : Array Slot) (hl : lv_has ls 4 [(0, .ref b), (1, .ref (ad 0)), (2, .ref (bd 0)), (3, .int x3)]) : W p l e room_1 s m args below meth c H locs 600000 7302250 Q (F0 m 1142 ls []) := by
  obtain ⟨hx, hb, hret, hml, hts, hown, hlocks, hE, hA⟩ := id B
  refine lv_aload_n hx hb dL_law_1142 rfl (lv_at hl 1 rfl) ?_
  refine lv_aload_n hx hb dL_law_1143 rfl (lv_at hl 0 rfl) ?_
  refine lv_iload_n hx hb dL_law_1144 rfl (lv_at hl 3 rfl) ?_
  refine lv_iconst (v := (1 : Int32)) hx hb dL_law_1145 (by decide) ?_
  refine lv_iadd hx hb dL_law_1146 ?_
  refine va_sld hx hb hX hbl hbA hS (sc_in (1 : Int32) 1 h0 h1 hL rfl (by decide)) dL_law_1147 ?_
  refine kc_V (As := [.int (xs (x3 + (1 : Int32)).toNatClampNeg)]) (rest := []) B (c_X3_tell l D cI cO tF ad X (xs (x3 + (1 : Int32)).toNatClampNeg) (hR.xn)) (cwV 1 hts gL_law_X3_tell rfl rfl rfl (by decide +kernel) ⟨Nat.le_of_ble_eq_true rfl, Nat.le_of_ble_eq_true rfl⟩) hP hD hS [0, 1, 2, 3, 4, 5, 6, 7, 8, 9, 10, 11, 12, 13, 14, 15, 16, 17, 18, 19, 20, 21] wXM_subX (by decide) (w' := wX ad cI cO ((f_X3_tell X (xs (x3 + (1 : Int32)).toNatClampNeg)).2) ++ wM bd cI M) (wXM_setX _) (wX_fst _) 0 3 rfl rfl rfl rfl hl.1 rfl (Nat.le_of_ble_eq_true rfl) dL_law_1148 ⟨Nat.le_refl _, Nat.le_refl _⟩ (fun H locs hP hD hS => ?_)
  refine lv_aload_n hx hb dL_law_1151 rfl (lv_at hl 2 rfl) ?_
  refine lv_aload_n hx hb dL_law_1152 rfl (lv_at hl 0 rfl) ?_
  refine lv_iload_n hx hb dL_law_1153 rfl (lv_at hl 3 rfl) ?_
  refine lv_iconst (v := (1 : Int32)) hx hb dL_law_1154 (by decide) ?_
  refine lv_iadd hx hb dL_law_1155 ?_
  refine va_sld hx hb hX hbl hbA hS (sc_in (1 : Int32) 1 h0 h1 hL rfl (by decide)) dL_law_1156 ?_
  refine kc_V (As := [.int (xs (x3 + (1 : Int32)).toNatClampNeg)]) (rest := [.int ((f_X3_tell X (xs (x3 + (1 : Int32)).toNatClampNeg)).1)]) B (c_X4_tell l D cI cO tF bd M (xs (x3 + (1 : Int32)).toNatClampNeg) (hR.mn)) (cwV 1 hts gL_law_X4_tell rfl rfl rfl (by decide +kernel) ⟨Nat.le_of_ble_eq_true rfl, Nat.le_of_ble_eq_true rfl⟩) hP hD hS [22, 23, 24, 25, 26, 27, 28, 29, 30, 31, 32, 33, 34] wXM_subM (by decide) (w' := wX ad cI cO ((f_X3_tell X (xs (x3 + (1 : Int32)).toNatClampNeg)).2) ++ wM bd cI ((f_X4_tell M (xs (x3 + (1 : Int32)).toNatClampNeg)).2)) (wXM_setM _) (wM_fst _) 22 4 rfl rfl rfl rfl hl.1 rfl (Nat.le_of_ble_eq_true rfl) dL_law_1157 ⟨Nat.le_refl _, Nat.le_refl _⟩ (fun H locs hP hD hS => ?_)
  have hv := rel_tell hR (xs (x3 + (1 : Int32)).toNatClampNeg)
  refine lv_icmp_eq (tgt := 1270) hx hb dL_law_1160 (by decide) (fun _ => ?_) (fun h => absurd hv.1 h)
  exact kk _ _ hv.2 _ _ hP hD hS ls hl
set_option maxHeartbeats 4000000 in
set_option maxRecDepth 100000 in
theorem law_c29 {p : Program} (l : Launch) {e : Env} {s : State} {m : MethodId} {below : List Frame} {meth : Method} {c : Code} (D : va_G) (cI cO : ClassId) (tF : Nat) (ad bd : Nat → Nat) {b L : Nat} {xs : Nat → Int32} {A : Nat → Prop} {Q : State → Prop} {args : Array Value} (B : Bx p s m args meth c cL_law 4 ret wsL_law RL D cI cO tF A) (hX : va_X b L xs s s.heap) (hbl : b < s.heap.size) (hbA : ¬ A b) (X : XS) (M : MS) (hR : Rel X M) (x3 : Int32) (h0 : 0 ≤ x3.toInt) (h1 : x3.toInt + 6 ≤ L) (hL : L ≤ 3072) (kk : ∀ (X' : XS) (M' : MS), Rel X' M' → ∀ (H : Heap) (locs : List Loc), va_P D vwCl (wX ad cI cO X' ++ wM bd cI M') H → va_D A (wX ad cI cO X' ++ wM bd cI M') → va_S A s.heap H locs → ∀ ls : Array Slot, lv_has ls 4 [(0, .ref b), (1, .ref (ad 0)), (2, .ref (bd 0)), (3, .int x3)] → W p l e room_1 s m args below meth c H locs 600000 7302250 Q (F0 m 1270 ls [])) (H : Heap) (locs : List Loc) (hP : va_P D vwCl (wX ad cI cO X ++ wM bd cI M) H) (hD : va_D A (wX ad cI cO X ++ wM bd cI M)) (hS : va_S A s.heap H locs) (ls : Array Slot) (hl : lv_has ls 4 [(0, .ref b), (1, .ref (ad 0)), (2, .ref (bd 0)), (3, .int x3)]) : W p l e room_1 s m args below meth c H locs 600000 7302250 Q (F0 m 1165 ls []) := by
  obtain ⟨hx, hb, hret, hml, hts, hown, hlocks, hE, hA⟩ := id B
  refine lv_aload_n hx hb dL_law_1165 rfl (lv_at hl 1 rfl) ?_
  refine lv_aload_n hx hb dL_law_1166 rfl (lv_at hl 0 rfl) ?_
  refine lv_iload_n hx hb dL_law_1167 rfl (lv_at hl 3 rfl) ?_
  refine lv_iconst (v := (1 : Int32)) hx hb dL_law_1168 (by decide) ?_
  refine lv_iadd hx hb dL_law_1169 ?_
  refine va_sld hx hb hX hbl hbA hS (sc_in (1 : Int32) 1 h0 h1 hL rfl (by decide)) dL_law_1170 ?_
  refine kc_V (As := [.int (xs (x3 + (1 : Int32)).toNatClampNeg)]) (rest := []) B (c_X3_call l D cI cO tF ad X (xs (x3 + (1 : Int32)).toNatClampNeg) (hR.xn)) (cwV 1 hts gL_law_X3_call rfl rfl rfl (by decide +kernel) ⟨Nat.le_of_ble_eq_true rfl, Nat.le_of_ble_eq_true rfl⟩) hP hD hS [0, 1, 2, 3, 4, 5, 6, 7, 8, 9, 10, 11, 12, 13, 14, 15, 16, 17, 18, 19, 20, 21] wXM_subX (by decide) (w' := wX ad cI cO ((f_X3_call X (xs (x3 + (1 : Int32)).toNatClampNeg)).2) ++ wM bd cI M) (wXM_setX _) (wX_fst _) 0 3 rfl rfl rfl rfl hl.1 rfl (Nat.le_of_ble_eq_true rfl) dL_law_1171 ⟨Nat.le_refl _, Nat.le_refl _⟩ (fun H locs hP hD hS => ?_)
  refine lv_aload_n hx hb dL_law_1174 rfl (lv_at hl 2 rfl) ?_
  refine lv_aload_n hx hb dL_law_1175 rfl (lv_at hl 0 rfl) ?_
  refine lv_iload_n hx hb dL_law_1176 rfl (lv_at hl 3 rfl) ?_
  refine lv_iconst (v := (1 : Int32)) hx hb dL_law_1177 (by decide) ?_
  refine lv_iadd hx hb dL_law_1178 ?_
  refine va_sld hx hb hX hbl hbA hS (sc_in (1 : Int32) 1 h0 h1 hL rfl (by decide)) dL_law_1179 ?_
  refine kc_V (As := [.int (xs (x3 + (1 : Int32)).toNatClampNeg)]) (rest := [.int ((f_X3_call X (xs (x3 + (1 : Int32)).toNatClampNeg)).1)]) B (c_X4_call l D cI cO tF bd M (xs (x3 + (1 : Int32)).toNatClampNeg) (hR.mn)) (cwV 1 hts gL_law_X4_call rfl rfl rfl (by decide +kernel) ⟨Nat.le_of_ble_eq_true rfl, Nat.le_of_ble_eq_true rfl⟩) hP hD hS [22, 23, 24, 25, 26, 27, 28, 29, 30, 31, 32, 33, 34] wXM_subM (by decide) (w' := wX ad cI cO ((f_X3_call X (xs (x3 + (1 : Int32)).toNatClampNeg)).2) ++ wM bd cI ((f_X4_call M (xs (x3 + (1 : Int32)).toNatClampNeg)).2)) (wXM_setM _) (wM_fst _) 22 4 rfl rfl rfl rfl hl.1 rfl (Nat.le_of_ble_eq_true rfl) dL_law_1180 ⟨Nat.le_refl _, Nat.le_refl _⟩ (fun H locs hP hD hS => ?_)
  have hv := rel_call hR (xs (x3 + (1 : Int32)).toNatClampNeg)
  refine lv_icmp_eq (tgt := 1270) hx hb dL_law_1183 (by decide) (fun _ => ?_) (fun h => absurd hv.1 h)
  exact kk _ _ hv.2 _ _ hP hD hS ls hl
set_option maxHeartbeats 4000000 in
set_option maxRecDepth 100000 in
theorem law_c30 {p : Program} (l : Launch) {e : Env} {s : State} {m : MethodId} {below : List Frame} {meth : Method} {c : Code} (D : va_G) (cI cO : ClassId) (tF : Nat) (ad bd : Nat → Nat) {b L : Nat} {xs : Nat → Int32} {A : Nat → Prop} {Q : State → Prop} {args : Array Value} (B : Bx p s m args meth c cL_law 4 ret wsL_law RL D cI cO tF A) (hX : va_X b L xs s s.heap) (hbl : b < s.heap.size) (hbA : ¬ A b) (X : XS) (M : MS) (hR : Rel X M) (x3 : Int32) (h0 : 0 ≤ x3.toInt) (h1 : x3.toInt + 6 ≤ L) (hL : L ≤ 3072) (kk : ∀ (X' : XS) (M' : MS), Rel X' M' → ∀ (H : Heap) (locs : List Loc), va_P D vwCl (wX ad cI cO X' ++ wM bd cI M') H → va_D A (wX ad cI cO X' ++ wM bd cI M') → va_S A s.heap H locs → ∀ ls : Array Slot, lv_has ls 4 [(0, .ref b), (1, .ref (ad 0)), (2, .ref (bd 0)), (3, .int x3)] → W p l e room_1 s m args below meth c H locs 600000 7302250 Q (F0 m 1270 ls [])) (H : Heap) (locs : List Loc) (hP : va_P D vwCl (wX ad cI cO X ++ wM bd cI M) H) (hD : va_D A (wX ad cI cO X ++ wM bd cI M)) (hS : va_S A s.heap H locs) (ls : Array Slot) (hl : lv_has ls 4 [(0, .ref b), (1, .ref (ad 0)), (2, .ref (bd 0)), (3, .int x3)]) : W p l e room_1 s m args below meth c H locs 600000 7302250 Q (F0 m 1188 ls []) := by
  obtain ⟨hx, hb, hret, hml, hts, hown, hlocks, hE, hA⟩ := id B
  refine lv_aload_n hx hb dL_law_1188 rfl (lv_at hl 1 rfl) ?_
  refine lv_aload_n hx hb dL_law_1189 rfl (lv_at hl 0 rfl) ?_
  refine lv_iload_n hx hb dL_law_1190 rfl (lv_at hl 3 rfl) ?_
  refine lv_iconst (v := (1 : Int32)) hx hb dL_law_1191 (by decide) ?_
  refine lv_iadd hx hb dL_law_1192 ?_
  refine va_sld hx hb hX hbl hbA hS (sc_in (1 : Int32) 1 h0 h1 hL rfl (by decide)) dL_law_1193 ?_
  refine lv_aload_n hx hb dL_law_1194 rfl (lv_at hl 0 rfl) ?_
  refine lv_iload_n hx hb dL_law_1195 rfl (lv_at hl 3 rfl) ?_
  refine lv_iconst (v := (2 : Int32)) hx hb dL_law_1196 (by decide) ?_
  refine lv_iadd hx hb dL_law_1197 ?_
  refine va_sld hx hb hX hbl hbA hS (sc_in (2 : Int32) 2 h0 h1 hL rfl (by decide)) dL_law_1198 ?_
  refine kc_V (As := [.int (xs (x3 + (1 : Int32)).toNatClampNeg), .int (xs (x3 + (2 : Int32)).toNatClampNeg)]) (rest := []) B (c_X3_as l D cI cO tF ad X (xs (x3 + (1 : Int32)).toNatClampNeg) (xs (x3 + (2 : Int32)).toNatClampNeg) (hR.xn)) (cwV 2 hts gL_law_X3_as rfl rfl rfl (by decide +kernel) ⟨Nat.le_of_ble_eq_true rfl, Nat.le_of_ble_eq_true rfl⟩) hP hD hS [0, 1, 2, 3, 4, 5, 6, 7, 8, 9, 10, 11, 12, 13, 14, 15, 16, 17, 18, 19, 20, 21] wXM_subX (by decide) (w' := wX ad cI cO ((f_X3_as X (xs (x3 + (1 : Int32)).toNatClampNeg) (xs (x3 + (2 : Int32)).toNatClampNeg)).2) ++ wM bd cI M) (wXM_setX _) (wX_fst _) 0 3 rfl rfl rfl rfl hl.1 rfl (Nat.le_of_ble_eq_true rfl) dL_law_1199 ⟨Nat.le_refl _, Nat.le_refl _⟩ (fun H locs hP hD hS => ?_)
  refine lv_aload_n hx hb dL_law_1202 rfl (lv_at hl 2 rfl) ?_
  refine lv_aload_n hx hb dL_law_1203 rfl (lv_at hl 0 rfl) ?_
  refine lv_iload_n hx hb dL_law_1204 rfl (lv_at hl 3 rfl) ?_
  refine lv_iconst (v := (1 : Int32)) hx hb dL_law_1205 (by decide) ?_
  refine lv_iadd hx hb dL_law_1206 ?_
  refine va_sld hx hb hX hbl hbA hS (sc_in (1 : Int32) 1 h0 h1 hL rfl (by decide)) dL_law_1207 ?_
  refine lv_aload_n hx hb dL_law_1208 rfl (lv_at hl 0 rfl) ?_
  refine lv_iload_n hx hb dL_law_1209 rfl (lv_at hl 3 rfl) ?_
  refine lv_iconst (v := (2 : Int32)) hx hb dL_law_1210 (by decide) ?_
  refine lv_iadd hx hb dL_law_1211 ?_
  refine va_sld hx hb hX hbl hbA hS (sc_in (2 : Int32) 2 h0 h1 hL rfl (by decide)) dL_law_1212 ?_
  refine kc_V (As := [.int (xs (x3 + (1 : Int32)).toNatClampNeg), .int (xs (x3 + (2 : Int32)).toNatClampNeg)]) (rest := [.int ((f_X3_as X (xs (x3 + (1 : Int32)).toNatClampNeg) (xs (x3 + (2 : Int32)).toNatClampNeg)).1)]) B (c_X4_as l D cI cO tF bd M (xs (x3 + (1 : Int32)).toNatClampNeg) (xs (x3 + (2 : Int32)).toNatClampNeg) (hR.mn)) (cwV 2 hts gL_law_X4_as rfl rfl rfl (by decide +kernel) ⟨Nat.le_of_ble_eq_true rfl, Nat.le_of_ble_eq_true rfl⟩) hP hD hS [22, 23, 24, 25, 26, 27, 28, 29, 30, 31, 32, 33, 34] wXM_subM (by decide) (w' := wX ad cI cO ((f_X3_as X (xs (x3 + (1 : Int32)).toNatClampNeg) (xs (x3 + (2 : Int32)).toNatClampNeg)).2) ++ wM bd cI ((f_X4_as M (xs (x3 + (1 : Int32)).toNatClampNeg) (xs (x3 + (2 : Int32)).toNatClampNeg)).2)) (wXM_setM _) (wM_fst _) 22 4 rfl rfl rfl rfl hl.1 rfl (Nat.le_of_ble_eq_true rfl) dL_law_1213 ⟨Nat.le_refl _, Nat.le_refl _⟩ (fun H locs hP hD hS => ?_)
  have hv := rel_as hR (xs (x3 + (1 : Int32)).toNatClampNeg) (xs (x3 + (2 : Int32)).toNatClampNeg)
  refine lv_icmp_eq (tgt := 1270) hx hb dL_law_1216 (by decide) (fun _ => ?_) (fun h => absurd hv.1 h)
  exact kk _ _ hv.2 _ _ hP hD hS ls hl
set_option maxHeartbeats 4000000 in
set_option maxRecDepth 100000 in
theorem law_c31 {p : Program} (l : Launch) {e : Env} {s : State} {m : MethodId} {below : List Frame} {meth : Method} {c : Code} (D : va_G) (cI cO : ClassId) (tF : Nat) (ad bd : Nat → Nat) {b L : Nat} {xs : Nat → Int32} {A : Nat → Prop} {Q : State → Prop} {args : Array Value} (B : Bx p s m args meth c cL_law 4 ret wsL_law RL D cI cO tF A) (hX : va_X b L xs s s.heap) (hbl : b < s.heap.size) (hbA : ¬ A b) (X : XS) (M : MS) (hR : Rel X M) (x3 : Int32) (h0 : 0 ≤ x3.toInt) (h1 : x3.toInt + 6 ≤ L) (hL : L ≤ 3072) (kk : ∀ (X' : XS) (M' : MS), Rel X' M' → ∀ (H : Heap) (locs : List Loc), va_P D vwCl (wX ad cI cO X' ++ wM bd cI M') H → va_D A (wX ad cI cO X' ++ wM bd cI M') → va_S A s.heap H locs → ∀ ls : Array Slot, lv_has ls 4 [(0, .ref b), (1, .ref (ad 0)), (2, .ref (bd 0)), (3, .int x3)] → W p l e room_1 s m args below meth c H locs 600000 7302250 Q (F0 m 1270 ls [])) (H : Heap) (locs : List Loc) (hP : va_P D vwCl (wX ad cI cO X ++ wM bd cI M) H) (hD : va_D A (wX ad cI cO X ++ wM bd cI M)) (hS : va_S A s.heap H locs) (ls : Array Slot) (hl : lv_has ls 4 [(0, .ref b), (1, .ref (ad 0)), (2, .ref (bd 0)), (3, .int x3)]) : W p l e room_1 s m args below meth c H locs 600000 7302250 Q (F0 m 1221 ls []) := by
  obtain ⟨hx, hb, hret, hml, hts, hown, hlocks, hE, hA⟩ := id B
  refine lv_aload_n hx hb dL_law_1221 rfl (lv_at hl 1 rfl) ?_
  refine kc_V (As := []) (rest := []) B (c_X3_trace l D cI cO tF ad X  ) (cwV 0 hts gL_law_X3_trace rfl rfl rfl (by decide +kernel) ⟨Nat.le_of_ble_eq_true rfl, Nat.le_of_ble_eq_true rfl⟩) hP hD hS [0, 1, 2, 3, 4, 5, 6, 7, 8, 9, 10, 11, 12, 13, 14, 15, 16, 17, 18, 19, 20, 21] wXM_subX (by decide) (w' := wX ad cI cO X ++ wM bd cI M) (wXM_setX _) (wX_fst _) 0 3 rfl rfl rfl rfl hl.1 rfl (Nat.le_of_ble_eq_true rfl) dL_law_1222 ⟨Nat.le_refl _, Nat.le_refl _⟩ (fun H locs hP hD hS => ?_)
  refine lv_aload_n hx hb dL_law_1225 rfl (lv_at hl 2 rfl) ?_
  refine kc_V (As := []) (rest := [.int (f_X3_trace X)]) B (c_X4_trace l D cI cO tF bd M  ) (cwV 0 hts gL_law_X4_trace rfl rfl rfl (by decide +kernel) ⟨Nat.le_of_ble_eq_true rfl, Nat.le_of_ble_eq_true rfl⟩) hP hD hS [22, 23, 24, 25, 26, 27, 28, 29, 30, 31, 32, 33, 34] wXM_subM (by decide) (w' := wX ad cI cO X ++ wM bd cI M) (wXM_setM _) (wM_fst _) 22 4 rfl rfl rfl rfl hl.1 rfl (Nat.le_of_ble_eq_true rfl) dL_law_1226 ⟨Nat.le_refl _, Nat.le_refl _⟩ (fun H locs hP hD hS => ?_)
  have hv := rel_trace hR 
  refine lv_icmp_eq (tgt := 1270) hx hb dL_law_1229 (by decide) (fun _ => ?_) (fun h => absurd hv h)
  exact kk _ _ hR _ _ hP hD hS ls hl
set_option maxHeartbeats 4000000 in
set_option maxRecDepth 100000 in
theorem law_c32 {p : Program} (l : Launch) {e : Env} {s : State} {m : MethodId} {below : List Frame} {meth : Method} {c : Code} (D : va_G) (cI cO : ClassId) (tF : Nat) (ad bd : Nat → Nat) {b L : Nat} {xs : Nat → Int32} {A : Nat → Prop} {Q : State → Prop} {args : Array Value} (B : Bx p s m args meth c cL_law 4 ret wsL_law RL D cI cO tF A) (hX : va_X b L xs s s.heap) (hbl : b < s.heap.size) (hbA : ¬ A b) (X : XS) (M : MS) (hR : Rel X M) (x3 : Int32) (h0 : 0 ≤ x3.toInt) (h1 : x3.toInt + 6 ≤ L) (hL : L ≤ 3072) (kk : ∀ (X' : XS) (M' : MS), Rel X' M' → ∀ (H : Heap) (locs : List Loc), va_P D vwCl (wX ad cI cO X' ++ wM bd cI M') H → va_D A (wX ad cI cO X' ++ wM bd cI M') → va_S A s.heap H locs → ∀ ls : Array Slot, lv_has ls 4 [(0, .ref b), (1, .ref (ad 0)), (2, .ref (bd 0)), (3, .int x3)] → W p l e room_1 s m args below meth c H locs 600000 7302250 Q (F0 m 1270 ls [])) (H : Heap) (locs : List Loc) (hP : va_P D vwCl (wX ad cI cO X ++ wM bd cI M) H) (hD : va_D A (wX ad cI cO X ++ wM bd cI M)) (hS : va_S A s.heap H locs) (ls : Array Slot) (hl : lv_has ls 4 [(0, .ref b), (1, .ref (ad 0)), (2, .ref (bd 0)), (3, .int x3)]) : W p l e room_1 s m args below meth c H locs 600000 7302250 Q (F0 m 1234 ls []) := by
  obtain ⟨hx, hb, hret, hml, hts, hown, hlocks, hE, hA⟩ := id B
  refine lv_aload_n hx hb dL_law_1234 rfl (lv_at hl 1 rfl) ?_
  refine kc_V (As := []) (rest := []) B (c_X3_fault l D cI cO tF ad X  ) (cwV 0 hts gL_law_X3_fault rfl rfl rfl (by decide +kernel) ⟨Nat.le_of_ble_eq_true rfl, Nat.le_of_ble_eq_true rfl⟩) hP hD hS [0, 1, 2, 3, 4, 5, 6, 7, 8, 9, 10, 11, 12, 13, 14, 15, 16, 17, 18, 19, 20, 21] wXM_subX (by decide) (w' := wX ad cI cO X ++ wM bd cI M) (wXM_setX _) (wX_fst _) 0 3 rfl rfl rfl rfl hl.1 rfl (Nat.le_of_ble_eq_true rfl) dL_law_1235 ⟨Nat.le_refl _, Nat.le_refl _⟩ (fun H locs hP hD hS => ?_)
  refine lv_aload_n hx hb dL_law_1238 rfl (lv_at hl 2 rfl) ?_
  refine kc_V (As := []) (rest := [.int (f_X3_fault X)]) B (c_X4_fault l D cI cO tF bd M  ) (cwV 0 hts gL_law_X4_fault rfl rfl rfl (by decide +kernel) ⟨Nat.le_of_ble_eq_true rfl, Nat.le_of_ble_eq_true rfl⟩) hP hD hS [22, 23, 24, 25, 26, 27, 28, 29, 30, 31, 32, 33, 34] wXM_subM (by decide) (w' := wX ad cI cO X ++ wM bd cI M) (wXM_setM _) (wM_fst _) 22 4 rfl rfl rfl rfl hl.1 rfl (Nat.le_of_ble_eq_true rfl) dL_law_1239 ⟨Nat.le_refl _, Nat.le_refl _⟩ (fun H locs hP hD hS => ?_)
  have hv := rel_fault hR 
  refine lv_icmp_eq (tgt := 1270) hx hb dL_law_1242 (by decide) (fun _ => ?_) (fun h => absurd hv h)
  exact kk _ _ hR _ _ hP hD hS ls hl
set_option maxHeartbeats 4000000 in
set_option maxRecDepth 100000 in
theorem law_c33 {p : Program} (l : Launch) {e : Env} {s : State} {m : MethodId} {below : List Frame} {meth : Method} {c : Code} (D : va_G) (cI cO : ClassId) (tF : Nat) (ad bd : Nat → Nat) {b L : Nat} {xs : Nat → Int32} {A : Nat → Prop} {Q : State → Prop} {args : Array Value} (B : Bx p s m args meth c cL_law 4 ret wsL_law RL D cI cO tF A) (hX : va_X b L xs s s.heap) (hbl : b < s.heap.size) (hbA : ¬ A b) (X : XS) (M : MS) (hR : Rel X M) (x3 : Int32) (h0 : 0 ≤ x3.toInt) (h1 : x3.toInt + 6 ≤ L) (hL : L ≤ 3072) (kk : ∀ (X' : XS) (M' : MS), Rel X' M' → ∀ (H : Heap) (locs : List Loc), va_P D vwCl (wX ad cI cO X' ++ wM bd cI M') H → va_D A (wX ad cI cO X' ++ wM bd cI M') → va_S A s.heap H locs → ∀ ls : Array Slot, lv_has ls 4 [(0, .ref b), (1, .ref (ad 0)), (2, .ref (bd 0)), (3, .int x3)] → W p l e room_1 s m args below meth c H locs 600000 7302250 Q (F0 m 1270 ls [])) (H : Heap) (locs : List Loc) (hP : va_P D vwCl (wX ad cI cO X ++ wM bd cI M) H) (hD : va_D A (wX ad cI cO X ++ wM bd cI M)) (hS : va_S A s.heap H locs) (ls : Array Slot) (hl : lv_has ls 4 [(0, .ref b), (1, .ref (ad 0)), (2, .ref (bd 0)), (3, .int x3)]) : W p l e room_1 s m args below meth c H locs 600000 7302250 Q (F0 m 1247 ls []) := by
  obtain ⟨hx, hb, hret, hml, hts, hown, hlocks, hE, hA⟩ := id B
  refine lv_aload_n hx hb dL_law_1247 rfl (lv_at hl 1 rfl) ?_
  refine lv_aload_n hx hb dL_law_1248 rfl (lv_at hl 0 rfl) ?_
  refine lv_iload_n hx hb dL_law_1249 rfl (lv_at hl 3 rfl) ?_
  refine lv_iconst (v := (1 : Int32)) hx hb dL_law_1250 (by decide) ?_
  refine lv_iadd hx hb dL_law_1251 ?_
  refine va_sld hx hb hX hbl hbA hS (sc_in (1 : Int32) 1 h0 h1 hL rfl (by decide)) dL_law_1252 ?_
  refine kc_V (As := [.int (xs (x3 + (1 : Int32)).toNatClampNeg)]) (rest := []) B (c_X3_many l D cI cO tF ad X (xs (x3 + (1 : Int32)).toNatClampNeg) ) (cwV 1 hts gL_law_X3_many rfl rfl rfl (by decide +kernel) ⟨Nat.le_of_ble_eq_true rfl, Nat.le_of_ble_eq_true rfl⟩) hP hD hS [0, 1, 2, 3, 4, 5, 6, 7, 8, 9, 10, 11, 12, 13, 14, 15, 16, 17, 18, 19, 20, 21] wXM_subX (by decide) (w' := wX ad cI cO X ++ wM bd cI M) (wXM_setX _) (wX_fst _) 0 3 rfl rfl rfl rfl hl.1 rfl (Nat.le_of_ble_eq_true rfl) dL_law_1253 ⟨Nat.le_refl _, Nat.le_refl _⟩ (fun H locs hP hD hS => ?_)
  refine lv_aload_n hx hb dL_law_1256 rfl (lv_at hl 2 rfl) ?_
  refine lv_aload_n hx hb dL_law_1257 rfl (lv_at hl 0 rfl) ?_
  refine lv_iload_n hx hb dL_law_1258 rfl (lv_at hl 3 rfl) ?_
  refine lv_iconst (v := (1 : Int32)) hx hb dL_law_1259 (by decide) ?_
  refine lv_iadd hx hb dL_law_1260 ?_
  refine va_sld hx hb hX hbl hbA hS (sc_in (1 : Int32) 1 h0 h1 hL rfl (by decide)) dL_law_1261 ?_
  refine kc_V (As := [.int (xs (x3 + (1 : Int32)).toNatClampNeg)]) (rest := [.int (f_X3_many X (xs (x3 + (1 : Int32)).toNatClampNeg))]) B (c_X4_many l D cI cO tF bd M (xs (x3 + (1 : Int32)).toNatClampNeg) ) (cwV 1 hts gL_law_X4_many rfl rfl rfl (by decide +kernel) ⟨Nat.le_of_ble_eq_true rfl, Nat.le_of_ble_eq_true rfl⟩) hP hD hS [22, 23, 24, 25, 26, 27, 28, 29, 30, 31, 32, 33, 34] wXM_subM (by decide) (w' := wX ad cI cO X ++ wM bd cI M) (wXM_setM _) (wM_fst _) 22 4 rfl rfl rfl rfl hl.1 rfl (Nat.le_of_ble_eq_true rfl) dL_law_1262 ⟨Nat.le_refl _, Nat.le_refl _⟩ (fun H locs hP hD hS => ?_)
  have hv := rel_many hR (xs (x3 + (1 : Int32)).toNatClampNeg)
  refine lv_icmp_eq (tgt := 1270) hx hb dL_law_1265 (by decide) (fun _ => ?_) (fun h => absurd hv h)
  exact kk _ _ hR _ _ hP hD hS ls hl
