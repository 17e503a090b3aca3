def f_X1_at (S : SH) (x1 : Int32) : Int32 := (if x1 < 0 then (0 : Int32) else (if (60 : Int32) ≤ x1 then (0 : Int32) else ((S_cells S) x1.toNatClampNeg)))
theorem iw_X1_at_1 : ∀ w ∈ wsX10, w ∈ wsX1_at := fun _ h => List.mem_cons_of_mem _ (List.mem_append_right _ h)
set_option maxHeartbeats 4000000 in
set_option maxRecDepth 100000 in
theorem c_X1_at (l : Launch) (D : va_G) (cI cO : ClassId) (tF : Nat) (a0 a1 : Nat) (S : SH) (x1 : Int32) : Ct l yX1_at wsX1_at ({ frames := 0, cells := 0, slots := 0, locals := 0 }) D cI cO tF [.ref a0, .int x1] (wS a0 a1 cI S) (some (.int (f_X1_at S x1))) (wS a0 a1 cI S) := by
  refine Ct.of (cc := cX1_at) (maxL := 2) (ret := (some .int)) (own := RX1) (by decide) rfl rfl (Nat.le_of_ble_eq_true rfl) ?_
  intro p e s m args below meth c A ls B hP hD hS hl
  obtain ⟨hx, hb, hret, hml, hts, hown, hlocks, hE, hA⟩ := id B
  have hK := hE.1
  have hl : lv_has ls 2 [(0, .ref a0), (1, .int x1)] := hl
  refine lv_iload_n hx hb dX1_at_0 rfl (lv_at hl 1 rfl) ?_
  refine lv_if_lt (tgt := 22) hx hb dX1_at_1 (by decide) (fun c_1 => ?_) (fun c_1 => ?_)
  · refine lv_iconst (v := (0 : Int32)) hx hb dX1_at_22 (by decide) ?_
    have hF : f_X1_at S x1 = (0 : Int32) := by rw [f_X1_at, if_pos c_1]
    rw [hF]
    exact kr_i B hP hS rfl rfl dX1_at_23
  · refine lv_iload_n hx hb dX1_at_4 rfl (lv_at hl 1 rfl) ?_
    refine lv_aload_n hx hb dX1_at_5 rfl (lv_at hl 0 rfl) ?_
    refine va_get (D := D) (ci := 1) (v := .ref a1) (C := RX1) (T := TX1) (N := 4) hx hb hts iw_X1_at_1 hown hK hP 0 rfl rfl 0 (by decide) (hts (.fieldLink RX1 9 "TownLisp$Sheet" "cells" "[I") (by decide +kernel)) (fun _ h9 => h9) rfl dX1_at_6 ?_
    refine va_alen (v := 60) hx hb hK hP 1 0 rfl rfl rfl dX1_at_9 ?_
    refine lv_icmp_ge (tgt := 22) hx hb dX1_at_10 (by decide) (fun c_10 => ?_) (fun c_10 => ?_)
    · refine lv_iconst (v := (0 : Int32)) hx hb dX1_at_22 (by decide) ?_
      have hF : f_X1_at S x1 = (0 : Int32) := by rw [f_X1_at, if_neg c_1, if_pos c_10]
      rw [hF]
      exact kr_i B hP hS rfl rfl dX1_at_23
    · refine lv_aload_n hx hb dX1_at_13 rfl (lv_at hl 0 rfl) ?_
      refine va_get (D := D) (ci := 1) (v := .ref a1) (C := RX1) (T := TX1) (N := 4) hx hb hts iw_X1_at_1 hown hK hP 0 rfl rfl 0 (by decide) (hts (.fieldLink RX1 9 "TownLisp$Sheet" "cells" "[I") (by decide +kernel)) (fun _ h9 => h9) rfl dX1_at_14 ?_
      refine lv_iload_n hx hb dX1_at_17 rfl (lv_at hl 1 rfl) ?_
      refine va_iald hx hb hK hP 1 0 rfl rfl (in_c (n := 60) (by decide) c_1 c_10) dX1_at_18 ?_
      refine lv_goto (tgt := 23) hx hb dX1_at_19 (by decide) ?_
      have hF : f_X1_at S x1 = ((S_cells S) x1.toNatClampNeg) := by rw [f_X1_at, if_neg c_1, if_neg c_10]
      rw [hF]
      exact kr_i B hP hS rfl rfl dX1_at_23
def f_X1_spans (S : SH) (x1 : Int32) (x2 : Int32) : Int32 := (if x1 < 0 then (0 : Int32) else (if x2 < 0 then (0 : Int32) else (if (S_length S) < x1 then (0 : Int32) else (if ((S_length S) - x1) < x2 then (0 : Int32) else (1 : Int32)))))
theorem iw_X1_spans_1 : ∀ w ∈ wsX10, w ∈ wsX1_spans := fun _ h => List.mem_cons_of_mem _ (List.mem_append_right _ h)
theorem bb_X1_spans (S : SH) (x1 : Int32) (x2 : Int32) : f_X1_spans S x1 x2 = 0 ∨ f_X1_spans S x1 x2 = 1 := by
  unfold f_X1_spans
  repeat' split
  all_goals first | exact Or.inl rfl | exact Or.inr rfl
set_option maxHeartbeats 4000000 in
set_option maxRecDepth 100000 in
theorem c_X1_spans (l : Launch) (D : va_G) (cI cO : ClassId) (tF : Nat) (a0 a1 : Nat) (S : SH) (x1 : Int32) (x2 : Int32) : Ct l yX1_spans wsX1_spans ({ frames := 0, cells := 0, slots := 0, locals := 0 }) D cI cO tF [.ref a0, .int x1, .int x2] (wS a0 a1 cI S) (some (.int (f_X1_spans S x1 x2))) (wS a0 a1 cI S) := by
  refine Ct.of (cc := cX1_spans) (maxL := 3) (ret := (some .boolean)) (own := RX1) (by decide) rfl rfl (Nat.le_of_ble_eq_true rfl) ?_
  intro p e s m args below meth c A ls B hP hD hS hl
  obtain ⟨hx, hb, hret, hml, hts, hown, hlocks, hE, hA⟩ := id B
  have hK := hE.1
  have hl : lv_has ls 3 [(0, .ref a0), (1, .int x1), (2, .int x2)] := hl
  refine lv_iload_n hx hb dX1_spans_0 rfl (lv_at hl 1 rfl) ?_
  refine lv_if_lt (tgt := 30) hx hb dX1_spans_1 (by decide) (fun c_1 => ?_) (fun c_1 => ?_)
  · refine lv_iconst (v := (0 : Int32)) hx hb dX1_spans_30 (by decide) ?_
    have hF : f_X1_spans S x1 x2 = (0 : Int32) := by rw [f_X1_spans, if_pos c_1]
    rw [hF]
    exact kr_z B hP hS rfl rfl (Or.inl rfl) dX1_spans_31
  · refine lv_iload_n hx hb dX1_spans_4 rfl (lv_at hl 2 rfl) ?_
    refine lv_if_lt (tgt := 30) hx hb dX1_spans_5 (by decide) (fun c_5 => ?_) (fun c_5 => ?_)
    · refine lv_iconst (v := (0 : Int32)) hx hb dX1_spans_30 (by decide) ?_
      have hF : f_X1_spans S x1 x2 = (0 : Int32) := by rw [f_X1_spans, if_neg c_1, if_pos c_5]
      rw [hF]
      exact kr_z B hP hS rfl rfl (Or.inl rfl) dX1_spans_31
    · refine lv_iload_n hx hb dX1_spans_8 rfl (lv_at hl 1 rfl) ?_
      refine lv_aload_n hx hb dX1_spans_9 rfl (lv_at hl 0 rfl) ?_
      refine va_get (D := D) (ci := 1) (v := .int (S_length S)) (C := RX1) (T := TX1) (N := 4) hx hb hts iw_X1_spans_1 hown hK hP 0 rfl rfl 2 (by decide) (hts (.fieldLink RX1 28 "TownLisp$Sheet" "length" "I") (by decide +kernel)) (fun _ h9 => h9) rfl dX1_spans_10 ?_
      refine lv_icmp_gt (tgt := 30) hx hb dX1_spans_13 (by decide) (fun c_13 => ?_) (fun c_13 => ?_)
      · refine lv_iconst (v := (0 : Int32)) hx hb dX1_spans_30 (by decide) ?_
        have hF : f_X1_spans S x1 x2 = (0 : Int32) := by rw [f_X1_spans, if_neg c_1, if_neg c_5, if_pos c_13]
        rw [hF]
        exact kr_z B hP hS rfl rfl (Or.inl rfl) dX1_spans_31
      · refine lv_iload_n hx hb dX1_spans_16 rfl (lv_at hl 2 rfl) ?_
        refine lv_aload_n hx hb dX1_spans_17 rfl (lv_at hl 0 rfl) ?_
        refine va_get (D := D) (ci := 1) (v := .int (S_length S)) (C := RX1) (T := TX1) (N := 4) hx hb hts iw_X1_spans_1 hown hK hP 0 rfl rfl 2 (by decide) (hts (.fieldLink RX1 28 "TownLisp$Sheet" "length" "I") (by decide +kernel)) (fun _ h9 => h9) rfl dX1_spans_18 ?_
        refine lv_iload_n hx hb dX1_spans_21 rfl (lv_at hl 1 rfl) ?_
        refine lv_isub hx hb dX1_spans_22 ?_
        refine lv_icmp_gt (tgt := 30) hx hb dX1_spans_23 (by decide) (fun c_23 => ?_) (fun c_23 => ?_)
        · refine lv_iconst (v := (0 : Int32)) hx hb dX1_spans_30 (by decide) ?_
          have hF : f_X1_spans S x1 x2 = (0 : Int32) := by rw [f_X1_spans, if_neg c_1, if_neg c_5, if_neg c_13, if_pos c_23]
          rw [hF]
          exact kr_z B hP hS rfl rfl (Or.inl rfl) dX1_spans_31
        · refine lv_iconst (v := (1 : Int32)) hx hb dX1_spans_26 (by decide) ?_
          refine lv_goto (tgt := 31) hx hb dX1_spans_27 (by decide) ?_
          have hF : f_X1_spans S x1 x2 = (1 : Int32) := by rw [f_X1_spans, if_neg c_1, if_neg c_5, if_neg c_13, if_neg c_23]
          rw [hF]
          exact kr_z B hP hS rfl rfl (Or.inr rfl) dX1_spans_31
def f_X1_faultOf (S : SH) (x1 : Int32) (x2 : Int32) (x3 : Int32) : Int32 := (if (S_held S) = 0 then (1 : Int32) else (if (S_lane S) = x1 then (if 0 ≤ x3 then (if (f_X1_spans S x2 x3) = 0 then (3 : Int32) else (0 : Int32)) else (4 : Int32)) else (2 : Int32)))
theorem iw_X1_faultOf_1 : ∀ w ∈ wsX10, w ∈ wsX1_faultOf := fun _ h => List.mem_cons_of_mem _ (List.mem_append_right _ h)
set_option maxHeartbeats 4000000 in
set_option maxRecDepth 100000 in
theorem c_X1_faultOf (l : Launch) (D : va_G) (cI cO : ClassId) (tF : Nat) (a0 a1 : Nat) (S : SH) (x1 : Int32) (x2 : Int32) (x3 : Int32) : Ct l yX1_faultOf wsX1_faultOf ({ frames := 1, cells := 0, slots := 0, locals := 22 }) D cI cO tF [.ref a0, .int x1, .int x2, .int x3] (wS a0 a1 cI S) (some (.int (f_X1_faultOf S x1 x2 x3))) (wS a0 a1 cI S) := by
  refine Ct.of (cc := cX1_faultOf) (maxL := 4) (ret := (some .int)) (own := RX1) (by decide) rfl rfl (Nat.le_of_ble_eq_true rfl) ?_
  intro p e s m args below meth c A ls B hP hD hS hl
  obtain ⟨hx, hb, hret, hml, hts, hown, hlocks, hE, hA⟩ := id B
  have hK := hE.1
  have hl : lv_has ls 4 [(0, .ref a0), (1, .int x1), (2, .int x2), (3, .int x3)] := hl
  refine lv_aload_n hx hb dX1_faultOf_0 rfl (lv_at hl 0 rfl) ?_
  refine va_get (D := D) (ci := 1) (v := .int (S_held S)) (C := RX1) (T := TX1) (N := 4) hx hb hts iw_X1_faultOf_1 hown hK hP 0 rfl rfl 3 (by decide) (hts (.fieldLink RX1 31 "TownLisp$Sheet" "held" "Z") (by decide +kernel)) (fun _ h9 => h9) rfl dX1_faultOf_1 ?_
  refine lv_if_ne (tgt := 9) hx hb dX1_faultOf_4 (by decide) (fun c_4 => ?_) (fun c_4 => ?_)
  · refine lv_aload_n hx hb dX1_faultOf_9 rfl (lv_at hl 0 rfl) ?_
    refine va_get (D := D) (ci := 1) (v := .int (S_lane S)) (C := RX1) (T := TX1) (N := 4) hx hb hts iw_X1_faultOf_1 hown hK hP 0 rfl rfl 1 (by decide) (hts (.fieldLink RX1 15 "TownLisp$Sheet" "lane" "I") (by decide +kernel)) (fun _ h9 => h9) rfl dX1_faultOf_10 ?_
    refine lv_iload_n hx hb dX1_faultOf_13 rfl (lv_at hl 1 rfl) ?_
    refine lv_icmp_eq (tgt := 19) hx hb dX1_faultOf_14 (by decide) (fun c_14 => ?_) (fun c_14 => ?_)
    · refine lv_iload_n hx hb dX1_faultOf_19 rfl (lv_at hl 3 rfl) ?_
      refine lv_if_ge (tgt := 25) hx hb dX1_faultOf_20 (by decide) (fun c_20 => ?_) (fun c_20 => ?_)
      · refine lv_aload_n hx hb dX1_faultOf_25 rfl (lv_at hl 0 rfl) ?_
        refine lv_iload_n hx hb dX1_faultOf_26 rfl (lv_at hl 2 rfl) ?_
        refine lv_iload_n hx hb dX1_faultOf_27 rfl (lv_at hl 3 rfl) ?_
        refine kc_V (As := [.int x2, .int x3]) (rest := []) B (c_X1_spans l D cI cO tF a0 a1 S x2 x3 ) (cwV 2 hts gX1_faultOf_X1_spans rfl rfl rfl (by decide +kernel) ⟨Nat.le_of_ble_eq_true rfl, Nat.le_of_ble_eq_true rfl⟩) hP hD hS [0, 1] rfl (by decide) (w' := wS a0 a1 cI S) rfl rfl 0 1 rfl rfl rfl rfl hl.1 rfl (Nat.le_of_ble_eq_true rfl) dX1_faultOf_28 ⟨Nat.zero_le _, Nat.zero_le _⟩ (fun H locs hP hD hS => ?_)
        have hD : va_D A (wS a0 a1 cI S) := hD
        refine lv_if_eq (tgt := 38) hx hb dX1_faultOf_31 (by decide) (fun c_31 => ?_) (fun c_31 => ?_)
        · refine lv_iconst (v := (3 : Int32)) hx hb dX1_faultOf_38 (by decide) ?_
          have hF : f_X1_faultOf S x1 x2 x3 = (3 : Int32) := by rw [f_X1_faultOf, if_neg c_4, if_pos c_14, if_pos c_20, if_pos c_31]
          rw [hF]
          exact kr_i B hP hS rfl rfl dX1_faultOf_39
        · refine lv_iconst (v := (0 : Int32)) hx hb dX1_faultOf_34 (by decide) ?_
          refine lv_goto (tgt := 39) hx hb dX1_faultOf_35 (by decide) ?_
          have hF : f_X1_faultOf S x1 x2 x3 = (0 : Int32) := by rw [f_X1_faultOf, if_neg c_4, if_pos c_14, if_pos c_20, if_neg c_31]
          rw [hF]
          exact kr_i B hP hS rfl rfl dX1_faultOf_39
      · refine lv_iconst (v := (4 : Int32)) hx hb dX1_faultOf_23 (by decide) ?_
        have hF : f_X1_faultOf S x1 x2 x3 = (4 : Int32) := by rw [f_X1_faultOf, if_neg c_4, if_pos c_14, if_neg c_20]
        rw [hF]
        exact kr_i B hP hS rfl rfl dX1_faultOf_24
    · refine lv_iconst (v := (2 : Int32)) hx hb dX1_faultOf_17 (by decide) ?_
      have hF : f_X1_faultOf S x1 x2 x3 = (2 : Int32) := by rw [f_X1_faultOf, if_neg c_4, if_neg c_14]
      rw [hF]
      exact kr_i B hP hS rfl rfl dX1_faultOf_18
  · refine lv_iconst (v := (1 : Int32)) hx hb dX1_faultOf_7 (by decide) ?_
    have hF : f_X1_faultOf S x1 x2 x3 = (1 : Int32) := by rw [f_X1_faultOf, if_pos c_4]
    rw [hF]
    exact kr_i B hP hS rfl rfl dX1_faultOf_8
def f_X1_cut (S : SH) (x1 : Int32) : Int32 := (if (S_lane S) = (0 : Int32) then x1.toInt8.toInt32 else (if (S_lane S) = (1 : Int32) then x1.toInt16.toInt32 else x1))
theorem iw_X1_cut_1 : ∀ w ∈ wsX10, w ∈ wsX1_cut := fun _ h => List.mem_cons_of_mem _ (List.mem_append_right _ h)
set_option maxHeartbeats 4000000 in
set_option maxRecDepth 100000 in
theorem c_X1_cut (l : Launch) (D : va_G) (cI cO : ClassId) (tF : Nat) (a0 a1 : Nat) (S : SH) (x1 : Int32) : Ct l yX1_cut wsX1_cut ({ frames := 0, cells := 0, slots := 0, locals := 0 }) D cI cO tF [.ref a0, .int x1] (wS a0 a1 cI S) (some (.int (f_X1_cut S x1))) (wS a0 a1 cI S) := by
  refine Ct.of (cc := cX1_cut) (maxL := 2) (ret := (some .int)) (own := RX1) (by decide) rfl rfl (Nat.le_of_ble_eq_true rfl) ?_
  intro p e s m args below meth c A ls B hP hD hS hl
  obtain ⟨hx, hb, hret, hml, hts, hown, hlocks, hE, hA⟩ := id B
  have hK := hE.1
  have hl : lv_has ls 2 [(0, .ref a0), (1, .int x1)] := hl
  refine lv_aload_n hx hb dX1_cut_0 rfl (lv_at hl 0 rfl) ?_
  refine va_get (D := D) (ci := 1) (v := .int (S_lane S)) (C := RX1) (T := TX1) (N := 4) hx hb hts iw_X1_cut_1 hown hK hP 0 rfl rfl 1 (by decide) (hts (.fieldLink RX1 15 "TownLisp$Sheet" "lane" "I") (by decide +kernel)) (fun _ h9 => h9) rfl dX1_cut_1 ?_
  by_cases c_4_0 : (S_lane S) = (0 : Int32)
  · refine lv_lookup (off := 28) (tgt := 32) hx hb dX1_cut_4 (by decide) (by rw [c_4_0]; rfl) (by decide) ?_
    refine lv_iload_n hx hb dX1_cut_32 rfl (lv_at hl 1 rfl) ?_
    refine lv_i2b (v := x1.toInt8.toInt32) hx hb dX1_cut_33 rfl ?_
    have hF : f_X1_cut S x1 = x1.toInt8.toInt32 := by rw [f_X1_cut, if_pos c_4_0]
    rw [hF]
    exact kr_i B hP hS rfl rfl dX1_cut_34
  by_cases c_4_1 : (S_lane S) = (1 : Int32)
  · refine lv_lookup (off := 31) (tgt := 35) hx hb dX1_cut_4 (by decide) (by rw [c_4_1]; rfl) (by decide) ?_
    refine lv_iload_n hx hb dX1_cut_35 rfl (lv_at hl 1 rfl) ?_
    refine lv_i2s (v := x1.toInt16.toInt32) hx hb dX1_cut_36 rfl ?_
    have hF : f_X1_cut S x1 = x1.toInt16.toInt32 := by rw [f_X1_cut, if_neg c_4_0, if_pos c_4_1]
    rw [hF]
    exact kr_i B hP hS rfl rfl dX1_cut_37
  refine lv_lookup (off := 34) (tgt := 38) hx hb dX1_cut_4 (by decide) (by show Op.lookupswitch.offset [(0, 28), (1, 31)] 34 _ = _; rw [Op.lookupswitch.offset_cons, if_neg (fun h => c_4_0 ((fa_eq _ _).mpr h.symm)), Op.lookupswitch.offset_cons, if_neg (fun h => c_4_1 ((fa_eq _ _).mpr h.symm)), Op.lookupswitch.offset_nil]) (by decide) ?_
  refine lv_iload_n hx hb dX1_cut_38 rfl (lv_at hl 1 rfl) ?_
  have hF : f_X1_cut S x1 = x1 := by rw [f_X1_cut, if_neg c_4_0, if_neg c_4_1]
  rw [hF]
  exact kr_i B hP hS rfl rfl dX1_cut_39
def fL_X1_renew_29 (S : SH) (x1 : Int32) (x2 : Int32) : Nat → Int32 → SH → SH
  | 0, _, v_S => v_S
  | k + 1, x3, v_S => (if (60 : Int32) ≤ x3 then v_S else fL_X1_renew_29 S x1 x2 k (x3 + (1 : Int32)) (S_cells' v_S (upd (S_cells v_S) x3.toNatClampNeg (0 : Int32))))
def f_X1_renew (S : SH) (x1 : Int32) (x2 : Int32) : SH := fL_X1_renew_29 S x1 x2 61 (0 : Int32) (S_held' (S_length' (S_lane' S x1) (if (0 : Int32) < (if (60 : Int32) < x2 then (60 : Int32) else x2) then (if (60 : Int32) < x2 then (60 : Int32) else x2) else (0 : Int32))) (1 : Int32))
theorem iw_X1_renew_1 : ∀ w ∈ wsX10, w ∈ wsX1_renew := fun _ h => List.mem_cons_of_mem _ (List.mem_append_right _ h)
set_option maxHeartbeats 4000000 in
set_option maxRecDepth 100000 in
theorem L_X1_renew_29 {p : Program} (l : Launch) {e : Env} {s : State} {m : MethodId} {args : Array Value} {below : List Frame} {meth : Method} {c : Code} {A : Nat → Prop} (D : va_G) (cI cO : ClassId) (tF : Nat) (a0 a1 : Nat) (S : SH) (x1 : Int32) (x2 : Int32) (B : Bx p s m args meth c cX1_renew 4 none wsX1_renew RX1 D cI cO tF A) : ∀ (k : Nat) (x3 : Int32) (v_S : SH), (0 ≤ x3.toInt) → (((60 : Int32).toInt - x3.toInt).toNat < k) → ∀ (H : Heap) (locs : List Loc), va_P D vwCl (wS a0 a1 cI v_S) H → va_D A (wS a0 a1 cI v_S) → va_S A s.heap H locs → ∀ ls : Array Slot, lv_has ls 4 [(0, .ref a0), (1, .int x1), (2, .int x2), (3, .int x3)] → W p l e ({ frames := 1, cells := 0, slots := 0, locals := 24 }) s m args below meth c H locs 0 0 (MQ below (Qp D none (wS a0 a1 cI (fL_X1_renew_29 S x1 x2 k x3 v_S)) A) args s 0 0 A) (F0 m 29 ls []) := by
  obtain ⟨hx, hb, hret, hml, hts, hown, hlocks, hE, hA⟩ := id B
  have hK := hE.1
  intro k
  induction k with
  | zero =>
    intro x3 v_S h0 hk
    exact absurd hk (Nat.not_lt_zero _)
  | succ k ih =>
    intro x3 v_S h0 hk H locs hP hD hS ls hl
    refine lv_iload_n hx hb dX1_renew_29 rfl (lv_at hl 3 rfl) ?_
    refine lv_aload_n hx hb dX1_renew_30 rfl (lv_at hl 0 rfl) ?_
    refine va_get (D := D) (ci := 1) (v := .ref a1) (C := RX1) (T := TX1) (N := 4) hx hb hts iw_X1_renew_1 hown hK hP 0 rfl rfl 0 (by decide) (hts (.fieldLink RX1 9 "TownLisp$Sheet" "cells" "[I") (by decide +kernel)) (fun _ h9 => h9) rfl dX1_renew_31 ?_
    refine va_alen (v := 60) hx hb hK hP 1 0 rfl rfl rfl dX1_renew_34 ?_
    refine lv_icmp_ge (tgt := 51) hx hb dX1_renew_35 (by decide) (fun c_35 => ?_) (fun c_35 => ?_)
    · have hF : fL_X1_renew_29 S x1 x2 (k + 1) x3 v_S = v_S := by rw [fL_X1_renew_29, if_pos c_35]
      rw [hF]
      exact kr_v B hP hS rfl dX1_renew_51
    · refine lv_aload_n hx hb dX1_renew_38 rfl (lv_at hl 0 rfl) ?_
      refine va_get (D := D) (ci := 1) (v := .ref a1) (C := RX1) (T := TX1) (N := 4) hx hb hts iw_X1_renew_1 hown hK hP 0 rfl rfl 0 (by decide) (hts (.fieldLink RX1 9 "TownLisp$Sheet" "cells" "[I") (by decide +kernel)) (fun _ h9 => h9) rfl dX1_renew_39 ?_
      refine lv_iload_n hx hb dX1_renew_42 rfl (lv_at hl 3 rfl) ?_
      refine lv_iconst (v := (0 : Int32)) hx hb dX1_renew_43 (by decide) ?_
      refine va_iast hx hb hK hP hD hS 1 0 rfl rfl (lp_in (n := 60) h0 (by decide) c_35) dX1_renew_44 (fun H locs hP hD hS => ?_)
      have hP : va_P D vwCl (wS a0 a1 cI (S_cells' v_S (upd (S_cells v_S) x3.toNatClampNeg (0 : Int32)))) H := hP
      have hD : va_D A (wS a0 a1 cI (S_cells' v_S (upd (S_cells v_S) x3.toNatClampNeg (0 : Int32)))) := hD
      refine lv_iinc (v := (x3 + (1 : Int32))) (lv' := [(3, .int (x3 + (1 : Int32))), (0, .ref a0), (1, .int x1), (2, .int x2)]) hx hb dX1_renew_45 hl (k := 3) rfl rfl (by decide) rfl (fun ls hl => ?_)
      refine lv_goto (tgt := 29) hx hb dX1_renew_48 (by decide) ?_
      have hF : fL_X1_renew_29 S x1 x2 (k + 1) x3 v_S = fL_X1_renew_29 S x1 x2 k (x3 + (1 : Int32)) (S_cells' v_S (upd (S_cells v_S) x3.toNatClampNeg (0 : Int32))) := by rw [fL_X1_renew_29, if_neg c_35]
      rw [hF]
      exact ih (x3 + (1 : Int32)) (S_cells' v_S (upd (S_cells v_S) x3.toNatClampNeg (0 : Int32))) (lp_pre h0 c_35) (lp_mu h0 c_35 hk) _ _ hP hD hS ls (lv_sub hl [1, 2, 3, 0] rfl)
set_option maxHeartbeats 4000000 in
set_option maxRecDepth 100000 in
theorem c_X1_renew (l : Launch) (D : va_G) (cI cO : ClassId) (tF : Nat) (a0 a1 : Nat) (S : SH) (x1 : Int32) (x2 : Int32) : Ct l yX1_renew wsX1_renew ({ frames := 1, cells := 0, slots := 0, locals := 24 }) D cI cO tF [.ref a0, .int x1, .int x2] (wS a0 a1 cI S) none (wS a0 a1 cI (f_X1_renew S x1 x2)) := by
  refine Ct.of (cc := cX1_renew) (maxL := 4) (ret := none) (own := RX1) (by decide) rfl rfl (Nat.le_of_ble_eq_true rfl) ?_
  intro p e s m args below meth c A ls B hP hD hS hl
  obtain ⟨hx, hb, hret, hml, hts, hown, hlocks, hE, hA⟩ := id B
  have hK := hE.1
  have hl : lv_has ls 4 [(0, .ref a0), (1, .int x1), (2, .int x2)] := hl
  refine lv_aload_n hx hb dX1_renew_0 rfl (lv_at hl 0 rfl) ?_
  refine lv_iload_n hx hb dX1_renew_1 rfl (lv_at hl 1 rfl) ?_
  refine va_put (D := D) (ci := 1) (v := .int x1) (ty := .int) (C := RX1) (T := TX1) (N := 4) hx hb hts iw_X1_renew_1 tyX1 tyX1_ok nmX1 hown hK hP hD hS 0 rfl rfl 1 (by decide) (hts (.fieldLink RX1 15 "TownLisp$Sheet" "lane" "I") (by decide +kernel)) (fun _ h9 => h9) rfl (by decide +kernel) rfl rfl (Nat.le_of_ble_eq_true rfl) dX1_renew_2 (fun H locs hP hD hS => ?_)
  have hP : va_P D vwCl (wS a0 a1 cI (S_lane' S x1)) H := hP
  have hD : va_D A (wS a0 a1 cI (S_lane' S x1)) := hD
  refine lv_aload_n hx hb dX1_renew_5 rfl (lv_at hl 0 rfl) ?_
  refine lv_iconst (v := (0 : Int32)) hx hb dX1_renew_6 (by decide) ?_
  refine lv_iload_n hx hb dX1_renew_7 rfl (lv_at hl 2 rfl) ?_
  refine lv_aload_n hx hb dX1_renew_8 rfl (lv_at hl 0 rfl) ?_
  refine va_get (D := D) (ci := 1) (v := .ref a1) (C := RX1) (T := TX1) (N := 4) hx hb hts iw_X1_renew_1 hown hK hP 0 rfl rfl 0 (by decide) (hts (.fieldLink RX1 9 "TownLisp$Sheet" "cells" "[I") (by decide +kernel)) (fun _ h9 => h9) rfl dX1_renew_9 ?_
  refine va_alen (v := 60) hx hb hK hP 1 0 rfl rfl rfl dX1_renew_12 ?_
  refine va_mmin hx hb (hml.trans hl.1.symm) hown (hts (.methodLink RX1 19 Lib.Math.min.name) (by decide +kernel)) (hts (.static Lib.Math.min.name) (by decide +kernel)) (hts (.initialized "java/lang/Math") (by decide +kernel)) (hts (.code Lib.Math.min.name Lib.Math.min.code 2 (some .int)) (by decide +kernel)) (Nat.le_of_ble_eq_true rfl) (Nat.le_of_ble_eq_true rfl) (Nat.zero_le _) (Nat.zero_le _) dX1_renew_13 ?_
  refine va_mmax hx hb (hml.trans hl.1.symm) hown (hts (.methodLink RX1 25 Lib.Math.max.name) (by decide +kernel)) (hts (.static Lib.Math.max.name) (by decide +kernel)) (hts (.initialized "java/lang/Math") (by decide +kernel)) (hts (.code Lib.Math.max.name Lib.Math.max.code 2 (some .int)) (by decide +kernel)) (Nat.le_of_ble_eq_true rfl) (Nat.le_of_ble_eq_true rfl) (Nat.zero_le _) (Nat.zero_le _) dX1_renew_16 ?_
  refine va_put (D := D) (ci := 1) (v := .int (if (0 : Int32) < (if (60 : Int32) < x2 then (60 : Int32) else x2) then (if (60 : Int32) < x2 then (60 : Int32) else x2) else (0 : Int32))) (ty := .int) (C := RX1) (T := TX1) (N := 4) hx hb hts iw_X1_renew_1 tyX1 tyX1_ok nmX1 hown hK hP hD hS 0 rfl rfl 2 (by decide) (hts (.fieldLink RX1 28 "TownLisp$Sheet" "length" "I") (by decide +kernel)) (fun _ h9 => h9) rfl (by decide +kernel) rfl rfl (Nat.le_of_ble_eq_true rfl) dX1_renew_19 (fun H locs hP hD hS => ?_)
  have hP : va_P D vwCl (wS a0 a1 cI (S_length' (S_lane' S x1) (if (0 : Int32) < (if (60 : Int32) < x2 then (60 : Int32) else x2) then (if (60 : Int32) < x2 then (60 : Int32) else x2) else (0 : Int32)))) H := hP
  have hD : va_D A (wS a0 a1 cI (S_length' (S_lane' S x1) (if (0 : Int32) < (if (60 : Int32) < x2 then (60 : Int32) else x2) then (if (60 : Int32) < x2 then (60 : Int32) else x2) else (0 : Int32)))) := hD
  refine lv_aload_n hx hb dX1_renew_22 rfl (lv_at hl 0 rfl) ?_
  refine lv_iconst (v := (1 : Int32)) hx hb dX1_renew_23 (by decide) ?_
  refine va_put (D := D) (ci := 1) (v := .int (1 : Int32)) (ty := .boolean) (C := RX1) (T := TX1) (N := 4) hx hb hts iw_X1_renew_1 tyX1 tyX1_ok nmX1 hown hK hP hD hS 0 rfl rfl 3 (by decide) (hts (.fieldLink RX1 31 "TownLisp$Sheet" "held" "Z") (by decide +kernel)) (fun _ h9 => h9) rfl (by decide +kernel) rfl rfl (Nat.le_of_ble_eq_true rfl) dX1_renew_24 (fun H locs hP hD hS => ?_)
  have hP : va_P D vwCl (wS a0 a1 cI (S_held' (S_length' (S_lane' S x1) (if (0 : Int32) < (if (60 : Int32) < x2 then (60 : Int32) else x2) then (if (60 : Int32) < x2 then (60 : Int32) else x2) else (0 : Int32))) (1 : Int32))) H := hP
  have hD : va_D A (wS a0 a1 cI (S_held' (S_length' (S_lane' S x1) (if (0 : Int32) < (if (60 : Int32) < x2 then (60 : Int32) else x2) then (if (60 : Int32) < x2 then (60 : Int32) else x2) else (0 : Int32))) (1 : Int32))) := hD
  refine lv_iconst (v := (0 : Int32)) hx hb dX1_renew_27 (by decide) ?_
  refine lv_istore_n (lv' := [(3, .int (0 : Int32)), (0, .ref a0), (1, .int x1), (2, .int x2)]) hx hb dX1_renew_28 rfl hl (by decide) rfl (fun ls hl => ?_)
  have hF : f_X1_renew S x1 x2 = fL_X1_renew_29 S x1 x2 61 (0 : Int32) (S_held' (S_length' (S_lane' S x1) (if (0 : Int32) < (if (60 : Int32) < x2 then (60 : Int32) else x2) then (if (60 : Int32) < x2 then (60 : Int32) else x2) else (0 : Int32))) (1 : Int32)) := by rw [f_X1_renew]
  rw [hF]
  exact L_X1_renew_29 l D cI cO tF a0 a1 S x1 x2  B  61 (0 : Int32) (S_held' (S_length' (S_lane' S x1) (if (0 : Int32) < (if (60 : Int32) < x2 then (60 : Int32) else x2) then (if (60 : Int32) < x2 then (60 : Int32) else x2) else (0 : Int32))) (1 : Int32)) (Int.le_refl _) (by decide) _ _ hP hD hS ls (lv_sub hl [1, 2, 3, 0] rfl)
def f_X0_take (R : RD) (x1 : Int32) (x2 : Int32) (x3 : Int32) : Int32 × RD := ((R_count R), (R_count' (R_amount' (R_parts' (R_person' R (upd (R_person R) (R_count R).toNatClampNeg x1)) (upd (R_parts R) (R_count R).toNatClampNeg x2)) (upd (R_amount R) (R_count R).toNatClampNeg x3)) ((R_count R) + (1 : Int32))))
theorem iw_X0_take_0 : ∀ w ∈ wsX00, w ∈ wsX0_take := fun _ h => List.mem_cons_of_mem _ (List.mem_append_right _ h)
set_option maxHeartbeats 4000000 in
set_option maxRecDepth 100000 in
theorem c_X0_take (l : Launch) (D : va_G) (cI cO : ClassId) (tF : Nat) (a0 a1 a2 a3 : Nat) (R : RD) (x1 : Int32) (x2 : Int32) (x3 : Int32) (hr : vp_in (R_count R) 8) : Ct l yX0_take wsX0_take ({ frames := 0, cells := 0, slots := 0, locals := 0 }) D cI cO tF [.ref a0, .int x1, .int x2, .int x3] (wR a0 a1 a2 a3 cI R) (some (.int ((f_X0_take R x1 x2 x3).1))) (wR a0 a1 a2 a3 cI ((f_X0_take R x1 x2 x3).2)) := by
  refine Ct.of (cc := cX0_take) (maxL := 4) (ret := (some .int)) (own := RX0) (by decide) rfl rfl (Nat.le_of_ble_eq_true rfl) ?_
  intro p e s m args below meth c A ls B hP hD hS hl
  obtain ⟨hx, hb, hret, hml, hts, hown, hlocks, hE, hA⟩ := id B
  have hK := hE.1
  have hl : lv_has ls 4 [(0, .ref a0), (1, .int x1), (2, .int x2), (3, .int x3)] := hl
  refine lv_aload_n hx hb dX0_take_0 rfl (lv_at hl 0 rfl) ?_
  refine va_get (D := D) (ci := 0) (v := .ref a1) (C := RX0) (T := TX0) (N := 4) hx hb hts iw_X0_take_0 hown hK hP 0 rfl rfl 0 (by decide) (hts (.fieldLink RX0 9 "TownLisp$Readings" "person" "[I") (by decide +kernel)) (fun _ h9 => h9) rfl dX0_take_1 ?_
  refine lv_aload_n hx hb dX0_take_4 rfl (lv_at hl 0 rfl) ?_
  refine va_get (D := D) (ci := 0) (v := .int (R_count R)) (C := RX0) (T := TX0) (N := 4) hx hb hts iw_X0_take_0 hown hK hP 0 rfl rfl 3 (by decide) (hts (.fieldLink RX0 21 "TownLisp$Readings" "count" "I") (by decide +kernel)) (fun _ h9 => h9) rfl dX0_take_5 ?_
  refine lv_iload_n hx hb dX0_take_8 rfl (lv_at hl 1 rfl) ?_
  refine va_iast hx hb hK hP hD hS 1 0 rfl rfl (hr) dX0_take_9 (fun H locs hP hD hS => ?_)
  have hP : va_P D vwCl (wR a0 a1 a2 a3 cI (R_person' R (upd (R_person R) (R_count R).toNatClampNeg x1))) H := hP
  have hD : va_D A (wR a0 a1 a2 a3 cI (R_person' R (upd (R_person R) (R_count R).toNatClampNeg x1))) := hD
  refine lv_aload_n hx hb dX0_take_10 rfl (lv_at hl 0 rfl) ?_
  refine va_get (D := D) (ci := 0) (v := .ref a2) (C := RX0) (T := TX0) (N := 4) hx hb hts iw_X0_take_0 hown hK hP 0 rfl rfl 1 (by decide) (hts (.fieldLink RX0 15 "TownLisp$Readings" "parts" "[I") (by decide +kernel)) (fun _ h9 => h9) rfl dX0_take_11 ?_
  refine lv_aload_n hx hb dX0_take_14 rfl (lv_at hl 0 rfl) ?_
  refine va_get (D := D) (ci := 0) (v := .int (R_count R)) (C := RX0) (T := TX0) (N := 4) hx hb hts iw_X0_take_0 hown hK hP 0 rfl rfl 3 (by decide) (hts (.fieldLink RX0 21 "TownLisp$Readings" "count" "I") (by decide +kernel)) (fun _ h9 => h9) rfl dX0_take_15 ?_
  refine lv_iload_n hx hb dX0_take_18 rfl (lv_at hl 2 rfl) ?_
  refine va_iast hx hb hK hP hD hS 2 0 rfl rfl (hr) dX0_take_19 (fun H locs hP hD hS => ?_)
  have hP : va_P D vwCl (wR a0 a1 a2 a3 cI (R_parts' (R_person' R (upd (R_person R) (R_count R).toNatClampNeg x1)) (upd (R_parts R) (R_count R).toNatClampNeg x2))) H := hP
  have hD : va_D A (wR a0 a1 a2 a3 cI (R_parts' (R_person' R (upd (R_person R) (R_count R).toNatClampNeg x1)) (upd (R_parts R) (R_count R).toNatClampNeg x2))) := hD
  refine lv_aload_n hx hb dX0_take_20 rfl (lv_at hl 0 rfl) ?_
  refine va_get (D := D) (ci := 0) (v := .ref a3) (C := RX0) (T := TX0) (N := 4) hx hb hts iw_X0_take_0 hown hK hP 0 rfl rfl 2 (by decide) (hts (.fieldLink RX0 18 "TownLisp$Readings" "amount" "[I") (by decide +kernel)) (fun _ h9 => h9) rfl dX0_take_21 ?_
  refine lv_aload_n hx hb dX0_take_24 rfl (lv_at hl 0 rfl) ?_
  refine va_get (D := D) (ci := 0) (v := .int (R_count R)) (C := RX0) (T := TX0) (N := 4) hx hb hts iw_X0_take_0 hown hK hP 0 rfl rfl 3 (by decide) (hts (.fieldLink RX0 21 "TownLisp$Readings" "count" "I") (by decide +kernel)) (fun _ h9 => h9) rfl dX0_take_25 ?_
  refine lv_iload_n hx hb dX0_take_28 rfl (lv_at hl 3 rfl) ?_
  refine va_iast hx hb hK hP hD hS 3 0 rfl rfl (hr) dX0_take_29 (fun H locs hP hD hS => ?_)
  have hP : va_P D vwCl (wR a0 a1 a2 a3 cI (R_amount' (R_parts' (R_person' R (upd (R_person R) (R_count R).toNatClampNeg x1)) (upd (R_parts R) (R_count R).toNatClampNeg x2)) (upd (R_amount R) (R_count R).toNatClampNeg x3))) H := hP
  have hD : va_D A (wR a0 a1 a2 a3 cI (R_amount' (R_parts' (R_person' R (upd (R_person R) (R_count R).toNatClampNeg x1)) (upd (R_parts R) (R_count R).toNatClampNeg x2)) (upd (R_amount R) (R_count R).toNatClampNeg x3))) := hD
  refine lv_aload_n hx hb dX0_take_30 rfl (lv_at hl 0 rfl) ?_
  refine lv_dup hx hb dX0_take_31 rfl ?_
  refine va_get (D := D) (ci := 0) (v := .int (R_count R)) (C := RX0) (T := TX0) (N := 4) hx hb hts iw_X0_take_0 hown hK hP 0 rfl rfl 3 (by decide) (hts (.fieldLink RX0 21 "TownLisp$Readings" "count" "I") (by decide +kernel)) (fun _ h9 => h9) rfl dX0_take_32 ?_
  refine lv_dup_x1 hx hb dX0_take_35 rfl rfl ?_
  refine lv_iconst (v := (1 : Int32)) hx hb dX0_take_36 (by decide) ?_
  refine lv_iadd hx hb dX0_take_37 ?_
  refine va_put (D := D) (ci := 0) (v := .int ((R_count R) + (1 : Int32))) (ty := .int) (C := RX0) (T := TX0) (N := 4) hx hb hts iw_X0_take_0 tyX0 tyX0_ok nmX0 hown hK hP hD hS 0 rfl rfl 3 (by decide) (hts (.fieldLink RX0 21 "TownLisp$Readings" "count" "I") (by decide +kernel)) (fun _ h9 => h9) rfl (by decide +kernel) rfl rfl (Nat.le_of_ble_eq_true rfl) dX0_take_38 (fun H locs hP hD hS => ?_)
  have hP : va_P D vwCl (wR a0 a1 a2 a3 cI (R_count' (R_amount' (R_parts' (R_person' R (upd (R_person R) (R_count R).toNatClampNeg x1)) (upd (R_parts R) (R_count R).toNatClampNeg x2)) (upd (R_amount R) (R_count R).toNatClampNeg x3)) ((R_count R) + (1 : Int32)))) H := hP
  have hD : va_D A (wR a0 a1 a2 a3 cI (R_count' (R_amount' (R_parts' (R_person' R (upd (R_person R) (R_count R).toNatClampNeg x1)) (upd (R_parts R) (R_count R).toNatClampNeg x2)) (upd (R_amount R) (R_count R).toNatClampNeg x3)) ((R_count R) + (1 : Int32)))) := hD
  have hF : f_X0_take R x1 x2 x3 = ((R_count R), (R_count' (R_amount' (R_parts' (R_person' R (upd (R_person R) (R_count R).toNatClampNeg x1)) (upd (R_parts R) (R_count R).toNatClampNeg x2)) (upd (R_amount R) (R_count R).toNatClampNeg x3)) ((R_count R) + (1 : Int32)))) := by rw [f_X0_take]
  rw [hF]
  exact kr_i B hP hS rfl rfl dX0_take_41
def fL_X0_areSo_3 (R : RD) (T : TN) (x2 : Int32) (x3 : Int32) (x4 : Int32) : Nat → Int32 → Int32
  | 0, _ => 0
  | k + 1, x5 => (if (R_count R) ≤ x5 then (1 : Int32) else (if ((R_person R) x5.toNatClampNeg) = x2 then (if (f_X3_says x3 ((R_parts R) x5.toNatClampNeg) x4) = ((R_amount R) x5.toNatClampNeg) then fL_X0_areSo_3 R T x2 x3 x4 k (x5 + (1 : Int32)) else (0 : Int32)) else (if (f_X3_says ((T_kind T) ((R_person R) x5.toNatClampNeg).toNatClampNeg) ((R_parts R) x5.toNatClampNeg) ((T_thick T) ((R_person R) x5.toNatClampNeg).toNatClampNeg)) = ((R_amount R) x5.toNatClampNeg) then fL_X0_areSo_3 R T x2 x3 x4 k (x5 + (1 : Int32)) else (0 : Int32))))
def f_X0_areSo (R : RD) (T : TN) (x2 : Int32) (x3 : Int32) (x4 : Int32) : Int32 := fL_X0_areSo_3 R T x2 x3 x4 9 (0 : Int32)
theorem iw_X0_areSo_0 : ∀ w ∈ wsX00, w ∈ wsX0_areSo := fun _ h => List.mem_cons_of_mem _ (List.mem_append_left _ (List.mem_append_right _ h))
theorem iw_X0_areSo_2 : ∀ w ∈ wsX20, w ∈ wsX0_areSo := fun _ h => List.mem_cons_of_mem _ (List.mem_append_right _ h)
set_option maxHeartbeats 4000000 in
set_option maxRecDepth 100000 in
theorem L_X0_areSo_3 {p : Program} (l : Launch) {e : Env} {s : State} {m : MethodId} {args : Array Value} {below : List Frame} {meth : Method} {c : Code} {A : Nat → Prop} (D : va_G) (cI cO : ClassId) (tF : Nat) (a0 a1 a2 a3 : Nat) (b0 b1 b2 b3 : Nat) (R : RD) (T : TN) (x2 : Int32) (x3 : Int32) (x4 : Int32) (hr : (R_count R).toInt ≤ 8) (hq : ∀ r : Nat, (r : Int) < (R_count R).toInt → vp_in (R_person R r) 6) (B : Bx p s m args meth c cX0_areSo 8 (some .boolean) wsX0_areSo RX0 D cI cO tF A) : ∀ (k : Nat) (x5 : Int32), (0 ≤ x5.toInt) → (((R_count R).toInt - x5.toInt).toNat < k) → ∀ (H : Heap) (locs : List Loc), va_P D vwCl (wR a0 a1 a2 a3 cI R ++ wT b0 b1 b2 b3 cI T) H → va_D A (wR a0 a1 a2 a3 cI R ++ wT b0 b1 b2 b3 cI T) → va_S A s.heap H locs → ∀ ls : Array Slot, lv_has ls 8 [(0, .ref a0), (1, .ref b0), (2, .int x2), (3, .int x3), (4, .int x4), (5, .int x5)] → W p l e ({ frames := 2, cells := 0, slots := 0, locals := 47 }) s m args below meth c H locs 0 0 (MQ below (Qp D (some (.int (fL_X0_areSo_3 R T x2 x3 x4 k x5))) (wR a0 a1 a2 a3 cI R ++ wT b0 b1 b2 b3 cI T) A) args s 0 0 A) (F0 m 3 ls []) := by
  obtain ⟨hx, hb, hret, hml, hts, hown, hlocks, hE, hA⟩ := id B
  have hK := hE.1
  intro k
  induction k with
  | zero =>
    intro x5 h0 hk
    exact absurd hk (Nat.not_lt_zero _)
  | succ k ih =>
    intro x5 h0 hk H locs hP hD hS ls hl
    refine lv_iload hx hb dX0_areSo_3 (lv_at hl 5 rfl) ?_
    refine lv_aload_n hx hb dX0_areSo_5 rfl (lv_at hl 0 rfl) ?_
    refine va_get (D := D) (ci := 0) (v := .int (R_count R)) (C := RX0) (T := TX0) (N := 4) hx hb hts iw_X0_areSo_0 hown hK hP 0 rfl rfl 3 (by decide) (hts (.fieldLink RX0 21 "TownLisp$Readings" "count" "I") (by decide +kernel)) (fun _ h9 => h9) rfl dX0_areSo_6 ?_
    refine lv_icmp_ge (tgt := 89) hx hb dX0_areSo_9 (by decide) (fun c_9 => ?_) (fun c_9 => ?_)
    · refine lv_iconst (v := (1 : Int32)) hx hb dX0_areSo_89 (by decide) ?_
      have hF : fL_X0_areSo_3 R T x2 x3 x4 (k + 1) x5 = (1 : Int32) := by rw [fL_X0_areSo_3, if_pos c_9]
      rw [hF]
      exact kr_z B hP hS rfl rfl (Or.inr rfl) dX0_areSo_90
    · refine lv_aload_n hx hb dX0_areSo_12 rfl (lv_at hl 0 rfl) ?_
      refine va_get (D := D) (ci := 0) (v := .ref a1) (C := RX0) (T := TX0) (N := 4) hx hb hts iw_X0_areSo_0 hown hK hP 0 rfl rfl 0 (by decide) (hts (.fieldLink RX0 9 "TownLisp$Readings" "person" "[I") (by decide +kernel)) (fun _ h9 => h9) rfl dX0_areSo_13 ?_
      refine lv_iload hx hb dX0_areSo_16 (lv_at hl 5 rfl) ?_
      refine va_iald hx hb hK hP 1 0 rfl rfl (lp_in h0 hr c_9) dX0_areSo_18 ?_
      refine lv_istore (lv' := [(6, .int ((R_person R) x5.toNatClampNeg)), (0, .ref a0), (1, .ref b0), (2, .int x2), (3, .int x3), (4, .int x4), (5, .int x5)]) hx hb dX0_areSo_19 hl (by decide) rfl (fun ls hl => ?_)
      refine lv_iload hx hb dX0_areSo_21 (lv_at hl 0 rfl) ?_
      refine lv_iload_n hx hb dX0_areSo_23 rfl (lv_at hl 3 rfl) ?_
      refine lv_icmp_ne (tgt := 43) hx hb dX0_areSo_24 (by decide) (fun c_24 => ?_) (fun c_24 => ?_)
      · refine lv_aload_n hx hb dX0_areSo_43 rfl (lv_at hl 2 rfl) ?_
        refine va_get (D := D) (ci := 2) (v := .ref b1) (C := RX2) (T := TX2) (N := 6) hx hb hts iw_X0_areSo_2 hown hK hP 4 rfl rfl 0 (by decide) (hts (.fieldLink RX0 29 "TownLisp$Town" "kind" "[I") (by decide +kernel)) (fun _ h9 => h9) rfl dX0_areSo_44 ?_
        refine lv_iload hx hb dX0_areSo_47 (lv_at hl 0 rfl) ?_
        refine va_iald hx hb hK hP 5 0 rfl rfl (hq _ (cl_lt h0 c_9)) dX0_areSo_49 ?_
        refine lv_aload_n hx hb dX0_areSo_50 rfl (lv_at hl 1 rfl) ?_
        refine va_get (D := D) (ci := 0) (v := .ref a2) (C := RX0) (T := TX0) (N := 4) hx hb hts iw_X0_areSo_0 hown hK hP 0 rfl rfl 1 (by decide) (hts (.fieldLink RX0 15 "TownLisp$Readings" "parts" "[I") (by decide +kernel)) (fun _ h9 => h9) rfl dX0_areSo_51 ?_
        refine lv_iload hx hb dX0_areSo_54 (lv_at hl 6 rfl) ?_
        refine va_iald hx hb hK hP 2 0 rfl rfl (lp_in h0 hr c_9) dX0_areSo_56 ?_
        refine lv_aload_n hx hb dX0_areSo_57 rfl (lv_at hl 2 rfl) ?_
        refine va_get (D := D) (ci := 2) (v := .ref b3) (C := RX2) (T := TX2) (N := 6) hx hb hts iw_X0_areSo_2 hown hK hP 4 rfl rfl 2 (by decide) (hts (.fieldLink RX0 34 "TownLisp$Town" "thick" "[I") (by decide +kernel)) (fun _ h9 => h9) rfl dX0_areSo_58 ?_
        refine lv_iload hx hb dX0_areSo_61 (lv_at hl 0 rfl) ?_
        refine va_iald hx hb hK hP 7 0 rfl rfl (hq _ (cl_lt h0 c_9)) dX0_areSo_63 ?_
        refine kc_SN (As := [.int ((T_kind T) ((R_person R) x5.toNatClampNeg).toNatClampNeg), .int ((R_parts R) x5.toNatClampNeg), .int ((T_thick T) ((R_person R) x5.toNatClampNeg).toNatClampNeg)]) (rest := []) B (c_X3_says l D cI cO tF ((T_kind T) ((R_person R) x5.toNatClampNeg).toNatClampNeg) ((R_parts R) x5.toNatClampNeg) ((T_thick T) ((R_person R) x5.toNatClampNeg).toNatClampNeg) ) ⟨va_cnB (host := RX3) 3 hts gX0_areSo_X3_says_n25 rfl rfl rfl hE.2.1.2.2 (hts (.initialized RX3) (by decide +kernel)) (by decide +kernel) ⟨Nat.le_of_ble_eq_true rfl, Nat.le_of_ble_eq_true rfl⟩, hts (.static yX3_says) (by decide +kernel), trivial⟩ hP hD hS [] rfl (by decide) (w' := wR a0 a1 a2 a3 cI R ++ wT b0 b1 b2 b3 cI T) rfl rfl rfl hl.1 rfl (Nat.le_of_ble_eq_true rfl) dX0_areSo_64 ⟨Nat.zero_le _, Nat.zero_le _⟩ (fun H locs hP hD hS => ?_)
        have hD : va_D A (wR a0 a1 a2 a3 cI R ++ wT b0 b1 b2 b3 cI T) := hD
        refine lv_istore (lv' := [(7, .int (f_X3_says ((T_kind T) ((R_person R) x5.toNatClampNeg).toNatClampNeg) ((R_parts R) x5.toNatClampNeg) ((T_thick T) ((R_person R) x5.toNatClampNeg).toNatClampNeg))), (6, .int ((R_person R) x5.toNatClampNeg)), (0, .ref a0), (1, .ref b0), (2, .int x2), (3, .int x3), (4, .int x4), (5, .int x5)]) hx hb dX0_areSo_67 hl (by decide) rfl (fun ls hl => ?_)
        refine lv_iload hx hb dX0_areSo_69 (lv_at hl 0 rfl) ?_
        refine lv_aload_n hx hb dX0_areSo_71 rfl (lv_at hl 2 rfl) ?_
        refine va_get (D := D) (ci := 0) (v := .ref a3) (C := RX0) (T := TX0) (N := 4) hx hb hts iw_X0_areSo_0 hown hK hP 0 rfl rfl 2 (by decide) (hts (.fieldLink RX0 18 "TownLisp$Readings" "amount" "[I") (by decide +kernel)) (fun _ h9 => h9) rfl dX0_areSo_72 ?_
        refine lv_iload hx hb dX0_areSo_75 (lv_at hl 7 rfl) ?_
        refine va_iald hx hb hK hP 3 0 rfl rfl (lp_in h0 hr c_9) dX0_areSo_77 ?_
        refine lv_icmp_eq (tgt := 83) hx hb dX0_areSo_78 (by decide) (fun c_78 => ?_) (fun c_78 => ?_)
        · refine lv_iinc (v := (x5 + (1 : Int32))) (lv' := [(5, .int (x5 + (1 : Int32))), (7, .int (f_X3_says ((T_kind T) ((R_person R) x5.toNatClampNeg).toNatClampNeg) ((R_parts R) x5.toNatClampNeg) ((T_thick T) ((R_person R) x5.toNatClampNeg).toNatClampNeg))), (6, .int ((R_person R) x5.toNatClampNeg)), (0, .ref a0), (1, .ref b0), (2, .int x2), (3, .int x3), (4, .int x4)]) hx hb dX0_areSo_83 hl (k := 7) rfl rfl (by decide) rfl (fun ls hl => ?_)
          refine lv_goto (tgt := 3) hx hb dX0_areSo_86 (by decide) ?_
          have hF : fL_X0_areSo_3 R T x2 x3 x4 (k + 1) x5 = fL_X0_areSo_3 R T x2 x3 x4 k (x5 + (1 : Int32)) := by rw [fL_X0_areSo_3, if_neg c_9, if_neg c_24, if_pos c_78]
          rw [hF]
          exact ih (x5 + (1 : Int32)) (lp_pre h0 c_9) (lp_mu h0 c_9 hk) _ _ hP hD hS ls (lv_sub hl [3, 4, 5, 6, 7, 0] rfl)
        · refine lv_iconst (v := (0 : Int32)) hx hb dX0_areSo_81 (by decide) ?_
          have hF : fL_X0_areSo_3 R T x2 x3 x4 (k + 1) x5 = (0 : Int32) := by rw [fL_X0_areSo_3, if_neg c_9, if_neg c_24, if_neg c_78]
          rw [hF]
          exact kr_z B hP hS rfl rfl (Or.inl rfl) dX0_areSo_82
      · refine lv_iload_n hx hb dX0_areSo_27 rfl (lv_at hl 4 rfl) ?_
        refine lv_aload_n hx hb dX0_areSo_28 rfl (lv_at hl 1 rfl) ?_
        refine va_get (D := D) (ci := 0) (v := .ref a2) (C := RX0) (T := TX0) (N := 4) hx hb hts iw_X0_areSo_0 hown hK hP 0 rfl rfl 1 (by decide) (hts (.fieldLink RX0 15 "TownLisp$Readings" "parts" "[I") (by decide +kernel)) (fun _ h9 => h9) rfl dX0_areSo_29 ?_
        refine lv_iload hx hb dX0_areSo_32 (lv_at hl 6 rfl) ?_
        refine va_iald hx hb hK hP 2 0 rfl rfl (lp_in h0 hr c_9) dX0_areSo_34 ?_
        refine lv_iload hx hb dX0_areSo_35 (lv_at hl 5 rfl) ?_
        refine kc_SN (As := [.int x3, .int ((R_parts R) x5.toNatClampNeg), .int x4]) (rest := []) B (c_X3_says l D cI cO tF x3 ((R_parts R) x5.toNatClampNeg) x4 ) ⟨va_cnB (host := RX3) 3 hts gX0_areSo_X3_says_n25 rfl rfl rfl hE.2.1.2.2 (hts (.initialized RX3) (by decide +kernel)) (by decide +kernel) ⟨Nat.le_of_ble_eq_true rfl, Nat.le_of_ble_eq_true rfl⟩, hts (.static yX3_says) (by decide +kernel), trivial⟩ hP hD hS [] rfl (by decide) (w' := wR a0 a1 a2 a3 cI R ++ wT b0 b1 b2 b3 cI T) rfl rfl rfl hl.1 rfl (Nat.le_of_ble_eq_true rfl) dX0_areSo_37 ⟨Nat.zero_le _, Nat.zero_le _⟩ (fun H locs hP hD hS => ?_)
        have hD : va_D A (wR a0 a1 a2 a3 cI R ++ wT b0 b1 b2 b3 cI T) := hD
        refine lv_goto (tgt := 67) hx hb dX0_areSo_40 (by decide) ?_
        refine lv_istore (lv' := [(7, .int (f_X3_says x3 ((R_parts R) x5.toNatClampNeg) x4)), (6, .int ((R_person R) x5.toNatClampNeg)), (0, .ref a0), (1, .ref b0), (2, .int x2), (3, .int x3), (4, .int x4), (5, .int x5)]) hx hb dX0_areSo_67 hl (by decide) rfl (fun ls hl => ?_)
        refine lv_iload hx hb dX0_areSo_69 (lv_at hl 0 rfl) ?_
        refine lv_aload_n hx hb dX0_areSo_71 rfl (lv_at hl 2 rfl) ?_
        refine va_get (D := D) (ci := 0) (v := .ref a3) (C := RX0) (T := TX0) (N := 4) hx hb hts iw_X0_areSo_0 hown hK hP 0 rfl rfl 2 (by decide) (hts (.fieldLink RX0 18 "TownLisp$Readings" "amount" "[I") (by decide +kernel)) (fun _ h9 => h9) rfl dX0_areSo_72 ?_
        refine lv_iload hx hb dX0_areSo_75 (lv_at hl 7 rfl) ?_
        refine va_iald hx hb hK hP 3 0 rfl rfl (lp_in h0 hr c_9) dX0_areSo_77 ?_
        refine lv_icmp_eq (tgt := 83) hx hb dX0_areSo_78 (by decide) (fun c_78 => ?_) (fun c_78 => ?_)
        · refine lv_iinc (v := (x5 + (1 : Int32))) (lv' := [(5, .int (x5 + (1 : Int32))), (7, .int (f_X3_says x3 ((R_parts R) x5.toNatClampNeg) x4)), (6, .int ((R_person R) x5.toNatClampNeg)), (0, .ref a0), (1, .ref b0), (2, .int x2), (3, .int x3), (4, .int x4)]) hx hb dX0_areSo_83 hl (k := 7) rfl rfl (by decide) rfl (fun ls hl => ?_)
          refine lv_goto (tgt := 3) hx hb dX0_areSo_86 (by decide) ?_
          have hF : fL_X0_areSo_3 R T x2 x3 x4 (k + 1) x5 = fL_X0_areSo_3 R T x2 x3 x4 k (x5 + (1 : Int32)) := by rw [fL_X0_areSo_3, if_neg c_9, if_pos c_24, if_pos c_78]
          rw [hF]
          exact ih (x5 + (1 : Int32)) (lp_pre h0 c_9) (lp_mu h0 c_9 hk) _ _ hP hD hS ls (lv_sub hl [3, 4, 5, 6, 7, 0] rfl)
        · refine lv_iconst (v := (0 : Int32)) hx hb dX0_areSo_81 (by decide) ?_
          have hF : fL_X0_areSo_3 R T x2 x3 x4 (k + 1) x5 = (0 : Int32) := by rw [fL_X0_areSo_3, if_neg c_9, if_pos c_24, if_neg c_78]
          rw [hF]
          exact kr_z B hP hS rfl rfl (Or.inl rfl) dX0_areSo_82
set_option maxHeartbeats 4000000 in
set_option maxRecDepth 100000 in
theorem c_X0_areSo (l : Launch) (D : va_G) (cI cO : ClassId) (tF : Nat) (a0 a1 a2 a3 : Nat) (b0 b1 b2 b3 : Nat) (R : RD) (T : TN) (x2 : Int32) (x3 : Int32) (x4 : Int32) (hr : (R_count R).toInt ≤ 8) (hq : ∀ r : Nat, (r : Int) < (R_count R).toInt → vp_in (R_person R r) 6) : Ct l yX0_areSo wsX0_areSo ({ frames := 2, cells := 0, slots := 0, locals := 47 }) D cI cO tF [.ref a0, .ref b0, .int x2, .int x3, .int x4] (wR a0 a1 a2 a3 cI R ++ wT b0 b1 b2 b3 cI T) (some (.int (f_X0_areSo R T x2 x3 x4))) (wR a0 a1 a2 a3 cI R ++ wT b0 b1 b2 b3 cI T) := by
  refine Ct.of (cc := cX0_areSo) (maxL := 8) (ret := (some .boolean)) (own := RX0) (by decide) rfl rfl (Nat.le_of_ble_eq_true rfl) ?_
  intro p e s m args below meth c A ls B hP hD hS hl
  obtain ⟨hx, hb, hret, hml, hts, hown, hlocks, hE, hA⟩ := id B
  have hK := hE.1
  have hl : lv_has ls 8 [(0, .ref a0), (1, .ref b0), (2, .int x2), (3, .int x3), (4, .int x4)] := hl
  refine lv_iconst (v := (0 : Int32)) hx hb dX0_areSo_0 (by decide) ?_
  refine lv_istore (lv' := [(5, .int (0 : Int32)), (0, .ref a0), (1, .ref b0), (2, .int x2), (3, .int x3), (4, .int x4)]) hx hb dX0_areSo_1 hl (by decide) rfl (fun ls hl => ?_)
  have hF : f_X0_areSo R T x2 x3 x4 = fL_X0_areSo_3 R T x2 x3 x4 9 (0 : Int32) := by rw [f_X0_areSo]
  rw [hF]
  exact L_X0_areSo_3 l D cI cO tF a0 a1 a2 a3 b0 b1 b2 b3 R T x2 x3 x4 hr hq B  9 (0 : Int32) (Int.le_refl _) (by rw [show (0 : Int32).toInt = 0 from rfl]; omega) _ _ hP hD hS ls (lv_sub hl [1, 2, 3, 4, 5, 0] rfl)
def f_X2_kindOf (x0 : Int32) : Int32 := (if x0 = (111 : Int32) then (0 : Int32) else (if x0 = (115 : Int32) then (1 : Int32) else (2 : Int32)))
set_option maxHeartbeats 4000000 in
set_option maxRecDepth 100000 in
theorem c_X2_kindOf (l : Launch) (D : va_G) (cI cO : ClassId) (tF : Nat) (x0 : Int32) : Ct l yX2_kindOf wsX2_kindOf ({ frames := 0, cells := 0, slots := 0, locals := 0 }) D cI cO tF [.int x0] ([]) (some (.int (f_X2_kindOf x0))) ([]) := by
  refine Ct.of (cc := cX2_kindOf) (maxL := 1) (ret := (some .int)) (own := RX2) (by decide) rfl rfl (Nat.le_of_ble_eq_true rfl) ?_
  intro p e s m args below meth c A ls B hP hD hS hl
  obtain ⟨hx, hb, hret, hml, hts, hown, hlocks, hE, hA⟩ := id B
  have hK := hE.1
  have hl : lv_has ls 1 [(0, .int x0)] := hl
  refine lv_iload_n hx hb dX2_kindOf_0 rfl (lv_at hl 0 rfl) ?_
  refine lv_bipush (v := (111 : Int32)) hx hb dX2_kindOf_1 (by decide) ?_
  refine lv_icmp_ne (tgt := 8) hx hb dX2_kindOf_3 (by decide) (fun c_3 => ?_) (fun c_3 => ?_)
  · refine lv_iload_n hx hb dX2_kindOf_8 rfl (lv_at hl 0 rfl) ?_
    refine lv_bipush (v := (115 : Int32)) hx hb dX2_kindOf_9 (by decide) ?_
    refine lv_icmp_ne (tgt := 18) hx hb dX2_kindOf_11 (by decide) (fun c_11 => ?_) (fun c_11 => ?_)
    · refine lv_iconst (v := (2 : Int32)) hx hb dX2_kindOf_18 (by decide) ?_
      have hF : f_X2_kindOf x0 = (2 : Int32) := by rw [f_X2_kindOf, if_neg c_3, if_neg c_11]
      rw [hF]
      exact kr_i B hP hS rfl rfl dX2_kindOf_19
    · refine lv_iconst (v := (1 : Int32)) hx hb dX2_kindOf_14 (by decide) ?_
      refine lv_goto (tgt := 19) hx hb dX2_kindOf_15 (by decide) ?_
      have hF : f_X2_kindOf x0 = (1 : Int32) := by rw [f_X2_kindOf, if_neg c_3, if_pos c_11]
      rw [hF]
      exact kr_i B hP hS rfl rfl dX2_kindOf_19
  · refine lv_iconst (v := (0 : Int32)) hx hb dX2_kindOf_6 (by decide) ?_
    have hF : f_X2_kindOf x0 = (0 : Int32) := by rw [f_X2_kindOf, if_pos c_3]
    rw [hF]
    exact kr_i B hP hS rfl rfl dX2_kindOf_7
def f_X2_twoDigits (S : SH) (x1 : Int32) : Int32 := ((((10 : Int32) * ((f_X1_at S x1) - (48 : Int32))) + (f_X1_at S (x1 + (1 : Int32)))) - (48 : Int32))
set_option maxHeartbeats 4000000 in
set_option maxRecDepth 100000 in
theorem c_X2_twoDigits (l : Launch) (D : va_G) (cI cO : ClassId) (tF : Nat) (a0 a1 : Nat) (S : SH) (x1 : Int32) : Ct l yX2_twoDigits wsX2_twoDigits ({ frames := 1, cells := 0, slots := 0, locals := 21 }) D cI cO tF [.ref a0, .int x1] (wS a0 a1 cI S) (some (.int (f_X2_twoDigits S x1))) (wS a0 a1 cI S) := by
  refine Ct.of (cc := cX2_twoDigits) (maxL := 2) (ret := (some .int)) (own := RX2) (by decide) rfl rfl (Nat.le_of_ble_eq_true rfl) ?_
  intro p e s m args below meth c A ls B hP hD hS hl
  obtain ⟨hx, hb, hret, hml, hts, hown, hlocks, hE, hA⟩ := id B
  have hK := hE.1
  have hl : lv_has ls 2 [(0, .ref a0), (1, .int x1)] := hl
  refine lv_bipush (v := (10 : Int32)) hx hb dX2_twoDigits_0 (by decide) ?_
  refine lv_aload_n hx hb dX2_twoDigits_2 rfl (lv_at hl 0 rfl) ?_
  refine lv_iload_n hx hb dX2_twoDigits_3 rfl (lv_at hl 1 rfl) ?_
  refine kc_V (As := [.int x1]) (rest := [.int (10 : Int32)]) B (c_X1_at l D cI cO tF a0 a1 S x1 ) (cwV 1 hts gX2_twoDigits_X1_at rfl rfl rfl (by decide +kernel) ⟨Nat.le_of_ble_eq_true rfl, Nat.le_of_ble_eq_true rfl⟩) hP hD hS [0, 1] rfl (by decide) (w' := wS a0 a1 cI S) rfl rfl 0 1 rfl rfl rfl rfl hl.1 rfl (Nat.le_of_ble_eq_true rfl) dX2_twoDigits_4 ⟨Nat.zero_le _, Nat.zero_le _⟩ (fun H locs hP hD hS => ?_)
  have hD : va_D A (wS a0 a1 cI S) := hD
  refine lv_bipush (v := (48 : Int32)) hx hb dX2_twoDigits_7 (by decide) ?_
  refine lv_isub hx hb dX2_twoDigits_9 ?_
  refine lv_imul hx hb dX2_twoDigits_10 ?_
  refine lv_aload_n hx hb dX2_twoDigits_11 rfl (lv_at hl 0 rfl) ?_
  refine lv_iload_n hx hb dX2_twoDigits_12 rfl (lv_at hl 1 rfl) ?_
  refine lv_iconst (v := (1 : Int32)) hx hb dX2_twoDigits_13 (by decide) ?_
  refine lv_iadd hx hb dX2_twoDigits_14 ?_
  refine kc_V (As := [.int (x1 + (1 : Int32))]) (rest := [.int ((10 : Int32) * ((f_X1_at S x1) - (48 : Int32)))]) B (c_X1_at l D cI cO tF a0 a1 S (x1 + (1 : Int32)) ) (cwV 1 hts gX2_twoDigits_X1_at rfl rfl rfl (by decide +kernel) ⟨Nat.le_of_ble_eq_true rfl, Nat.le_of_ble_eq_true rfl⟩) hP hD hS [0, 1] rfl (by decide) (w' := wS a0 a1 cI S) rfl rfl 0 1 rfl rfl rfl rfl hl.1 rfl (Nat.le_of_ble_eq_true rfl) dX2_twoDigits_15 ⟨Nat.zero_le _, Nat.zero_le _⟩ (fun H locs hP hD hS => ?_)
  have hD : va_D A (wS a0 a1 cI S) := hD
  refine lv_iadd hx hb dX2_twoDigits_18 ?_
  refine lv_bipush (v := (48 : Int32)) hx hb dX2_twoDigits_19 (by decide) ?_
  refine lv_isub hx hb dX2_twoDigits_21 ?_
  have hF : f_X2_twoDigits S x1 = ((((10 : Int32) * ((f_X1_at S x1) - (48 : Int32))) + (f_X1_at S (x1 + (1 : Int32)))) - (48 : Int32)) := by rw [f_X2_twoDigits]
  rw [hF]
  exact kr_i B hP hS rfl rfl dX2_twoDigits_22
def fL_X2_become_38 (T : TN) (S : SH) (x2 : Int32) (x3 : Int32) : Nat → Int32 → TN → TN
  | 0, _, v_T => v_T
  | k + 1, x4, v_T => (if (T_count v_T) ≤ x4 then v_T else fL_X2_become_38 T S x2 x3 k (x4 + (1 : Int32)) (T_inside' (T_thick' (T_parts' (T_kind' v_T (upd (T_kind v_T) x4.toNatClampNeg (f_X2_kindOf (f_X1_at S (((x2 + (3 : Int32)) + (x4 * (6 : Int32))) + (1 : Int32)))))) (upd (T_parts v_T) x4.toNatClampNeg (f_X2_twoDigits S (((x2 + (3 : Int32)) + (x4 * (6 : Int32))) + (2 : Int32))))) (upd (T_thick v_T) x4.toNatClampNeg ((f_X1_at S (((x2 + (3 : Int32)) + (x4 * (6 : Int32))) + (4 : Int32))) - (48 : Int32)))) ((T_inside v_T) ||| (((f_X1_at S (((x2 + (3 : Int32)) + (x4 * (6 : Int32))) + (5 : Int32))) - (48 : Int32)) <<< (x4 &&& 31)))))
def f_X2_become (T : TN) (S : SH) (x2 : Int32) (x3 : Int32) : TN := fL_X2_become_38 T S x2 x3 7 (0 : Int32) (T_inside' (T_tin' (T_count' T (if (0 : Int32) < (if (6 : Int32) < ((x3 - (3 : Int32)) / (6 : Int32)) then (6 : Int32) else ((x3 - (3 : Int32)) / (6 : Int32))) then (if (6 : Int32) < ((x3 - (3 : Int32)) / (6 : Int32)) then (6 : Int32) else ((x3 - (3 : Int32)) / (6 : Int32))) else (0 : Int32))) (f_X2_twoDigits S (x2 + (1 : Int32)))) (0 : Int32))
theorem iw_X2_become_2 : ∀ w ∈ wsX20, w ∈ wsX2_become := fun _ h => List.mem_cons_of_mem _ (List.mem_append_left _ (List.mem_append_right _ h))
set_option maxHeartbeats 4000000 in
set_option maxRecDepth 100000 in
theorem L_X2_become_38 {p : Program} (l : Launch) {e : Env} {s : State} {m : MethodId} {args : Array Value} {below : List Frame} {meth : Method} {c : Code} {A : Nat → Prop} (D : va_G) (cI cO : ClassId) (tF : Nat) (a0 a1 a2 a3 : Nat) (b0 b1 : Nat) (T : TN) (S : SH) (x2 : Int32) (x3 : Int32) (B : Bx p s m args meth c cX2_become 6 none wsX2_become RX2 D cI cO tF A) : ∀ (k : Nat) (x4 : Int32) (v_T : TN), ((T_count v_T).toInt ≤ 6) → (0 ≤ x4.toInt) → (((T_count v_T).toInt - x4.toInt).toNat < k) → ∀ (H : Heap) (locs : List Loc), va_P D vwCl (wT a0 a1 a2 a3 cI v_T ++ wS b0 b1 cI S) H → va_D A (wT a0 a1 a2 a3 cI v_T ++ wS b0 b1 cI S) → va_S A s.heap H locs → ∀ ls : Array Slot, lv_has ls 6 [(0, .ref a0), (1, .ref b0), (2, .int x2), (3, .int x3), (4, .int x4)] → W p l e ({ frames := 2, cells := 0, slots := 0, locals := 42 }) s m args below meth c H locs 0 0 (MQ below (Qp D none (wT a0 a1 a2 a3 cI (fL_X2_become_38 T S x2 x3 k x4 v_T) ++ wS b0 b1 cI S) A) args s 0 0 A) (F0 m 38 ls []) := by
  obtain ⟨hx, hb, hret, hml, hts, hown, hlocks, hE, hA⟩ := id B
  have hK := hE.1
  intro k
  induction k with
  | zero =>
    intro x4 v_T hc h0 hk
    exact absurd hk (Nat.not_lt_zero _)
  | succ k ih =>
    intro x4 v_T hc h0 hk H locs hP hD hS ls hl
    refine lv_iload hx hb dX2_become_38 (lv_at hl 4 rfl) ?_
    refine lv_aload_n hx hb dX2_become_40 rfl (lv_at hl 0 rfl) ?_
    refine va_get (D := D) (ci := 2) (v := .int (T_count v_T)) (C := RX2) (T := TX2) (N := 6) hx hb hts iw_X2_become_2 hown hK hP 0 rfl rfl 3 (by decide) (hts (.fieldLink RX2 30 "TownLisp$Town" "count" "I") (by decide +kernel)) (fun _ h9 => h9) rfl dX2_become_41 ?_
    refine lv_icmp_ge (tgt := 138) hx hb dX2_become_44 (by decide) (fun c_44 => ?_) (fun c_44 => ?_)
    · have hF : fL_X2_become_38 T S x2 x3 (k + 1) x4 v_T = v_T := by rw [fL_X2_become_38, if_pos c_44]
      rw [hF]
      exact kr_v B hP hS rfl dX2_become_138
    · refine lv_iload_n hx hb dX2_become_47 rfl (lv_at hl 2 rfl) ?_
      refine lv_iconst (v := (3 : Int32)) hx hb dX2_become_48 (by decide) ?_
      refine lv_iadd hx hb dX2_become_49 ?_
      refine lv_iload hx hb dX2_become_50 (lv_at hl 4 rfl) ?_
      refine lv_bipush (v := (6 : Int32)) hx hb dX2_become_52 (by decide) ?_
      refine lv_imul hx hb dX2_become_54 ?_
      refine lv_iadd hx hb dX2_become_55 ?_
      refine lv_istore (lv' := [(5, .int ((x2 + (3 : Int32)) + (x4 * (6 : Int32)))), (0, .ref a0), (1, .ref b0), (2, .int x2), (3, .int x3), (4, .int x4)]) hx hb dX2_become_56 hl (by decide) rfl (fun ls hl => ?_)
      refine lv_aload_n hx hb dX2_become_58 rfl (lv_at hl 1 rfl) ?_
      refine va_get (D := D) (ci := 2) (v := .ref a1) (C := RX2) (T := TX2) (N := 6) hx hb hts iw_X2_become_2 hown hK hP 0 rfl rfl 0 (by decide) (hts (.fieldLink RX2 9 "TownLisp$Town" "kind" "[I") (by decide +kernel)) (fun _ h9 => h9) rfl dX2_become_59 ?_
      refine lv_iload hx hb dX2_become_62 (lv_at hl 5 rfl) ?_
      refine lv_aload_n hx hb dX2_become_64 rfl (lv_at hl 2 rfl) ?_
      refine lv_iload hx hb dX2_become_65 (lv_at hl 0 rfl) ?_
      refine lv_iconst (v := (1 : Int32)) hx hb dX2_become_67 (by decide) ?_
      refine lv_iadd hx hb dX2_become_68 ?_
      refine kc_V (As := [.int (((x2 + (3 : Int32)) + (x4 * (6 : Int32))) + (1 : Int32))]) (rest := [.int x4, .ref a1]) B (c_X1_at l D cI cO tF b0 b1 S (((x2 + (3 : Int32)) + (x4 * (6 : Int32))) + (1 : Int32)) ) (cwV 1 hts gX2_become_X1_at rfl rfl rfl (by decide +kernel) ⟨Nat.le_of_ble_eq_true rfl, Nat.le_of_ble_eq_true rfl⟩) hP hD hS [4, 5] rfl (by decide) (w' := wT a0 a1 a2 a3 cI v_T ++ wS b0 b1 cI S) rfl rfl 4 1 rfl rfl rfl rfl hl.1 rfl (Nat.le_of_ble_eq_true rfl) dX2_become_69 ⟨Nat.zero_le _, Nat.zero_le _⟩ (fun H locs hP hD hS => ?_)
      have hD : va_D A (wT a0 a1 a2 a3 cI v_T ++ wS b0 b1 cI S) := hD
      refine kc_S (As := [.int (f_X1_at S (((x2 + (3 : Int32)) + (x4 * (6 : Int32))) + (1 : Int32)))]) (rest := [.int x4, .ref a1]) B (c_X2_kindOf l D cI cO tF (f_X1_at S (((x2 + (3 : Int32)) + (x4 * (6 : Int32))) + (1 : Int32))) ) (va_cwS 1 hts gX2_become_X2_kindOf rfl rfl rfl (by decide +kernel) ⟨Nat.le_of_ble_eq_true rfl, Nat.le_of_ble_eq_true rfl⟩) hP hD hS [] rfl (by decide) (w' := wT a0 a1 a2 a3 cI v_T ++ wS b0 b1 cI S) rfl rfl rfl hl.1 rfl (Nat.le_of_ble_eq_true rfl) dX2_become_72 ⟨Nat.zero_le _, Nat.zero_le _⟩ (fun H locs hP hD hS => ?_)
      have hD : va_D A (wT a0 a1 a2 a3 cI v_T ++ wS b0 b1 cI S) := hD
      refine va_iast hx hb hK hP hD hS 1 0 rfl rfl (lp_in h0 hc c_44) dX2_become_75 (fun H locs hP hD hS => ?_)
      have hP : va_P D vwCl (wT a0 a1 a2 a3 cI (T_kind' v_T (upd (T_kind v_T) x4.toNatClampNeg (f_X2_kindOf (f_X1_at S (((x2 + (3 : Int32)) + (x4 * (6 : Int32))) + (1 : Int32)))))) ++ wS b0 b1 cI S) H := hP
      have hD : va_D A (wT a0 a1 a2 a3 cI (T_kind' v_T (upd (T_kind v_T) x4.toNatClampNeg (f_X2_kindOf (f_X1_at S (((x2 + (3 : Int32)) + (x4 * (6 : Int32))) + (1 : Int32)))))) ++ wS b0 b1 cI S) := hD
      refine lv_aload_n hx hb dX2_become_76 rfl (lv_at hl 1 rfl) ?_
      refine va_get (D := D) (ci := 2) (v := .ref a2) (C := RX2) (T := TX2) (N := 6) hx hb hts iw_X2_become_2 hown hK hP 0 rfl rfl 1 (by decide) (hts (.fieldLink RX2 15 "TownLisp$Town" "parts" "[I") (by decide +kernel)) (fun _ h9 => h9) rfl dX2_become_77 ?_
      refine lv_iload hx hb dX2_become_80 (lv_at hl 5 rfl) ?_
      refine lv_aload_n hx hb dX2_become_82 rfl (lv_at hl 2 rfl) ?_
      refine lv_iload hx hb dX2_become_83 (lv_at hl 0 rfl) ?_
      refine lv_iconst (v := (2 : Int32)) hx hb dX2_become_85 (by decide) ?_
      refine lv_iadd hx hb dX2_become_86 ?_
      refine kc_S (As := [.ref b0, .int (((x2 + (3 : Int32)) + (x4 * (6 : Int32))) + (2 : Int32))]) (rest := [.int x4, .ref a2]) B (c_X2_twoDigits l D cI cO tF b0 b1 S (((x2 + (3 : Int32)) + (x4 * (6 : Int32))) + (2 : Int32)) ) (va_cwS 2 hts gX2_become_X2_twoDigits rfl rfl rfl (by decide +kernel) ⟨Nat.le_of_ble_eq_true rfl, Nat.le_of_ble_eq_true rfl⟩) hP hD hS [4, 5] rfl (by decide) (w' := wT a0 a1 a2 a3 cI (T_kind' v_T (upd (T_kind v_T) x4.toNatClampNeg (f_X2_kindOf (f_X1_at S (((x2 + (3 : Int32)) + (x4 * (6 : Int32))) + (1 : Int32)))))) ++ wS b0 b1 cI S) rfl rfl rfl hl.1 rfl (Nat.le_of_ble_eq_true rfl) dX2_become_87 ⟨Nat.zero_le _, Nat.zero_le _⟩ (fun H locs hP hD hS => ?_)
      have hD : va_D A (wT a0 a1 a2 a3 cI (T_kind' v_T (upd (T_kind v_T) x4.toNatClampNeg (f_X2_kindOf (f_X1_at S (((x2 + (3 : Int32)) + (x4 * (6 : Int32))) + (1 : Int32)))))) ++ wS b0 b1 cI S) := hD
      refine va_iast hx hb hK hP hD hS 2 0 rfl rfl (lp_in h0 hc c_44) dX2_become_90 (fun H locs hP hD hS => ?_)
      have hP : va_P D vwCl (wT a0 a1 a2 a3 cI (T_parts' (T_kind' v_T (upd (T_kind v_T) x4.toNatClampNeg (f_X2_kindOf (f_X1_at S (((x2 + (3 : Int32)) + (x4 * (6 : Int32))) + (1 : Int32)))))) (upd (T_parts v_T) x4.toNatClampNeg (f_X2_twoDigits S (((x2 + (3 : Int32)) + (x4 * (6 : Int32))) + (2 : Int32))))) ++ wS b0 b1 cI S) H := hP
      have hD : va_D A (wT a0 a1 a2 a3 cI (T_parts' (T_kind' v_T (upd (T_kind v_T) x4.toNatClampNeg (f_X2_kindOf (f_X1_at S (((x2 + (3 : Int32)) + (x4 * (6 : Int32))) + (1 : Int32)))))) (upd (T_parts v_T) x4.toNatClampNeg (f_X2_twoDigits S (((x2 + (3 : Int32)) + (x4 * (6 : Int32))) + (2 : Int32))))) ++ wS b0 b1 cI S) := hD
      refine lv_aload_n hx hb dX2_become_91 rfl (lv_at hl 1 rfl) ?_
      refine va_get (D := D) (ci := 2) (v := .ref a3) (C := RX2) (T := TX2) (N := 6) hx hb hts iw_X2_become_2 hown hK hP 0 rfl rfl 2 (by decide) (hts (.fieldLink RX2 18 "TownLisp$Town" "thick" "[I") (by decide +kernel)) (fun _ h9 => h9) rfl dX2_become_92 ?_
      refine lv_iload hx hb dX2_become_95 (lv_at hl 5 rfl) ?_
      refine lv_aload_n hx hb dX2_become_97 rfl (lv_at hl 2 rfl) ?_
      refine lv_iload hx hb dX2_become_98 (lv_at hl 0 rfl) ?_
      refine lv_iconst (v := (4 : Int32)) hx hb dX2_become_100 (by decide) ?_
      refine lv_iadd hx hb dX2_become_101 ?_
      refine kc_V (As := [.int (((x2 + (3 : Int32)) + (x4 * (6 : Int32))) + (4 : Int32))]) (rest := [.int x4, .ref a3]) B (c_X1_at l D cI cO tF b0 b1 S (((x2 + (3 : Int32)) + (x4 * (6 : Int32))) + (4 : Int32)) ) (cwV 1 hts gX2_become_X1_at rfl rfl rfl (by decide +kernel) ⟨Nat.le_of_ble_eq_true rfl, Nat.le_of_ble_eq_true rfl⟩) hP hD hS [4, 5] rfl (by decide) (w' := wT a0 a1 a2 a3 cI (T_parts' (T_kind' v_T (upd (T_kind v_T) x4.toNatClampNeg (f_X2_kindOf (f_X1_at S (((x2 + (3 : Int32)) + (x4 * (6 : Int32))) + (1 : Int32)))))) (upd (T_parts v_T) x4.toNatClampNeg (f_X2_twoDigits S (((x2 + (3 : Int32)) + (x4 * (6 : Int32))) + (2 : Int32))))) ++ wS b0 b1 cI S) rfl rfl 4 1 rfl rfl rfl rfl hl.1 rfl (Nat.le_of_ble_eq_true rfl) dX2_become_102 ⟨Nat.zero_le _, Nat.zero_le _⟩ (fun H locs hP hD hS => ?_)
      have hD : va_D A (wT a0 a1 a2 a3 cI (T_parts' (T_kind' v_T (upd (T_kind v_T) x4.toNatClampNeg (f_X2_kindOf (f_X1_at S (((x2 + (3 : Int32)) + (x4 * (6 : Int32))) + (1 : Int32)))))) (upd (T_parts v_T) x4.toNatClampNeg (f_X2_twoDigits S (((x2 + (3 : Int32)) + (x4 * (6 : Int32))) + (2 : Int32))))) ++ wS b0 b1 cI S) := hD
      refine lv_bipush (v := (48 : Int32)) hx hb dX2_become_105 (by decide) ?_
      refine lv_isub hx hb dX2_become_107 ?_
      refine va_iast hx hb hK hP hD hS 3 0 rfl rfl (lp_in h0 hc c_44) dX2_become_108 (fun H locs hP hD hS => ?_)
      have hP : va_P D vwCl (wT a0 a1 a2 a3 cI (T_thick' (T_parts' (T_kind' v_T (upd (T_kind v_T) x4.toNatClampNeg (f_X2_kindOf (f_X1_at S (((x2 + (3 : Int32)) + (x4 * (6 : Int32))) + (1 : Int32)))))) (upd (T_parts v_T) x4.toNatClampNeg (f_X2_twoDigits S (((x2 + (3 : Int32)) + (x4 * (6 : Int32))) + (2 : Int32))))) (upd (T_thick v_T) x4.toNatClampNeg ((f_X1_at S (((x2 + (3 : Int32)) + (x4 * (6 : Int32))) + (4 : Int32))) - (48 : Int32)))) ++ wS b0 b1 cI S) H := hP
      have hD : va_D A (wT a0 a1 a2 a3 cI (T_thick' (T_parts' (T_kind' v_T (upd (T_kind v_T) x4.toNatClampNeg (f_X2_kindOf (f_X1_at S (((x2 + (3 : Int32)) + (x4 * (6 : Int32))) + (1 : Int32)))))) (upd (T_parts v_T) x4.toNatClampNeg (f_X2_twoDigits S (((x2 + (3 : Int32)) + (x4 * (6 : Int32))) + (2 : Int32))))) (upd (T_thick v_T) x4.toNatClampNeg ((f_X1_at S (((x2 + (3 : Int32)) + (x4 * (6 : Int32))) + (4 : Int32))) - (48 : Int32)))) ++ wS b0 b1 cI S) := hD
      refine lv_aload_n hx hb dX2_become_109 rfl (lv_at hl 1 rfl) ?_
      refine lv_dup hx hb dX2_become_110 rfl ?_
      refine va_get (D := D) (ci := 2) (v := .int (T_inside v_T)) (C := RX2) (T := TX2) (N := 6) hx hb hts iw_X2_become_2 hown hK hP 0 rfl rfl 4 (by decide) (hts (.fieldLink RX2 41 "TownLisp$Town" "inside" "I") (by decide +kernel)) (fun _ h9 => h9) rfl dX2_become_111 ?_
      refine lv_aload_n hx hb dX2_become_114 rfl (lv_at hl 2 rfl) ?_
      refine lv_iload hx hb dX2_become_115 (lv_at hl 0 rfl) ?_
      refine lv_iconst (v := (5 : Int32)) hx hb dX2_become_117 (by decide) ?_
      refine lv_iadd hx hb dX2_become_118 ?_
      refine kc_V (As := [.int (((x2 + (3 : Int32)) + (x4 * (6 : Int32))) + (5 : Int32))]) (rest := [.int (T_inside v_T), .ref a0]) B (c_X1_at l D cI cO tF b0 b1 S (((x2 + (3 : Int32)) + (x4 * (6 : Int32))) + (5 : Int32)) ) (cwV 1 hts gX2_become_X1_at rfl rfl rfl (by decide +kernel) ⟨Nat.le_of_ble_eq_true rfl, Nat.le_of_ble_eq_true rfl⟩) hP hD hS [4, 5] rfl (by decide) (w' := wT a0 a1 a2 a3 cI (T_thick' (T_parts' (T_kind' v_T (upd (T_kind v_T) x4.toNatClampNeg (f_X2_kindOf (f_X1_at S (((x2 + (3 : Int32)) + (x4 * (6 : Int32))) + (1 : Int32)))))) (upd (T_parts v_T) x4.toNatClampNeg (f_X2_twoDigits S (((x2 + (3 : Int32)) + (x4 * (6 : Int32))) + (2 : Int32))))) (upd (T_thick v_T) x4.toNatClampNeg ((f_X1_at S (((x2 + (3 : Int32)) + (x4 * (6 : Int32))) + (4 : Int32))) - (48 : Int32)))) ++ wS b0 b1 cI S) rfl rfl 4 1 rfl rfl rfl rfl hl.1 rfl (Nat.le_of_ble_eq_true rfl) dX2_become_119 ⟨Nat.zero_le _, Nat.zero_le _⟩ (fun H locs hP hD hS => ?_)
      have hD : va_D A (wT a0 a1 a2 a3 cI (T_thick' (T_parts' (T_kind' v_T (upd (T_kind v_T) x4.toNatClampNeg (f_X2_kindOf (f_X1_at S (((x2 + (3 : Int32)) + (x4 * (6 : Int32))) + (1 : Int32)))))) (upd (T_parts v_T) x4.toNatClampNeg (f_X2_twoDigits S (((x2 + (3 : Int32)) + (x4 * (6 : Int32))) + (2 : Int32))))) (upd (T_thick v_T) x4.toNatClampNeg ((f_X1_at S (((x2 + (3 : Int32)) + (x4 * (6 : Int32))) + (4 : Int32))) - (48 : Int32)))) ++ wS b0 b1 cI S) := hD
      refine lv_bipush (v := (48 : Int32)) hx hb dX2_become_122 (by decide) ?_
      refine lv_isub hx hb dX2_become_124 ?_
      refine lv_iload hx hb dX2_become_125 (lv_at hl 5 rfl) ?_
      refine lv_ishl hx hb dX2_become_127 ?_
      refine lv_ior hx hb dX2_become_128 ?_
      refine va_put (D := D) (ci := 2) (v := .int ((T_inside v_T) ||| (((f_X1_at S (((x2 + (3 : Int32)) + (x4 * (6 : Int32))) + (5 : Int32))) - (48 : Int32)) <<< (x4 &&& 31)))) (ty := .int) (C := RX2) (T := TX2) (N := 6) hx hb hts iw_X2_become_2 tyX2 tyX2_ok nmX2 hown hK hP hD hS 0 rfl rfl 4 (by decide) (hts (.fieldLink RX2 41 "TownLisp$Town" "inside" "I") (by decide +kernel)) (fun _ h9 => h9) rfl (by decide +kernel) rfl rfl (Nat.le_of_ble_eq_true rfl) dX2_become_129 (fun H locs hP hD hS => ?_)
      have hP : va_P D vwCl (wT a0 a1 a2 a3 cI (T_inside' (T_thick' (T_parts' (T_kind' v_T (upd (T_kind v_T) x4.toNatClampNeg (f_X2_kindOf (f_X1_at S (((x2 + (3 : Int32)) + (x4 * (6 : Int32))) + (1 : Int32)))))) (upd (T_parts v_T) x4.toNatClampNeg (f_X2_twoDigits S (((x2 + (3 : Int32)) + (x4 * (6 : Int32))) + (2 : Int32))))) (upd (T_thick v_T) x4.toNatClampNeg ((f_X1_at S (((x2 + (3 : Int32)) + (x4 * (6 : Int32))) + (4 : Int32))) - (48 : Int32)))) ((T_inside v_T) ||| (((f_X1_at S (((x2 + (3 : Int32)) + (x4 * (6 : Int32))) + (5 : Int32))) - (48 : Int32)) <<< (x4 &&& 31)))) ++ wS b0 b1 cI S) H := hP
      have hD : va_D A (wT a0 a1 a2 a3 cI (T_inside' (T_thick' (T_parts' (T_kind' v_T (upd (T_kind v_T) x4.toNatClampNeg (f_X2_kindOf (f_X1_at S (((x2 + (3 : Int32)) + (x4 * (6 : Int32))) + (1 : Int32)))))) (upd (T_parts v_T) x4.toNatClampNeg (f_X2_twoDigits S (((x2 + (3 : Int32)) + (x4 * (6 : Int32))) + (2 : Int32))))) (upd (T_thick v_T) x4.toNatClampNeg ((f_X1_at S (((x2 + (3 : Int32)) + (x4 * (6 : Int32))) + (4 : Int32))) - (48 : Int32)))) ((T_inside v_T) ||| (((f_X1_at S (((x2 + (3 : Int32)) + (x4 * (6 : Int32))) + (5 : Int32))) - (48 : Int32)) <<< (x4 &&& 31)))) ++ wS b0 b1 cI S) := hD
      refine lv_iinc (v := (x4 + (1 : Int32))) (lv' := [(4, .int (x4 + (1 : Int32))), (5, .int ((x2 + (3 : Int32)) + (x4 * (6 : Int32)))), (0, .ref a0), (1, .ref b0), (2, .int x2), (3, .int x3)]) hx hb dX2_become_132 hl (k := 5) rfl rfl (by decide) rfl (fun ls hl => ?_)
      refine lv_goto (tgt := 38) hx hb dX2_become_135 (by decide) ?_
      have hF : fL_X2_become_38 T S x2 x3 (k + 1) x4 v_T = fL_X2_become_38 T S x2 x3 k (x4 + (1 : Int32)) (T_inside' (T_thick' (T_parts' (T_kind' v_T (upd (T_kind v_T) x4.toNatClampNeg (f_X2_kindOf (f_X1_at S (((x2 + (3 : Int32)) + (x4 * (6 : Int32))) + (1 : Int32)))))) (upd (T_parts v_T) x4.toNatClampNeg (f_X2_twoDigits S (((x2 + (3 : Int32)) + (x4 * (6 : Int32))) + (2 : Int32))))) (upd (T_thick v_T) x4.toNatClampNeg ((f_X1_at S (((x2 + (3 : Int32)) + (x4 * (6 : Int32))) + (4 : Int32))) - (48 : Int32)))) ((T_inside v_T) ||| (((f_X1_at S (((x2 + (3 : Int32)) + (x4 * (6 : Int32))) + (5 : Int32))) - (48 : Int32)) <<< (x4 &&& 31)))) := by rw [fL_X2_become_38, if_neg c_44]
      rw [hF]
      exact ih (x4 + (1 : Int32)) (T_inside' (T_thick' (T_parts' (T_kind' v_T (upd (T_kind v_T) x4.toNatClampNeg (f_X2_kindOf (f_X1_at S (((x2 + (3 : Int32)) + (x4 * (6 : Int32))) + (1 : Int32)))))) (upd (T_parts v_T) x4.toNatClampNeg (f_X2_twoDigits S (((x2 + (3 : Int32)) + (x4 * (6 : Int32))) + (2 : Int32))))) (upd (T_thick v_T) x4.toNatClampNeg ((f_X1_at S (((x2 + (3 : Int32)) + (x4 * (6 : Int32))) + (4 : Int32))) - (48 : Int32)))) ((T_inside v_T) ||| (((f_X1_at S (((x2 + (3 : Int32)) + (x4 * (6 : Int32))) + (5 : Int32))) - (48 : Int32)) <<< (x4 &&& 31)))) (hc) (lp_pre h0 c_44) (lp_mu h0 c_44 hk) _ _ hP hD hS ls (lv_sub hl [2, 3, 4, 5, 0] rfl)
set_option maxHeartbeats 4000000 in
set_option maxRecDepth 100000 in
theorem c_X2_become (l : Launch) (D : va_G) (cI cO : ClassId) (tF : Nat) (a0 a1 a2 a3 : Nat) (b0 b1 : Nat) (T : TN) (S : SH) (x2 : Int32) (x3 : Int32) : Ct l yX2_become wsX2_become ({ frames := 2, cells := 0, slots := 0, locals := 42 }) D cI cO tF [.ref a0, .ref b0, .int x2, .int x3] (wT a0 a1 a2 a3 cI T ++ wS b0 b1 cI S) none (wT a0 a1 a2 a3 cI (f_X2_become T S x2 x3) ++ wS b0 b1 cI S) := by
  refine Ct.of (cc := cX2_become) (maxL := 6) (ret := none) (own := RX2) (by decide) rfl rfl (Nat.le_of_ble_eq_true rfl) ?_
  intro p e s m args below meth c A ls B hP hD hS hl
  obtain ⟨hx, hb, hret, hml, hts, hown, hlocks, hE, hA⟩ := id B
  have hK := hE.1
  have hl : lv_has ls 6 [(0, .ref a0), (1, .ref b0), (2, .int x2), (3, .int x3)] := hl
  refine lv_aload_n hx hb dX2_become_0 rfl (lv_at hl 0 rfl) ?_
  refine lv_iconst (v := (0 : Int32)) hx hb dX2_become_1 (by decide) ?_
  refine lv_iload_n hx hb dX2_become_2 rfl (lv_at hl 3 rfl) ?_
  refine lv_iconst (v := (3 : Int32)) hx hb dX2_become_3 (by decide) ?_
  refine lv_isub hx hb dX2_become_4 ?_
  refine lv_bipush (v := (6 : Int32)) hx hb dX2_become_5 (by decide) ?_
  refine lv_idiv hx hb dX2_become_7 (by decide) ?_
  refine lv_bipush (v := (6 : Int32)) hx hb dX2_become_8 (by decide) ?_
  refine va_mmin hx hb (hml.trans hl.1.symm) hown (hts (.methodLink RX2 21 Lib.Math.min.name) (by decide +kernel)) (hts (.static Lib.Math.min.name) (by decide +kernel)) (hts (.initialized "java/lang/Math") (by decide +kernel)) (hts (.code Lib.Math.min.name Lib.Math.min.code 2 (some .int)) (by decide +kernel)) (Nat.le_of_ble_eq_true rfl) (Nat.le_of_ble_eq_true rfl) (Nat.zero_le _) (Nat.zero_le _) dX2_become_10 ?_
  refine va_mmax hx hb (hml.trans hl.1.symm) hown (hts (.methodLink RX2 27 Lib.Math.max.name) (by decide +kernel)) (hts (.static Lib.Math.max.name) (by decide +kernel)) (hts (.initialized "java/lang/Math") (by decide +kernel)) (hts (.code Lib.Math.max.name Lib.Math.max.code 2 (some .int)) (by decide +kernel)) (Nat.le_of_ble_eq_true rfl) (Nat.le_of_ble_eq_true rfl) (Nat.zero_le _) (Nat.zero_le _) dX2_become_13 ?_
  refine va_put (D := D) (ci := 2) (v := .int (if (0 : Int32) < (if (6 : Int32) < ((x3 - (3 : Int32)) / (6 : Int32)) then (6 : Int32) else ((x3 - (3 : Int32)) / (6 : Int32))) then (if (6 : Int32) < ((x3 - (3 : Int32)) / (6 : Int32)) then (6 : Int32) else ((x3 - (3 : Int32)) / (6 : Int32))) else (0 : Int32))) (ty := .int) (C := RX2) (T := TX2) (N := 6) hx hb hts iw_X2_become_2 tyX2 tyX2_ok nmX2 hown hK hP hD hS 0 rfl rfl 3 (by decide) (hts (.fieldLink RX2 30 "TownLisp$Town" "count" "I") (by decide +kernel)) (fun _ h9 => h9) rfl (by decide +kernel) rfl rfl (Nat.le_of_ble_eq_true rfl) dX2_become_16 (fun H locs hP hD hS => ?_)
  have hP : va_P D vwCl (wT a0 a1 a2 a3 cI (T_count' T (if (0 : Int32) < (if (6 : Int32) < ((x3 - (3 : Int32)) / (6 : Int32)) then (6 : Int32) else ((x3 - (3 : Int32)) / (6 : Int32))) then (if (6 : Int32) < ((x3 - (3 : Int32)) / (6 : Int32)) then (6 : Int32) else ((x3 - (3 : Int32)) / (6 : Int32))) else (0 : Int32))) ++ wS b0 b1 cI S) H := hP
  have hD : va_D A (wT a0 a1 a2 a3 cI (T_count' T (if (0 : Int32) < (if (6 : Int32) < ((x3 - (3 : Int32)) / (6 : Int32)) then (6 : Int32) else ((x3 - (3 : Int32)) / (6 : Int32))) then (if (6 : Int32) < ((x3 - (3 : Int32)) / (6 : Int32)) then (6 : Int32) else ((x3 - (3 : Int32)) / (6 : Int32))) else (0 : Int32))) ++ wS b0 b1 cI S) := hD
  refine lv_aload_n hx hb dX2_become_19 rfl (lv_at hl 0 rfl) ?_
  refine lv_aload_n hx hb dX2_become_20 rfl (lv_at hl 1 rfl) ?_
  refine lv_iload_n hx hb dX2_become_21 rfl (lv_at hl 2 rfl) ?_
  refine lv_iconst (v := (1 : Int32)) hx hb dX2_become_22 (by decide) ?_
  refine lv_iadd hx hb dX2_become_23 ?_
  refine kc_S (As := [.ref b0, .int (x2 + (1 : Int32))]) (rest := [.ref a0]) B (c_X2_twoDigits l D cI cO tF b0 b1 S (x2 + (1 : Int32)) ) (va_cwS 2 hts gX2_become_X2_twoDigits rfl rfl rfl (by decide +kernel) ⟨Nat.le_of_ble_eq_true rfl, Nat.le_of_ble_eq_true rfl⟩) hP hD hS [4, 5] rfl (by decide) (w' := wT a0 a1 a2 a3 cI (T_count' T (if (0 : Int32) < (if (6 : Int32) < ((x3 - (3 : Int32)) / (6 : Int32)) then (6 : Int32) else ((x3 - (3 : Int32)) / (6 : Int32))) then (if (6 : Int32) < ((x3 - (3 : Int32)) / (6 : Int32)) then (6 : Int32) else ((x3 - (3 : Int32)) / (6 : Int32))) else (0 : Int32))) ++ wS b0 b1 cI S) rfl rfl rfl hl.1 rfl (Nat.le_of_ble_eq_true rfl) dX2_become_24 ⟨Nat.zero_le _, Nat.zero_le _⟩ (fun H locs hP hD hS => ?_)
  have hD : va_D A (wT a0 a1 a2 a3 cI (T_count' T (if (0 : Int32) < (if (6 : Int32) < ((x3 - (3 : Int32)) / (6 : Int32)) then (6 : Int32) else ((x3 - (3 : Int32)) / (6 : Int32))) then (if (6 : Int32) < ((x3 - (3 : Int32)) / (6 : Int32)) then (6 : Int32) else ((x3 - (3 : Int32)) / (6 : Int32))) else (0 : Int32))) ++ wS b0 b1 cI S) := hD
  refine va_put (D := D) (ci := 2) (v := .int (f_X2_twoDigits S (x2 + (1 : Int32)))) (ty := .int) (C := RX2) (T := TX2) (N := 6) hx hb hts iw_X2_become_2 tyX2 tyX2_ok nmX2 hown hK hP hD hS 0 rfl rfl 5 (by decide) (hts (.fieldLink RX2 38 "TownLisp$Town" "tin" "I") (by decide +kernel)) (fun _ h9 => h9) rfl (by decide +kernel) rfl rfl (Nat.le_of_ble_eq_true rfl) dX2_become_27 (fun H locs hP hD hS => ?_)
  have hP : va_P D vwCl (wT a0 a1 a2 a3 cI (T_tin' (T_count' T (if (0 : Int32) < (if (6 : Int32) < ((x3 - (3 : Int32)) / (6 : Int32)) then (6 : Int32) else ((x3 - (3 : Int32)) / (6 : Int32))) then (if (6 : Int32) < ((x3 - (3 : Int32)) / (6 : Int32)) then (6 : Int32) else ((x3 - (3 : Int32)) / (6 : Int32))) else (0 : Int32))) (f_X2_twoDigits S (x2 + (1 : Int32)))) ++ wS b0 b1 cI S) H := hP
  have hD : va_D A (wT a0 a1 a2 a3 cI (T_tin' (T_count' T (if (0 : Int32) < (if (6 : Int32) < ((x3 - (3 : Int32)) / (6 : Int32)) then (6 : Int32) else ((x3 - (3 : Int32)) / (6 : Int32))) then (if (6 : Int32) < ((x3 - (3 : Int32)) / (6 : Int32)) then (6 : Int32) else ((x3 - (3 : Int32)) / (6 : Int32))) else (0 : Int32))) (f_X2_twoDigits S (x2 + (1 : Int32)))) ++ wS b0 b1 cI S) := hD
  refine lv_aload_n hx hb dX2_become_30 rfl (lv_at hl 0 rfl) ?_
  refine lv_iconst (v := (0 : Int32)) hx hb dX2_become_31 (by decide) ?_
  refine va_put (D := D) (ci := 2) (v := .int (0 : Int32)) (ty := .int) (C := RX2) (T := TX2) (N := 6) hx hb hts iw_X2_become_2 tyX2 tyX2_ok nmX2 hown hK hP hD hS 0 rfl rfl 4 (by decide) (hts (.fieldLink RX2 41 "TownLisp$Town" "inside" "I") (by decide +kernel)) (fun _ h9 => h9) rfl (by decide +kernel) rfl rfl (Nat.le_of_ble_eq_true rfl) dX2_become_32 (fun H locs hP hD hS => ?_)
  have hP : va_P D vwCl (wT a0 a1 a2 a3 cI (T_inside' (T_tin' (T_count' T (if (0 : Int32) < (if (6 : Int32) < ((x3 - (3 : Int32)) / (6 : Int32)) then (6 : Int32) else ((x3 - (3 : Int32)) / (6 : Int32))) then (if (6 : Int32) < ((x3 - (3 : Int32)) / (6 : Int32)) then (6 : Int32) else ((x3 - (3 : Int32)) / (6 : Int32))) else (0 : Int32))) (f_X2_twoDigits S (x2 + (1 : Int32)))) (0 : Int32)) ++ wS b0 b1 cI S) H := hP
  have hD : va_D A (wT a0 a1 a2 a3 cI (T_inside' (T_tin' (T_count' T (if (0 : Int32) < (if (6 : Int32) < ((x3 - (3 : Int32)) / (6 : Int32)) then (6 : Int32) else ((x3 - (3 : Int32)) / (6 : Int32))) then (if (6 : Int32) < ((x3 - (3 : Int32)) / (6 : Int32)) then (6 : Int32) else ((x3 - (3 : Int32)) / (6 : Int32))) else (0 : Int32))) (f_X2_twoDigits S (x2 + (1 : Int32)))) (0 : Int32)) ++ wS b0 b1 cI S) := hD
  refine lv_iconst (v := (0 : Int32)) hx hb dX2_become_35 (by decide) ?_
  refine lv_istore (lv' := [(4, .int (0 : Int32)), (0, .ref a0), (1, .ref b0), (2, .int x2), (3, .int x3)]) hx hb dX2_become_36 hl (by decide) rfl (fun ls hl => ?_)
  have hF : f_X2_become T S x2 x3 = fL_X2_become_38 T S x2 x3 7 (0 : Int32) (T_inside' (T_tin' (T_count' T (if (0 : Int32) < (if (6 : Int32) < ((x3 - (3 : Int32)) / (6 : Int32)) then (6 : Int32) else ((x3 - (3 : Int32)) / (6 : Int32))) then (if (6 : Int32) < ((x3 - (3 : Int32)) / (6 : Int32)) then (6 : Int32) else ((x3 - (3 : Int32)) / (6 : Int32))) else (0 : Int32))) (f_X2_twoDigits S (x2 + (1 : Int32)))) (0 : Int32)) := by rw [f_X2_become]
  rw [hF]
  exact L_X2_become_38 l D cI cO tF a0 a1 a2 a3 b0 b1 T S x2 x3  B  7 (0 : Int32) (T_inside' (T_tin' (T_count' T (if (0 : Int32) < (if (6 : Int32) < ((x3 - (3 : Int32)) / (6 : Int32)) then (6 : Int32) else ((x3 - (3 : Int32)) / (6 : Int32))) then (if (6 : Int32) < ((x3 - (3 : Int32)) / (6 : Int32)) then (6 : Int32) else ((x3 - (3 : Int32)) / (6 : Int32))) else (0 : Int32))) (f_X2_twoDigits S (x2 + (1 : Int32)))) (0 : Int32)) (cnt6 _) (Int.le_refl _) (le6_mu (cnt6 _)) _ _ hP hD hS ls (lv_sub hl [1, 2, 3, 4, 0] rfl)
def fL_X2_becomeLike_26 (T : TN) (O : TN) : Nat → Int32 → TN → TN
  | 0, _, v_T => v_T
  | k + 1, x2, v_T => (if (T_count v_T) ≤ x2 then v_T else fL_X2_becomeLike_26 T O k (x2 + (1 : Int32)) (T_thick' (T_parts' (T_kind' v_T (upd (T_kind v_T) x2.toNatClampNeg ((T_kind O) x2.toNatClampNeg))) (upd (T_parts v_T) x2.toNatClampNeg ((T_parts O) x2.toNatClampNeg))) (upd (T_thick v_T) x2.toNatClampNeg ((T_thick O) x2.toNatClampNeg))))
def f_X2_becomeLike (T : TN) (O : TN) : TN := fL_X2_becomeLike_26 T O 7 (0 : Int32) (T_tin' (T_inside' (T_count' T (T_count O)) (T_inside O)) (T_tin O))
theorem iw_X2_becomeLike_2 : ∀ w ∈ wsX20, w ∈ wsX2_becomeLike := fun _ h => List.mem_cons_of_mem _ (List.mem_append_right _ h)
set_option maxHeartbeats 4000000 in
set_option maxRecDepth 100000 in
theorem L_X2_becomeLike_26 {p : Program} (l : Launch) {e : Env} {s : State} {m : MethodId} {args : Array Value} {below : List Frame} {meth : Method} {c : Code} {A : Nat → Prop} (D : va_G) (cI cO : ClassId) (tF : Nat) (a0 a1 a2 a3 : Nat) (b0 b1 b2 b3 : Nat) (T : TN) (O : TN) (ho : (T_count O).toInt ≤ 6) (B : Bx p s m args meth c cX2_becomeLike 3 none wsX2_becomeLike RX2 D cI cO tF A) : ∀ (k : Nat) (x2 : Int32) (v_T : TN), ((T_count v_T).toInt ≤ 6) → (0 ≤ x2.toInt) → (((T_count v_T).toInt - x2.toInt).toNat < k) → ∀ (H : Heap) (locs : List Loc), va_P D vwCl (wT a0 a1 a2 a3 cI v_T ++ wT b0 b1 b2 b3 cI O) H → va_D A (wT a0 a1 a2 a3 cI v_T ++ wT b0 b1 b2 b3 cI O) → va_S A s.heap H locs → ∀ ls : Array Slot, lv_has ls 3 [(0, .ref a0), (1, .ref b0), (2, .int x2)] → W p l e ({ frames := 0, cells := 0, slots := 0, locals := 0 }) s m args below meth c H locs 0 0 (MQ below (Qp D none (wT a0 a1 a2 a3 cI (fL_X2_becomeLike_26 T O k x2 v_T) ++ wT b0 b1 b2 b3 cI O) A) args s 0 0 A) (F0 m 26 ls []) := by
  obtain ⟨hx, hb, hret, hml, hts, hown, hlocks, hE, hA⟩ := id B
  have hK := hE.1
  intro k
  induction k with
  | zero =>
    intro x2 v_T hc h0 hk
    exact absurd hk (Nat.not_lt_zero _)
  | succ k ih =>
    intro x2 v_T hc h0 hk H locs hP hD hS ls hl
    refine lv_iload_n hx hb dX2_becomeLike_26 rfl (lv_at hl 2 rfl) ?_
    refine lv_aload_n hx hb dX2_becomeLike_27 rfl (lv_at hl 0 rfl) ?_
    refine va_get (D := D) (ci := 2) (v := .int (T_count v_T)) (C := RX2) (T := TX2) (N := 6) hx hb hts iw_X2_becomeLike_2 hown hK hP 0 rfl rfl 3 (by decide) (hts (.fieldLink RX2 30 "TownLisp$Town" "count" "I") (by decide +kernel)) (fun _ h9 => h9) rfl dX2_becomeLike_28 ?_
    refine lv_icmp_ge (tgt := 76) hx hb dX2_becomeLike_31 (by decide) (fun c_31 => ?_) (fun c_31 => ?_)
    · have hF : fL_X2_becomeLike_26 T O (k + 1) x2 v_T = v_T := by rw [fL_X2_becomeLike_26, if_pos c_31]
      rw [hF]
      exact kr_v B hP hS rfl dX2_becomeLike_76
    · refine lv_aload_n hx hb dX2_becomeLike_34 rfl (lv_at hl 0 rfl) ?_
      refine va_get (D := D) (ci := 2) (v := .ref a1) (C := RX2) (T := TX2) (N := 6) hx hb hts iw_X2_becomeLike_2 hown hK hP 0 rfl rfl 0 (by decide) (hts (.fieldLink RX2 9 "TownLisp$Town" "kind" "[I") (by decide +kernel)) (fun _ h9 => h9) rfl dX2_becomeLike_35 ?_
      refine lv_iload_n hx hb dX2_becomeLike_38 rfl (lv_at hl 2 rfl) ?_
      refine lv_aload_n hx hb dX2_becomeLike_39 rfl (lv_at hl 1 rfl) ?_
      refine va_get (D := D) (ci := 2) (v := .ref b1) (C := RX2) (T := TX2) (N := 6) hx hb hts iw_X2_becomeLike_2 hown hK hP 4 rfl rfl 0 (by decide) (hts (.fieldLink RX2 9 "TownLisp$Town" "kind" "[I") (by decide +kernel)) (fun _ h9 => h9) rfl dX2_becomeLike_40 ?_
      refine lv_iload_n hx hb dX2_becomeLike_43 rfl (lv_at hl 2 rfl) ?_
      refine va_iald hx hb hK hP 5 0 rfl rfl (lp_in h0 hc c_31) dX2_becomeLike_44 ?_
      refine va_iast hx hb hK hP hD hS 1 0 rfl rfl (lp_in h0 hc c_31) dX2_becomeLike_45 (fun H locs hP hD hS => ?_)
      have hP : va_P D vwCl (wT a0 a1 a2 a3 cI (T_kind' v_T (upd (T_kind v_T) x2.toNatClampNeg ((T_kind O) x2.toNatClampNeg))) ++ wT b0 b1 b2 b3 cI O) H := hP
      have hD : va_D A (wT a0 a1 a2 a3 cI (T_kind' v_T (upd (T_kind v_T) x2.toNatClampNeg ((T_kind O) x2.toNatClampNeg))) ++ wT b0 b1 b2 b3 cI O) := hD
      refine lv_aload_n hx hb dX2_becomeLike_46 rfl (lv_at hl 0 rfl) ?_
      refine va_get (D := D) (ci := 2) (v := .ref a2) (C := RX2) (T := TX2) (N := 6) hx hb hts iw_X2_becomeLike_2 hown hK hP 0 rfl rfl 1 (by decide) (hts (.fieldLink RX2 15 "TownLisp$Town" "parts" "[I") (by decide +kernel)) (fun _ h9 => h9) rfl dX2_becomeLike_47 ?_
      refine lv_iload_n hx hb dX2_becomeLike_50 rfl (lv_at hl 2 rfl) ?_
      refine lv_aload_n hx hb dX2_becomeLike_51 rfl (lv_at hl 1 rfl) ?_
      refine va_get (D := D) (ci := 2) (v := .ref b2) (C := RX2) (T := TX2) (N := 6) hx hb hts iw_X2_becomeLike_2 hown hK hP 4 rfl rfl 1 (by decide) (hts (.fieldLink RX2 15 "TownLisp$Town" "parts" "[I") (by decide +kernel)) (fun _ h9 => h9) rfl dX2_becomeLike_52 ?_
      refine lv_iload_n hx hb dX2_becomeLike_55 rfl (lv_at hl 2 rfl) ?_
      refine va_iald hx hb hK hP 6 0 rfl rfl (lp_in h0 hc c_31) dX2_becomeLike_56 ?_
      refine va_iast hx hb hK hP hD hS 2 0 rfl rfl (lp_in h0 hc c_31) dX2_becomeLike_57 (fun H locs hP hD hS => ?_)
      have hP : va_P D vwCl (wT a0 a1 a2 a3 cI (T_parts' (T_kind' v_T (upd (T_kind v_T) x2.toNatClampNeg ((T_kind O) x2.toNatClampNeg))) (upd (T_parts v_T) x2.toNatClampNeg ((T_parts O) x2.toNatClampNeg))) ++ wT b0 b1 b2 b3 cI O) H := hP
      have hD : va_D A (wT a0 a1 a2 a3 cI (T_parts' (T_kind' v_T (upd (T_kind v_T) x2.toNatClampNeg ((T_kind O) x2.toNatClampNeg))) (upd (T_parts v_T) x2.toNatClampNeg ((T_parts O) x2.toNatClampNeg))) ++ wT b0 b1 b2 b3 cI O) := hD
      refine lv_aload_n hx hb dX2_becomeLike_58 rfl (lv_at hl 0 rfl) ?_
      refine va_get (D := D) (ci := 2) (v := .ref a3) (C := RX2) (T := TX2) (N := 6) hx hb hts iw_X2_becomeLike_2 hown hK hP 0 rfl rfl 2 (by decide) (hts (.fieldLink RX2 18 "TownLisp$Town" "thick" "[I") (by decide +kernel)) (fun _ h9 => h9) rfl dX2_becomeLike_59 ?_
      refine lv_iload_n hx hb dX2_becomeLike_62 rfl (lv_at hl 2 rfl) ?_
      refine lv_aload_n hx hb dX2_becomeLike_63 rfl (lv_at hl 1 rfl) ?_
      refine va_get (D := D) (ci := 2) (v := .ref b3) (C := RX2) (T := TX2) (N := 6) hx hb hts iw_X2_becomeLike_2 hown hK hP 4 rfl rfl 2 (by decide) (hts (.fieldLink RX2 18 "TownLisp$Town" "thick" "[I") (by decide +kernel)) (fun _ h9 => h9) rfl dX2_becomeLike_64 ?_
      refine lv_iload_n hx hb dX2_becomeLike_67 rfl (lv_at hl 2 rfl) ?_
      refine va_iald hx hb hK hP 7 0 rfl rfl (lp_in h0 hc c_31) dX2_becomeLike_68 ?_
      refine va_iast hx hb hK hP hD hS 3 0 rfl rfl (lp_in h0 hc c_31) dX2_becomeLike_69 (fun H locs hP hD hS => ?_)
      have hP : va_P D vwCl (wT a0 a1 a2 a3 cI (T_thick' (T_parts' (T_kind' v_T (upd (T_kind v_T) x2.toNatClampNeg ((T_kind O) x2.toNatClampNeg))) (upd (T_parts v_T) x2.toNatClampNeg ((T_parts O) x2.toNatClampNeg))) (upd (T_thick v_T) x2.toNatClampNeg ((T_thick O) x2.toNatClampNeg))) ++ wT b0 b1 b2 b3 cI O) H := hP
      have hD : va_D A (wT a0 a1 a2 a3 cI (T_thick' (T_parts' (T_kind' v_T (upd (T_kind v_T) x2.toNatClampNeg ((T_kind O) x2.toNatClampNeg))) (upd (T_parts v_T) x2.toNatClampNeg ((T_parts O) x2.toNatClampNeg))) (upd (T_thick v_T) x2.toNatClampNeg ((T_thick O) x2.toNatClampNeg))) ++ wT b0 b1 b2 b3 cI O) := hD
      refine lv_iinc (v := (x2 + (1 : Int32))) (lv' := [(2, .int (x2 + (1 : Int32))), (0, .ref a0), (1, .ref b0)]) hx hb dX2_becomeLike_70 hl (k := 2) rfl rfl (by decide) rfl (fun ls hl => ?_)
      refine lv_goto (tgt := 26) hx hb dX2_becomeLike_73 (by decide) ?_
      have hF : fL_X2_becomeLike_26 T O (k + 1) x2 v_T = fL_X2_becomeLike_26 T O k (x2 + (1 : Int32)) (T_thick' (T_parts' (T_kind' v_T (upd (T_kind v_T) x2.toNatClampNeg ((T_kind O) x2.toNatClampNeg))) (upd (T_parts v_T) x2.toNatClampNeg ((T_parts O) x2.toNatClampNeg))) (upd (T_thick v_T) x2.toNatClampNeg ((T_thick O) x2.toNatClampNeg))) := by rw [fL_X2_becomeLike_26, if_neg c_31]
      rw [hF]
      exact ih (x2 + (1 : Int32)) (T_thick' (T_parts' (T_kind' v_T (upd (T_kind v_T) x2.toNatClampNeg ((T_kind O) x2.toNatClampNeg))) (upd (T_parts v_T) x2.toNatClampNeg ((T_parts O) x2.toNatClampNeg))) (upd (T_thick v_T) x2.toNatClampNeg ((T_thick O) x2.toNatClampNeg))) (hc) (lp_pre h0 c_31) (lp_mu h0 c_31 hk) _ _ hP hD hS ls (lv_sub hl [1, 2, 0] rfl)
set_option maxHeartbeats 4000000 in
set_option maxRecDepth 100000 in
theorem c_X2_becomeLike (l : Launch) (D : va_G) (cI cO : ClassId) (tF : Nat) (a0 a1 a2 a3 : Nat) (b0 b1 b2 b3 : Nat) (T : TN) (O : TN) (ho : (T_count O).toInt ≤ 6) : Ct l yX2_becomeLike wsX2_becomeLike ({ frames := 0, cells := 0, slots := 0, locals := 0 }) D cI cO tF [.ref a0, .ref b0] (wT a0 a1 a2 a3 cI T ++ wT b0 b1 b2 b3 cI O) none (wT a0 a1 a2 a3 cI (f_X2_becomeLike T O) ++ wT b0 b1 b2 b3 cI O) := by
  refine Ct.of (cc := cX2_becomeLike) (maxL := 3) (ret := none) (own := RX2) (by decide) rfl rfl (Nat.le_of_ble_eq_true rfl) ?_
  intro p e s m args below meth c A ls B hP hD hS hl
  obtain ⟨hx, hb, hret, hml, hts, hown, hlocks, hE, hA⟩ := id B
  have hK := hE.1
  have hl : lv_has ls 3 [(0, .ref a0), (1, .ref b0)] := hl
  refine lv_aload_n hx hb dX2_becomeLike_0 rfl (lv_at hl 0 rfl) ?_
  refine lv_aload_n hx hb dX2_becomeLike_1 rfl (lv_at hl 1 rfl) ?_
  refine va_get (D := D) (ci := 2) (v := .int (T_count O)) (C := RX2) (T := TX2) (N := 6) hx hb hts iw_X2_becomeLike_2 hown hK hP 4 rfl rfl 3 (by decide) (hts (.fieldLink RX2 30 "TownLisp$Town" "count" "I") (by decide +kernel)) (fun _ h9 => h9) rfl dX2_becomeLike_2 ?_
  refine va_put (D := D) (ci := 2) (v := .int (T_count O)) (ty := .int) (C := RX2) (T := TX2) (N := 6) hx hb hts iw_X2_becomeLike_2 tyX2 tyX2_ok nmX2 hown hK hP hD hS 0 rfl rfl 3 (by decide) (hts (.fieldLink RX2 30 "TownLisp$Town" "count" "I") (by decide +kernel)) (fun _ h9 => h9) rfl (by decide +kernel) rfl rfl (Nat.le_of_ble_eq_true rfl) dX2_becomeLike_5 (fun H locs hP hD hS => ?_)
  have hP : va_P D vwCl (wT a0 a1 a2 a3 cI (T_count' T (T_count O)) ++ wT b0 b1 b2 b3 cI O) H := hP
  have hD : va_D A (wT a0 a1 a2 a3 cI (T_count' T (T_count O)) ++ wT b0 b1 b2 b3 cI O) := hD
  refine lv_aload_n hx hb dX2_becomeLike_8 rfl (lv_at hl 0 rfl) ?_
  refine lv_aload_n hx hb dX2_becomeLike_9 rfl (lv_at hl 1 rfl) ?_
  refine va_get (D := D) (ci := 2) (v := .int (T_inside O)) (C := RX2) (T := TX2) (N := 6) hx hb hts iw_X2_becomeLike_2 hown hK hP 4 rfl rfl 4 (by decide) (hts (.fieldLink RX2 41 "TownLisp$Town" "inside" "I") (by decide +kernel)) (fun _ h9 => h9) rfl dX2_becomeLike_10 ?_
  refine va_put (D := D) (ci := 2) (v := .int (T_inside O)) (ty := .int) (C := RX2) (T := TX2) (N := 6) hx hb hts iw_X2_becomeLike_2 tyX2 tyX2_ok nmX2 hown hK hP hD hS 0 rfl rfl 4 (by decide) (hts (.fieldLink RX2 41 "TownLisp$Town" "inside" "I") (by decide +kernel)) (fun _ h9 => h9) rfl (by decide +kernel) rfl rfl (Nat.le_of_ble_eq_true rfl) dX2_becomeLike_13 (fun H locs hP hD hS => ?_)
  have hP : va_P D vwCl (wT a0 a1 a2 a3 cI (T_inside' (T_count' T (T_count O)) (T_inside O)) ++ wT b0 b1 b2 b3 cI O) H := hP
  have hD : va_D A (wT a0 a1 a2 a3 cI (T_inside' (T_count' T (T_count O)) (T_inside O)) ++ wT b0 b1 b2 b3 cI O) := hD
  refine lv_aload_n hx hb dX2_becomeLike_16 rfl (lv_at hl 0 rfl) ?_
  refine lv_aload_n hx hb dX2_becomeLike_17 rfl (lv_at hl 1 rfl) ?_
  refine va_get (D := D) (ci := 2) (v := .int (T_tin O)) (C := RX2) (T := TX2) (N := 6) hx hb hts iw_X2_becomeLike_2 hown hK hP 4 rfl rfl 5 (by decide) (hts (.fieldLink RX2 38 "TownLisp$Town" "tin" "I") (by decide +kernel)) (fun _ h9 => h9) rfl dX2_becomeLike_18 ?_
  refine va_put (D := D) (ci := 2) (v := .int (T_tin O)) (ty := .int) (C := RX2) (T := TX2) (N := 6) hx hb hts iw_X2_becomeLike_2 tyX2 tyX2_ok nmX2 hown hK hP hD hS 0 rfl rfl 5 (by decide) (hts (.fieldLink RX2 38 "TownLisp$Town" "tin" "I") (by decide +kernel)) (fun _ h9 => h9) rfl (by decide +kernel) rfl rfl (Nat.le_of_ble_eq_true rfl) dX2_becomeLike_21 (fun H locs hP hD hS => ?_)
  have hP : va_P D vwCl (wT a0 a1 a2 a3 cI (T_tin' (T_inside' (T_count' T (T_count O)) (T_inside O)) (T_tin O)) ++ wT b0 b1 b2 b3 cI O) H := hP
  have hD : va_D A (wT a0 a1 a2 a3 cI (T_tin' (T_inside' (T_count' T (T_count O)) (T_inside O)) (T_tin O)) ++ wT b0 b1 b2 b3 cI O) := hD
  refine lv_iconst (v := (0 : Int32)) hx hb dX2_becomeLike_24 (by decide) ?_
  refine lv_istore_n (lv' := [(2, .int (0 : Int32)), (0, .ref a0), (1, .ref b0)]) hx hb dX2_becomeLike_25 rfl hl (by decide) rfl (fun ls hl => ?_)
  have hF : f_X2_becomeLike T O = fL_X2_becomeLike_26 T O 7 (0 : Int32) (T_tin' (T_inside' (T_count' T (T_count O)) (T_inside O)) (T_tin O)) := by rw [f_X2_becomeLike]
  rw [hF]
  exact L_X2_becomeLike_26 l D cI cO tF a0 a1 a2 a3 b0 b1 b2 b3 T O  ho B  7 (0 : Int32) (T_tin' (T_inside' (T_count' T (T_count O)) (T_inside O)) (T_tin O)) (ho) (Int.le_refl _) (le6_mu ho) _ _ hP hD hS ls (lv_sub hl [1, 2, 0] rfl)
