def f_X4_digit (M : MS) (x1 : Int32) (x2 : Int32) (x3 : Int32) : Int32 × MS := (if x1 ≤ (M_at M) then ((-9 : Int32), M) else (if (f_X4_within ((M_cells M) (M_at M).toNatClampNeg) ((48 : Int32) + x2) ((48 : Int32) + x3)) = 0 then ((-9 : Int32), M) else ((((M_cells M) (((M_at M) + (1 : Int32)) - (1 : Int32)).toNatClampNeg) - (48 : Int32)), (M_at' M ((M_at M) + (1 : Int32))))))
theorem iw_X4_digit_4 : ∀ w ∈ wsX40, w ∈ wsX4_digit := fun _ h => List.mem_cons_of_mem _ (List.mem_append_right _ h)
set_option maxHeartbeats 4000000 in
set_option maxRecDepth 100000 in
theorem c_X4_digit (l : Launch) (D : va_G) (cI cO : ClassId) (tF : Nat) (ad : Nat → Nat) (M : MS) (x1 : Int32) (x2 : Int32) (x3 : Int32) (ha : 0 ≤ (M_at M).toInt) (he : x1.toInt ≤ 240) : Ct l yX4_digit wsX4_digit ({ frames := 1, cells := 0, slots := 0, locals := 22 }) D cI cO tF [.ref (ad 0), .int x1, .int x2, .int x3] (wM ad cI M) (some (.int ((f_X4_digit M x1 x2 x3).1))) (wM ad cI ((f_X4_digit M x1 x2 x3).2)) := by
  refine Ct.of (cc := cX4_digit) (maxL := 4) (ret := (some .int)) (own := RX4) (by decide) rfl rfl (Nat.le_of_ble_eq_true rfl) ?_
  intro p e s m args below meth c A ls B hP hD hS hl
  obtain ⟨hx, hb, hret, hml, hts, hown, hlocks, hE, hA⟩ := id B
  have hK := hE.1
  have hl : lv_has ls 4 [(0, .ref (ad 0)), (1, .int x1), (2, .int x2), (3, .int x3)] := hl
  refine lv_aload_n hx hb dX4_digit_0 rfl (lv_at hl 0 rfl) ?_
  refine va_get (D := D) (ci := 4) (v := .int (M_at M)) (C := RX4) (T := TX4) (N := 24) hx hb hts iw_X4_digit_4 hown hK hP 0 rfl rfl 12 (by decide) (hts (.fieldLink RX4 59 "TownLispModel" "at" "I") (by decide +kernel)) (fun _ h9 => h9) rfl dX4_digit_1 ?_
  refine lv_iload_n hx hb dX4_digit_4 rfl (lv_at hl 1 rfl) ?_
  refine lv_icmp_ge (tgt := 31) hx hb dX4_digit_5 (by decide) (fun c_5 => ?_) (fun c_5 => ?_)
  · refine lv_bipush (v := (-9 : Int32)) hx hb dX4_digit_31 (by decide) ?_
    have hF : f_X4_digit M x1 x2 x3 = ((-9 : Int32), M) := by rw [f_X4_digit, if_pos c_5]
    rw [hF]
    exact kr_i B hP hS rfl rfl dX4_digit_33
  · refine lv_aload_n hx hb dX4_digit_8 rfl (lv_at hl 0 rfl) ?_
    refine va_get (D := D) (ci := 4) (v := .ref (ad 3)) (C := RX4) (T := TX4) (N := 24) hx hb hts iw_X4_digit_4 hown hK hP 0 rfl rfl 4 (by decide) (hts (.fieldLink RX4 16 "TownLispModel" "cells" "[I") (by decide +kernel)) (fun _ h9 => h9) rfl dX4_digit_9 ?_
    refine lv_aload_n hx hb dX4_digit_12 rfl (lv_at hl 0 rfl) ?_
    refine va_get (D := D) (ci := 4) (v := .int (M_at M)) (C := RX4) (T := TX4) (N := 24) hx hb hts iw_X4_digit_4 hown hK hP 0 rfl rfl 12 (by decide) (hts (.fieldLink RX4 59 "TownLispModel" "at" "I") (by decide +kernel)) (fun _ h9 => h9) rfl dX4_digit_13 ?_
    refine va_iald hx hb hK hP 3 0 rfl rfl (lp_in ha he c_5) dX4_digit_16 ?_
    refine lv_bipush (v := (48 : Int32)) hx hb dX4_digit_17 (by decide) ?_
    refine lv_iload_n hx hb dX4_digit_19 rfl (lv_at hl 2 rfl) ?_
    refine lv_iadd hx hb dX4_digit_20 ?_
    refine lv_bipush (v := (48 : Int32)) hx hb dX4_digit_21 (by decide) ?_
    refine lv_iload_n hx hb dX4_digit_23 rfl (lv_at hl 3 rfl) ?_
    refine lv_iadd hx hb dX4_digit_24 ?_
    refine kc_S (As := [.int ((M_cells M) (M_at M).toNatClampNeg), .int ((48 : Int32) + x2), .int ((48 : Int32) + x3)]) (rest := []) B (c_X4_within l D cI cO tF ((M_cells M) (M_at M).toNatClampNeg) ((48 : Int32) + x2) ((48 : Int32) + x3) ) (va_cwS 3 hts gX4_digit_X4_within rfl rfl rfl (by decide +kernel) ⟨Nat.le_of_ble_eq_true rfl, Nat.le_of_ble_eq_true rfl⟩) hP hD hS [] rfl (by decide) (w' := wM ad cI M) rfl rfl rfl hl.1 rfl (Nat.le_of_ble_eq_true rfl) dX4_digit_25 ⟨Nat.zero_le _, Nat.zero_le _⟩ (fun H locs hP hD hS => ?_)
    have hD : va_D A (wM ad cI M) := hD
    refine lv_if_ne (tgt := 34) hx hb dX4_digit_28 (by decide) (fun c_28 => ?_) (fun c_28 => ?_)
    · refine lv_aload_n hx hb dX4_digit_34 rfl (lv_at hl 0 rfl) ?_
      refine lv_dup hx hb dX4_digit_35 rfl ?_
      refine va_get (D := D) (ci := 4) (v := .int (M_at M)) (C := RX4) (T := TX4) (N := 24) hx hb hts iw_X4_digit_4 hown hK hP 0 rfl rfl 12 (by decide) (hts (.fieldLink RX4 59 "TownLispModel" "at" "I") (by decide +kernel)) (fun _ h9 => h9) rfl dX4_digit_36 ?_
      refine lv_iconst (v := (1 : Int32)) hx hb dX4_digit_39 (by decide) ?_
      refine lv_iadd hx hb dX4_digit_40 ?_
      refine va_put (D := D) (ci := 4) (v := .int ((M_at M) + (1 : Int32))) (ty := .int) (C := RX4) (T := TX4) (N := 24) hx hb hts iw_X4_digit_4 tyX4 tyX4_ok nmX4 hown hK hP hD hS 0 rfl rfl 12 (by decide) (hts (.fieldLink RX4 59 "TownLispModel" "at" "I") (by decide +kernel)) (fun _ h9 => h9) rfl (by decide +kernel) rfl rfl (Nat.le_of_ble_eq_true rfl) dX4_digit_41 (fun H locs hP hD hS => ?_)
      have hP : va_P D vwCl (wM ad cI (M_at' M ((M_at M) + (1 : Int32)))) H := hP
      have hD : va_D A (wM ad cI (M_at' M ((M_at M) + (1 : Int32)))) := hD
      refine lv_aload_n hx hb dX4_digit_44 rfl (lv_at hl 0 rfl) ?_
      refine va_get (D := D) (ci := 4) (v := .ref (ad 3)) (C := RX4) (T := TX4) (N := 24) hx hb hts iw_X4_digit_4 hown hK hP 0 rfl rfl 4 (by decide) (hts (.fieldLink RX4 16 "TownLispModel" "cells" "[I") (by decide +kernel)) (fun _ h9 => h9) rfl dX4_digit_45 ?_
      refine lv_aload_n hx hb dX4_digit_48 rfl (lv_at hl 0 rfl) ?_
      refine va_get (D := D) (ci := 4) (v := .int ((M_at M) + (1 : Int32))) (C := RX4) (T := TX4) (N := 24) hx hb hts iw_X4_digit_4 hown hK hP 0 rfl rfl 12 (by decide) (hts (.fieldLink RX4 59 "TownLispModel" "at" "I") (by decide +kernel)) (fun _ h9 => h9) rfl dX4_digit_49 ?_
      refine lv_iconst (v := (1 : Int32)) hx hb dX4_digit_52 (by decide) ?_
      refine lv_isub hx hb dX4_digit_53 ?_
      refine va_iald hx hb hK hP 3 0 rfl rfl (at_in ha he c_5) dX4_digit_54 ?_
      refine lv_bipush (v := (48 : Int32)) hx hb dX4_digit_55 (by decide) ?_
      refine lv_isub hx hb dX4_digit_57 ?_
      have hF : f_X4_digit M x1 x2 x3 = ((((M_cells M) (((M_at M) + (1 : Int32)) - (1 : Int32)).toNatClampNeg) - (48 : Int32)), (M_at' M ((M_at M) + (1 : Int32)))) := by rw [f_X4_digit, if_neg c_5, if_neg c_28]
      rw [hF]
      exact kr_i B hP hS rfl rfl dX4_digit_58
    · refine lv_bipush (v := (-9 : Int32)) hx hb dX4_digit_31 (by decide) ?_
      have hF : f_X4_digit M x1 x2 x3 = ((-9 : Int32), M) := by rw [f_X4_digit, if_neg c_5, if_pos c_28]
      rw [hF]
      exact kr_i B hP hS rfl rfl dX4_digit_33
def f_X4_isSign (M : MS) (x1 : Int32) (x2 : Int32) : Int32 × MS := (if x1 ≤ (M_at M) then ((0 : Int32), M) else (if ((M_cells M) (M_at M).toNatClampNeg) = x2 then ((1 : Int32), (M_at' M ((M_at M) + (1 : Int32)))) else ((0 : Int32), M)))
theorem iw_X4_isSign_4 : ∀ w ∈ wsX40, w ∈ wsX4_isSign := fun _ h => List.mem_cons_of_mem _ (List.mem_append_right _ h)
set_option maxHeartbeats 4000000 in
set_option maxRecDepth 100000 in
theorem c_X4_isSign (l : Launch) (D : va_G) (cI cO : ClassId) (tF : Nat) (ad : Nat → Nat) (M : MS) (x1 : Int32) (x2 : Int32) (ha : 0 ≤ (M_at M).toInt) (he : x1.toInt ≤ 240) : Ct l yX4_isSign wsX4_isSign ({ frames := 0, cells := 0, slots := 0, locals := 0 }) D cI cO tF [.ref (ad 0), .int x1, .int x2] (wM ad cI M) (some (.int ((f_X4_isSign M x1 x2).1))) (wM ad cI ((f_X4_isSign M x1 x2).2)) := by
  refine Ct.of (cc := cX4_isSign) (maxL := 3) (ret := (some .boolean)) (own := RX4) (by decide) rfl rfl (Nat.le_of_ble_eq_true rfl) ?_
  intro p e s m args below meth c A ls B hP hD hS hl
  obtain ⟨hx, hb, hret, hml, hts, hown, hlocks, hE, hA⟩ := id B
  have hK := hE.1
  have hl : lv_has ls 3 [(0, .ref (ad 0)), (1, .int x1), (2, .int x2)] := hl
  refine lv_aload_n hx hb dX4_isSign_0 rfl (lv_at hl 0 rfl) ?_
  refine va_get (D := D) (ci := 4) (v := .int (M_at M)) (C := RX4) (T := TX4) (N := 24) hx hb hts iw_X4_isSign_4 hown hK hP 0 rfl rfl 12 (by decide) (hts (.fieldLink RX4 59 "TownLispModel" "at" "I") (by decide +kernel)) (fun _ h9 => h9) rfl dX4_isSign_1 ?_
  refine lv_iload_n hx hb dX4_isSign_4 rfl (lv_at hl 1 rfl) ?_
  refine lv_icmp_ge (tgt := 21) hx hb dX4_isSign_5 (by decide) (fun c_5 => ?_) (fun c_5 => ?_)
  · refine lv_iconst (v := (0 : Int32)) hx hb dX4_isSign_21 (by decide) ?_
    have hF : f_X4_isSign M x1 x2 = ((0 : Int32), M) := by rw [f_X4_isSign, if_pos c_5]
    rw [hF]
    exact kr_z B hP hS rfl rfl (Or.inl rfl) dX4_isSign_22
  · refine lv_aload_n hx hb dX4_isSign_8 rfl (lv_at hl 0 rfl) ?_
    refine va_get (D := D) (ci := 4) (v := .ref (ad 3)) (C := RX4) (T := TX4) (N := 24) hx hb hts iw_X4_isSign_4 hown hK hP 0 rfl rfl 4 (by decide) (hts (.fieldLink RX4 16 "TownLispModel" "cells" "[I") (by decide +kernel)) (fun _ h9 => h9) rfl dX4_isSign_9 ?_
    refine lv_aload_n hx hb dX4_isSign_12 rfl (lv_at hl 0 rfl) ?_
    refine va_get (D := D) (ci := 4) (v := .int (M_at M)) (C := RX4) (T := TX4) (N := 24) hx hb hts iw_X4_isSign_4 hown hK hP 0 rfl rfl 12 (by decide) (hts (.fieldLink RX4 59 "TownLispModel" "at" "I") (by decide +kernel)) (fun _ h9 => h9) rfl dX4_isSign_13 ?_
    refine va_iald hx hb hK hP 3 0 rfl rfl (lp_in ha he c_5) dX4_isSign_16 ?_
    refine lv_iload_n hx hb dX4_isSign_17 rfl (lv_at hl 2 rfl) ?_
    refine lv_icmp_eq (tgt := 23) hx hb dX4_isSign_18 (by decide) (fun c_18 => ?_) (fun c_18 => ?_)
    · refine lv_aload_n hx hb dX4_isSign_23 rfl (lv_at hl 0 rfl) ?_
      refine lv_dup hx hb dX4_isSign_24 rfl ?_
      refine va_get (D := D) (ci := 4) (v := .int (M_at M)) (C := RX4) (T := TX4) (N := 24) hx hb hts iw_X4_isSign_4 hown hK hP 0 rfl rfl 12 (by decide) (hts (.fieldLink RX4 59 "TownLispModel" "at" "I") (by decide +kernel)) (fun _ h9 => h9) rfl dX4_isSign_25 ?_
      refine lv_iconst (v := (1 : Int32)) hx hb dX4_isSign_28 (by decide) ?_
      refine lv_iadd hx hb dX4_isSign_29 ?_
      refine va_put (D := D) (ci := 4) (v := .int ((M_at M) + (1 : Int32))) (ty := .int) (C := RX4) (T := TX4) (N := 24) hx hb hts iw_X4_isSign_4 tyX4 tyX4_ok nmX4 hown hK hP hD hS 0 rfl rfl 12 (by decide) (hts (.fieldLink RX4 59 "TownLispModel" "at" "I") (by decide +kernel)) (fun _ h9 => h9) rfl (by decide +kernel) rfl rfl (Nat.le_of_ble_eq_true rfl) dX4_isSign_30 (fun H locs hP hD hS => ?_)
      have hP : va_P D vwCl (wM ad cI (M_at' M ((M_at M) + (1 : Int32)))) H := hP
      have hD : va_D A (wM ad cI (M_at' M ((M_at M) + (1 : Int32)))) := hD
      refine lv_iconst (v := (1 : Int32)) hx hb dX4_isSign_33 (by decide) ?_
      have hF : f_X4_isSign M x1 x2 = ((1 : Int32), (M_at' M ((M_at M) + (1 : Int32)))) := by rw [f_X4_isSign, if_neg c_5, if_pos c_18]
      rw [hF]
      exact kr_z B hP hS rfl rfl (Or.inr rfl) dX4_isSign_34
    · refine lv_iconst (v := (0 : Int32)) hx hb dX4_isSign_21 (by decide) ?_
      have hF : f_X4_isSign M x1 x2 = ((0 : Int32), M) := by rw [f_X4_isSign, if_neg c_5, if_neg c_18]
      rw [hF]
      exact kr_z B hP hS rfl rfl (Or.inl rfl) dX4_isSign_22
