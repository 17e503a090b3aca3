def f_X4_twoDigits (M : MS) (x1 : Int32) (x2 : Int32) : Int32 × MS := (if (f_X4_digit M x1 (0 : Int32) x2).1 = (-9 : Int32) then ((-9 : Int32), (f_X4_digit M x1 (0 : Int32) x2).2) else (if (f_X4_digit ((f_X4_digit M x1 (0 : Int32) x2).2) x1 (0 : Int32) (9 : Int32)).1 = (-9 : Int32) then ((-9 : Int32), (f_X4_digit ((f_X4_digit M x1 (0 : Int32) x2).2) x1 (0 : Int32) (9 : Int32)).2) else ((((10 : Int32) * (f_X4_digit M x1 (0 : Int32) x2).1) + (f_X4_digit ((f_X4_digit M x1 (0 : Int32) x2).2) x1 (0 : Int32) (9 : Int32)).1), (f_X4_digit ((f_X4_digit M x1 (0 : Int32) x2).2) x1 (0 : Int32) (9 : Int32)).2)))
set_option maxHeartbeats 4000000 in
set_option maxRecDepth 100000 in
theorem c_X4_twoDigits (l : Launch) (D : va_G) (cI cO : ClassId) (tF : Nat) (ad : Nat → Nat) (M : MS) (x1 : Int32) (x2 : Int32) (ha : 0 ≤ (M_at M).toInt) (he : x1.toInt ≤ 240) : Ct l yX4_twoDigits wsX4_twoDigits ({ frames := 2, cells := 0, slots := 0, locals := 45 }) D cI cO tF [.ref (ad 0), .int x1, .int x2] (wM ad cI M) (some (.int ((f_X4_twoDigits M x1 x2).1))) (wM ad cI ((f_X4_twoDigits M x1 x2).2)) := by
  refine Ct.of (cc := cX4_twoDigits) (maxL := 5) (ret := (some .int)) (own := RX4) (by decide) rfl rfl (Nat.le_of_ble_eq_true rfl) ?_
  intro p e s m args below meth c A ls B hP hD hS hl
  obtain ⟨hx, hb, hret, hml, hts, hown, hlocks, hE, hA⟩ := id B
  have hK := hE.1
  have hl : lv_has ls 5 [(0, .ref (ad 0)), (1, .int x1), (2, .int x2)] := hl
  refine lv_aload_n hx hb dX4_twoDigits_0 rfl (lv_at hl 0 rfl) ?_
  refine lv_iload_n hx hb dX4_twoDigits_1 rfl (lv_at hl 1 rfl) ?_
  refine lv_iconst (v := (0 : Int32)) hx hb dX4_twoDigits_2 (by decide) ?_
  refine lv_iload_n hx hb dX4_twoDigits_3 rfl (lv_at hl 2 rfl) ?_
  refine kc_V (As := [.int x1, .int (0 : Int32), .int x2]) (rest := []) B (c_X4_digit l D cI cO tF ad M x1 (0 : Int32) x2 (ha) (he)) (cwV 3 hts gX4_twoDigits_X4_digit rfl rfl rfl (by decide +kernel) ⟨Nat.le_of_ble_eq_true rfl, Nat.le_of_ble_eq_true rfl⟩) hP hD hS [0, 1, 2, 3, 4, 5, 6, 7, 8, 9, 10, 11, 12] wM_subA (by decide) (w' := wM ad cI ((f_X4_digit M x1 (0 : Int32) x2).2)) (wM_setA _) (wM_fst _) 0 4 rfl rfl rfl rfl hl.1 rfl (Nat.le_of_ble_eq_true rfl) dX4_twoDigits_4 ⟨Nat.zero_le _, Nat.zero_le _⟩ (fun H locs hP hD hS => ?_)
  have hD : va_D A (wM ad cI ((f_X4_digit M x1 (0 : Int32) x2).2)) := hD
  refine lv_istore_n (lv' := [(3, .int ((f_X4_digit M x1 (0 : Int32) x2).1)), (0, .ref (ad 0)), (1, .int x1), (2, .int x2)]) hx hb dX4_twoDigits_7 rfl hl (by decide) rfl (fun ls hl => ?_)
  refine lv_iload_n hx hb dX4_twoDigits_8 rfl (lv_at hl 0 rfl) ?_
  refine lv_bipush (v := (-9 : Int32)) hx hb dX4_twoDigits_9 (by decide) ?_
  refine lv_icmp_ne (tgt := 17) hx hb dX4_twoDigits_11 (by decide) (fun c_11 => ?_) (fun c_11 => ?_)
  · refine lv_aload_n hx hb dX4_twoDigits_17 rfl (lv_at hl 1 rfl) ?_
    refine lv_iload_n hx hb dX4_twoDigits_18 rfl (lv_at hl 2 rfl) ?_
    refine lv_iconst (v := (0 : Int32)) hx hb dX4_twoDigits_19 (by decide) ?_
    refine lv_bipush (v := (9 : Int32)) hx hb dX4_twoDigits_20 (by decide) ?_
    refine kc_V (As := [.int x1, .int (0 : Int32), .int (9 : Int32)]) (rest := []) B (c_X4_digit l D cI cO tF ad ((f_X4_digit M x1 (0 : Int32) x2).2) x1 (0 : Int32) (9 : Int32) (dg_at ha he) (he)) (cwV 3 hts gX4_twoDigits_X4_digit rfl rfl rfl (by decide +kernel) ⟨Nat.le_of_ble_eq_true rfl, Nat.le_of_ble_eq_true rfl⟩) hP hD hS [0, 1, 2, 3, 4, 5, 6, 7, 8, 9, 10, 11, 12] wM_subA (by decide) (w' := wM ad cI ((f_X4_digit ((f_X4_digit M x1 (0 : Int32) x2).2) x1 (0 : Int32) (9 : Int32)).2)) (wM_setA _) (wM_fst _) 0 4 rfl rfl rfl rfl hl.1 rfl (Nat.le_of_ble_eq_true rfl) dX4_twoDigits_22 ⟨Nat.zero_le _, Nat.zero_le _⟩ (fun H locs hP hD hS => ?_)
    have hD : va_D A (wM ad cI ((f_X4_digit ((f_X4_digit M x1 (0 : Int32) x2).2) x1 (0 : Int32) (9 : Int32)).2)) := hD
    refine lv_istore (lv' := [(4, .int ((f_X4_digit ((f_X4_digit M x1 (0 : Int32) x2).2) x1 (0 : Int32) (9 : Int32)).1)), (3, .int ((f_X4_digit M x1 (0 : Int32) x2).1)), (0, .ref (ad 0)), (1, .int x1), (2, .int x2)]) hx hb dX4_twoDigits_25 hl (by decide) rfl (fun ls hl => ?_)
    refine lv_iload hx hb dX4_twoDigits_27 (lv_at hl 0 rfl) ?_
    refine lv_bipush (v := (-9 : Int32)) hx hb dX4_twoDigits_29 (by decide) ?_
    refine lv_icmp_ne (tgt := 39) hx hb dX4_twoDigits_31 (by decide) (fun c_31 => ?_) (fun c_31 => ?_)
    · refine lv_bipush (v := (10 : Int32)) hx hb dX4_twoDigits_39 (by decide) ?_
      refine lv_iload_n hx hb dX4_twoDigits_41 rfl (lv_at hl 1 rfl) ?_
      refine lv_imul hx hb dX4_twoDigits_42 ?_
      refine lv_iload hx hb dX4_twoDigits_43 (lv_at hl 0 rfl) ?_
      refine lv_iadd hx hb dX4_twoDigits_45 ?_
      have hF : f_X4_twoDigits M x1 x2 = ((((10 : Int32) * (f_X4_digit M x1 (0 : Int32) x2).1) + (f_X4_digit ((f_X4_digit M x1 (0 : Int32) x2).2) x1 (0 : Int32) (9 : Int32)).1), (f_X4_digit ((f_X4_digit M x1 (0 : Int32) x2).2) x1 (0 : Int32) (9 : Int32)).2) := by rw [f_X4_twoDigits, if_neg c_11, if_neg c_31]
      rw [hF]
      exact kr_i B hP hS rfl rfl dX4_twoDigits_46
    · refine lv_bipush (v := (-9 : Int32)) hx hb dX4_twoDigits_34 (by decide) ?_
      refine lv_goto (tgt := 46) hx hb dX4_twoDigits_36 (by decide) ?_
      have hF : f_X4_twoDigits M x1 x2 = ((-9 : Int32), (f_X4_digit ((f_X4_digit M x1 (0 : Int32) x2).2) x1 (0 : Int32) (9 : Int32)).2) := by rw [f_X4_twoDigits, if_neg c_11, if_pos c_31]
      rw [hF]
      exact kr_i B hP hS rfl rfl dX4_twoDigits_46
  · refine lv_bipush (v := (-9 : Int32)) hx hb dX4_twoDigits_14 (by decide) ?_
    have hF : f_X4_twoDigits M x1 x2 = ((-9 : Int32), (f_X4_digit M x1 (0 : Int32) x2).2) := by rw [f_X4_twoDigits, if_pos c_11]
    rw [hF]
    exact kr_i B hP hS rfl rfl dX4_twoDigits_16
