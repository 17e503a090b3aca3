def f_X3_year (X : XS) (x1 : Int32) (x2 : Int32) (x3 : Int32) (x4 : Int32) (x5 : Int32) : Int32 × XS := (if (0 : Int32) ≤ x1 ∧ x1 < (4 : Int32) then (if (f_X3_isLane x2) = 0 then ((-2 : Int32), (X_latestFault' X (0 : Int32))) else (if x4 < 0 then ((-2 : Int32), (X_latestFault' X (0 : Int32))) else (if (20 : Int32) < x4 then ((-2 : Int32), (X_latestFault' X (0 : Int32))) else (if (f_X3_isAskedOfYear x5) = 0 then ((-2 : Int32), (X_latestFault' X (0 : Int32))) else (if (f_X1_faultOf ((X_sheets X) x1.toNatClampNeg) x2 x3 ((2 : Int32) * x4)) = 0 then (if (T_count (X_now X)) = 0 then ((-3 : Int32), (X_latestFault' X (0 : Int32))) else (if (f_X3_refusalOfPairs (X_latestFault' X (0 : Int32)) x3 x4 x1.toNatClampNeg) = 0 then (if x5 = (1 : Int32) then ((f_X3_firstWrongOf (X_latestFault' X (0 : Int32)) x3 x4 x1.toNatClampNeg).1, (f_X3_firstWrongOf (X_latestFault' X (0 : Int32)) x3 x4 x1.toNatClampNeg).2) else (if (f_X3_firstWrongOf (X_latestFault' X (0 : Int32)) x3 x4 x1.toNatClampNeg).1 = (-9 : Int32) then ((f_X3_behindYear ((f_X3_firstWrongOf (X_latestFault' X (0 : Int32)) x3 x4 x1.toNatClampNeg).2) x5), (f_X3_firstWrongOf (X_latestFault' X (0 : Int32)) x3 x4 x1.toNatClampNeg).2) else (((-100 : Int32) - (f_X3_firstWrongOf (X_latestFault' X (0 : Int32)) x3 x4 x1.toNatClampNeg).1), (f_X3_firstWrongOf (X_latestFault' X (0 : Int32)) x3 x4 x1.toNatClampNeg).2))) else ((f_X3_refusalOfPairs (X_latestFault' X (0 : Int32)) x3 x4 x1.toNatClampNeg), (X_latestFault' X (0 : Int32))))) else ((f_X3_faulty (X_latestFault' X (0 : Int32)) (f_X1_faultOf ((X_sheets X) x1.toNatClampNeg) x2 x3 ((2 : Int32) * x4))).1, (f_X3_faulty (X_latestFault' X (0 : Int32)) (f_X1_faultOf ((X_sheets X) x1.toNatClampNeg) x2 x3 ((2 : Int32) * x4))).2)))))) else ((-1 : Int32), (X_latestFault' X (0 : Int32))))
theorem iw_X3_year_2 : ∀ w ∈ wsX20, w ∈ wsX3_year := fun _ h => List.mem_cons_of_mem _ (List.mem_append_left _ (List.mem_append_right _ h))
theorem iw_X3_year_3 : ∀ w ∈ wsX30, w ∈ wsX3_year := fun _ h => List.mem_cons_of_mem _ (List.mem_append_left _ (List.mem_append_left _ (List.mem_append_right _ h)))
set_option maxHeartbeats 4000000 in
set_option maxRecDepth 100000 in
theorem c_X3_year (l : Launch) (D : va_G) (cI cO : ClassId) (tF : Nat) (ad : Nat → Nat) (X : XS) (x1 : Int32) (x2 : Int32) (x3 : Int32) (x4 : Int32) (x5 : Int32) (hn : (T_count (X_now X)).toInt ≤ 6) : Ct l yX3_year wsX3_year ({ frames := 6, cells := 0, slots := 0, locals := 139 }) D cI cO tF [.ref (ad 0), .int x1, .int x2, .int x3, .int x4, .int x5] (wX ad cI cO X) (some (.int ((f_X3_year X x1 x2 x3 x4 x5).1))) (wX ad cI cO ((f_X3_year X x1 x2 x3 x4 x5).2)) := by
  refine Ct.of (cc := cX3_year) (maxL := 10) (ret := (some .int)) (own := RX3) (by decide) rfl rfl (Nat.le_of_ble_eq_true rfl) ?_
  intro p e s m args below meth c A ls B hP hD hS hl
  obtain ⟨hx, hb, hret, hml, hts, hown, hlocks, hE, hA⟩ := id B
  have hK := hE.1
  have hl : lv_has ls 10 [(0, .ref (ad 0)), (1, .int x1), (2, .int x2), (3, .int x3), (4, .int x4), (5, .int x5)] := hl
  refine lv_aload_n hx hb dX3_year_0 rfl (lv_at hl 0 rfl) ?_
  refine lv_iconst (v := (0 : Int32)) hx hb dX3_year_1 (by decide) ?_
  refine va_put (D := D) (ci := 3) (v := .int (0 : Int32)) (ty := .int) (C := RX3) (T := TX3) (N := 7) hx hb hts iw_X3_year_3 tyX3 tyX3_ok nmX3 hown hK hP hD hS 0 rfl rfl 6 (by decide) (hts (.fieldLink RX3 35 "TownLisp" "latestFault" "I") (by decide +kernel)) (fun _ h9 => h9) rfl (by decide +kernel) rfl rfl (Nat.le_of_ble_eq_true rfl) dX3_year_2 (fun H locs hP hD hS => ?_)
  have hP : va_P D vwCl (wX ad cI cO (X_latestFault' X (0 : Int32))) H := hP
  have hD : va_D A (wX ad cI cO (X_latestFault' X (0 : Int32))) := hD
  refine lv_aload_n hx hb dX3_year_5 rfl (lv_at hl 0 rfl) ?_
  refine lv_iload_n hx hb dX3_year_6 rfl (lv_at hl 1 rfl) ?_
  by_cases c_7 : (0 : Int32) ≤ x1 ∧ x1 < (4 : Int32)
  · have hj_7 : x1.toNatClampNeg < 4 := sh_j c_7
    refine kc_V (As := [.int x1]) (rest := []) B (c_X3_sheetAt_some l D cI cO tF ad (X_latestFault' X (0 : Int32)) x1 c_7) (cwV 1 hts gX3_year_X3_sheetAt rfl rfl rfl (by decide +kernel) ⟨Nat.le_of_ble_eq_true rfl, Nat.le_of_ble_eq_true rfl⟩) hP hD hS [0, 1, 2, 3, 4, 5, 6, 7, 8, 9, 10, 11, 12, 13, 14, 15, 16, 17, 18, 19, 20, 21] wX_subA (by decide) (w' := wX ad cI cO (X_latestFault' X (0 : Int32))) (wX_setA _) (wX_fst _) 0 3 rfl rfl rfl rfl hl.1 rfl (Nat.le_of_ble_eq_true rfl) dX3_year_7 ⟨Nat.zero_le _, Nat.zero_le _⟩ (fun H locs hP hD hS => ?_)
    have hD : va_D A (wX ad cI cO (X_latestFault' X (0 : Int32))) := hD
    refine lv_astore (lv' := [(6, .ref (ad (14 + 2 * x1.toNatClampNeg))), (0, .ref (ad 0)), (1, .int x1), (2, .int x2), (3, .int x3), (4, .int x4), (5, .int x5)]) hx hb dX3_year_10 hl (by decide) rfl (fun ls hl => ?_)
    refine lv_aload hx hb dX3_year_12 (lv_at hl 0 rfl) ?_
    refine lv_ifnonnull (tgt := 19) hx hb dX3_year_14 (by decide) ?_
    refine lv_iload_n hx hb dX3_year_19 rfl (lv_at hl 3 rfl) ?_
    refine kc_S (As := [.int x2]) (rest := []) B (c_X3_isLane l D cI cO tF x2 ) (va_cwS 1 hts gX3_year_X3_isLane rfl rfl rfl (by decide +kernel) ⟨Nat.le_of_ble_eq_true rfl, Nat.le_of_ble_eq_true rfl⟩) hP hD hS [] rfl (by decide) (w' := wX ad cI cO (X_latestFault' X (0 : Int32))) rfl rfl rfl hl.1 rfl (Nat.le_of_ble_eq_true rfl) dX3_year_20 ⟨Nat.zero_le _, Nat.zero_le _⟩ (fun H locs hP hD hS => ?_)
    have hD : va_D A (wX ad cI cO (X_latestFault' X (0 : Int32))) := hD
    refine lv_if_eq (tgt := 46) hx hb dX3_year_23 (by decide) (fun c_23 => ?_) (fun c_23 => ?_)
    · refine lv_bipush (v := (-2 : Int32)) hx hb dX3_year_46 (by decide) ?_
      have hF : f_X3_year X x1 x2 x3 x4 x5 = ((-2 : Int32), (X_latestFault' X (0 : Int32))) := by rw [f_X3_year, if_pos c_7, if_pos c_23]
      rw [hF]
      exact kr_i B hP hS rfl rfl dX3_year_48
    · refine lv_iload hx hb dX3_year_26 (lv_at hl 5 rfl) ?_
      refine lv_if_lt (tgt := 46) hx hb dX3_year_28 (by decide) (fun c_28 => ?_) (fun c_28 => ?_)
      · refine lv_bipush (v := (-2 : Int32)) hx hb dX3_year_46 (by decide) ?_
        have hF : f_X3_year X x1 x2 x3 x4 x5 = ((-2 : Int32), (X_latestFault' X (0 : Int32))) := by rw [f_X3_year, if_pos c_7, if_neg c_23, if_pos c_28]
        rw [hF]
        exact kr_i B hP hS rfl rfl dX3_year_48
      · refine lv_iload hx hb dX3_year_31 (lv_at hl 5 rfl) ?_
        refine lv_bipush (v := (20 : Int32)) hx hb dX3_year_33 (by decide) ?_
        refine lv_icmp_gt (tgt := 46) hx hb dX3_year_35 (by decide) (fun c_35 => ?_) (fun c_35 => ?_)
        · refine lv_bipush (v := (-2 : Int32)) hx hb dX3_year_46 (by decide) ?_
          have hF : f_X3_year X x1 x2 x3 x4 x5 = ((-2 : Int32), (X_latestFault' X (0 : Int32))) := by rw [f_X3_year, if_pos c_7, if_neg c_23, if_neg c_28, if_pos c_35]
          rw [hF]
          exact kr_i B hP hS rfl rfl dX3_year_48
        · refine lv_iload hx hb dX3_year_38 (lv_at hl 6 rfl) ?_
          refine kc_S (As := [.int x5]) (rest := []) B (c_X3_isAskedOfYear l D cI cO tF x5 ) (va_cwS 1 hts gX3_year_X3_isAskedOfYear rfl rfl rfl (by decide +kernel) ⟨Nat.le_of_ble_eq_true rfl, Nat.le_of_ble_eq_true rfl⟩) hP hD hS [] rfl (by decide) (w' := wX ad cI cO (X_latestFault' X (0 : Int32))) rfl rfl rfl hl.1 rfl (Nat.le_of_ble_eq_true rfl) dX3_year_40 ⟨Nat.zero_le _, Nat.zero_le _⟩ (fun H locs hP hD hS => ?_)
          have hD : va_D A (wX ad cI cO (X_latestFault' X (0 : Int32))) := hD
          refine lv_if_ne (tgt := 49) hx hb dX3_year_43 (by decide) (fun c_43 => ?_) (fun c_43 => ?_)
          · refine lv_aload hx hb dX3_year_49 (lv_at hl 0 rfl) ?_
            refine lv_iload_n hx hb dX3_year_51 rfl (lv_at hl 3 rfl) ?_
            refine lv_iload_n hx hb dX3_year_52 rfl (lv_at hl 4 rfl) ?_
            refine lv_iconst (v := (2 : Int32)) hx hb dX3_year_53 (by decide) ?_
            refine lv_iload hx hb dX3_year_54 (lv_at hl 5 rfl) ?_
            refine lv_imul hx hb dX3_year_56 ?_
            refine kc_V (As := [.int x2, .int x3, .int ((2 : Int32) * x4)]) (rest := []) B (c_X1_faultOf l D cI cO tF (ad (14 + 2 * x1.toNatClampNeg)) (ad (15 + 2 * x1.toNatClampNeg)) ((X_sheets X) x1.toNatClampNeg) x2 x3 ((2 : Int32) * x4) ) (cwV 3 hts gX3_year_X1_faultOf rfl rfl rfl (by decide +kernel) ⟨Nat.le_of_ble_eq_true rfl, Nat.le_of_ble_eq_true rfl⟩) hP hD hS [14 + 2 * x1.toNatClampNeg, 15 + 2 * x1.toNatClampNeg] (wX_subC hj_7) (nd_s _) (w' := wX ad cI cO (X_latestFault' X (0 : Int32))) (wX_same hj_7) rfl (14 + 2 * x1.toNatClampNeg) 1 rfl (wX_sheet hj_7) rfl rfl hl.1 rfl (Nat.le_of_ble_eq_true rfl) dX3_year_57 ⟨Nat.zero_le _, Nat.zero_le _⟩ (fun H locs hP hD hS => ?_)
            have hD : va_D A (wX ad cI cO (X_latestFault' X (0 : Int32))) := hD
            refine lv_istore (lv' := [(7, .int (f_X1_faultOf ((X_sheets X) x1.toNatClampNeg) x2 x3 ((2 : Int32) * x4))), (6, .ref (ad (14 + 2 * x1.toNatClampNeg))), (0, .ref (ad 0)), (1, .int x1), (2, .int x2), (3, .int x3), (4, .int x4), (5, .int x5)]) hx hb dX3_year_60 hl (by decide) rfl (fun ls hl => ?_)
            refine lv_iload hx hb dX3_year_62 (lv_at hl 0 rfl) ?_
            refine lv_if_eq (tgt := 74) hx hb dX3_year_64 (by decide) (fun c_64 => ?_) (fun c_64 => ?_)
            · refine lv_aload_n hx hb dX3_year_74 rfl (lv_at hl 2 rfl) ?_
              refine va_get (D := D) (ci := 3) (v := .ref (ad 2)) (C := RX3) (T := TX3) (N := 7) hx hb hts iw_X3_year_3 hown hK hP 0 rfl rfl 1 (by decide) (hts (.fieldLink RX3 20 "TownLisp" "now" "LTownLisp$Town;") (by decide +kernel)) (fun _ h9 => h9) rfl dX3_year_75 ?_
              refine va_get (D := D) (ci := 2) (v := .int (T_count (X_now X))) (C := RX2) (T := TX2) (N := 6) hx hb hts iw_X3_year_2 hown hK hP 2 rfl rfl 3 (by decide) (hts (.fieldLink RX3 69 "TownLisp$Town" "count" "I") (by decide +kernel)) (fun _ h9 => h9) rfl dX3_year_78 ?_
              refine lv_if_ne (tgt := 87) hx hb dX3_year_81 (by decide) (fun c_81 => ?_) (fun c_81 => ?_)
              · refine lv_aload_n hx hb dX3_year_87 rfl (lv_at hl 2 rfl) ?_
                refine lv_aload hx hb dX3_year_88 (lv_at hl 1 rfl) ?_
                refine lv_iload_n hx hb dX3_year_90 rfl (lv_at hl 5 rfl) ?_
                refine lv_iload hx hb dX3_year_91 (lv_at hl 6 rfl) ?_
                refine kc_V (As := [.ref (ad (14 + 2 * x1.toNatClampNeg)), .int x3, .int x4]) (rest := []) B (c_X3_refusalOfPairs l D cI cO tF ad (X_latestFault' X (0 : Int32)) x3 x4 x1.toNatClampNeg (hj_7)) (cwV 3 hts gX3_year_X3_refusalOfPairs rfl rfl rfl (by decide +kernel) ⟨Nat.le_of_ble_eq_true rfl, Nat.le_of_ble_eq_true rfl⟩) hP hD hS [0, 1, 2, 3, 4, 5, 6, 7, 8, 9, 10, 11, 12, 13, 14, 15, 16, 17, 18, 19, 20, 21] wX_subA (by decide) (w' := wX ad cI cO (X_latestFault' X (0 : Int32))) (wX_setA _) (wX_fst _) 0 3 rfl rfl rfl rfl hl.1 rfl (Nat.le_of_ble_eq_true rfl) dX3_year_93 ⟨Nat.zero_le _, Nat.zero_le _⟩ (fun H locs hP hD hS => ?_)
                have hD : va_D A (wX ad cI cO (X_latestFault' X (0 : Int32))) := hD
                refine lv_istore (lv' := [(8, .int (f_X3_refusalOfPairs (X_latestFault' X (0 : Int32)) x3 x4 x1.toNatClampNeg)), (7, .int (f_X1_faultOf ((X_sheets X) x1.toNatClampNeg) x2 x3 ((2 : Int32) * x4))), (6, .ref (ad (14 + 2 * x1.toNatClampNeg))), (0, .ref (ad 0)), (1, .int x1), (2, .int x2), (3, .int x3), (4, .int x4), (5, .int x5)]) hx hb dX3_year_96 hl (by decide) rfl (fun ls hl => ?_)
                refine lv_iload hx hb dX3_year_98 (lv_at hl 0 rfl) ?_
                refine lv_if_eq (tgt := 106) hx hb dX3_year_100 (by decide) (fun c_100 => ?_) (fun c_100 => ?_)
                · refine lv_aload_n hx hb dX3_year_106 rfl (lv_at hl 3 rfl) ?_
                  refine lv_aload hx hb dX3_year_107 (lv_at hl 2 rfl) ?_
                  refine lv_iload_n hx hb dX3_year_109 rfl (lv_at hl 6 rfl) ?_
                  refine lv_iload hx hb dX3_year_110 (lv_at hl 7 rfl) ?_
                  refine kc_V (As := [.ref (ad (14 + 2 * x1.toNatClampNeg)), .int x3, .int x4]) (rest := []) B (c_X3_firstWrongOf l D cI cO tF ad (X_latestFault' X (0 : Int32)) x3 x4 x1.toNatClampNeg (hj_7) (hn) (rf_pa hn c_100)) (cwV 3 hts gX3_year_X3_firstWrongOf rfl rfl rfl (by decide +kernel) ⟨Nat.le_of_ble_eq_true rfl, Nat.le_of_ble_eq_true rfl⟩) hP hD hS [0, 1, 2, 3, 4, 5, 6, 7, 8, 9, 10, 11, 12, 13, 14, 15, 16, 17, 18, 19, 20, 21] wX_subA (by decide) (w' := wX ad cI cO ((f_X3_firstWrongOf (X_latestFault' X (0 : Int32)) x3 x4 x1.toNatClampNeg).2)) (wX_setA _) (wX_fst _) 0 3 rfl rfl rfl rfl hl.1 rfl (Nat.le_of_ble_eq_true rfl) dX3_year_112 ⟨Nat.zero_le _, Nat.zero_le _⟩ (fun H locs hP hD hS => ?_)
                  have hD : va_D A (wX ad cI cO ((f_X3_firstWrongOf (X_latestFault' X (0 : Int32)) x3 x4 x1.toNatClampNeg).2)) := hD
                  refine lv_istore (lv' := [(9, .int ((f_X3_firstWrongOf (X_latestFault' X (0 : Int32)) x3 x4 x1.toNatClampNeg).1)), (8, .int (f_X3_refusalOfPairs (X_latestFault' X (0 : Int32)) x3 x4 x1.toNatClampNeg)), (7, .int (f_X1_faultOf ((X_sheets X) x1.toNatClampNeg) x2 x3 ((2 : Int32) * x4))), (6, .ref (ad (14 + 2 * x1.toNatClampNeg))), (0, .ref (ad 0)), (1, .int x1), (2, .int x2), (3, .int x3), (4, .int x4), (5, .int x5)]) hx hb dX3_year_115 hl (by decide) rfl (fun ls hl => ?_)
                  refine lv_iload hx hb dX3_year_117 (lv_at hl 9 rfl) ?_
                  refine lv_iconst (v := (1 : Int32)) hx hb dX3_year_119 (by decide) ?_
                  refine lv_icmp_ne (tgt := 126) hx hb dX3_year_120 (by decide) (fun c_120 => ?_) (fun c_120 => ?_)
                  · refine lv_iload hx hb dX3_year_126 (lv_at hl 0 rfl) ?_
                    refine lv_bipush (v := (-9 : Int32)) hx hb dX3_year_128 (by decide) ?_
                    refine lv_icmp_ne (tgt := 142) hx hb dX3_year_130 (by decide) (fun c_130 => ?_) (fun c_130 => ?_)
                    · refine lv_bipush (v := (-100 : Int32)) hx hb dX3_year_142 (by decide) ?_
                      refine lv_iload hx hb dX3_year_144 (lv_at hl 0 rfl) ?_
                      refine lv_isub hx hb dX3_year_146 ?_
                      have hF : f_X3_year X x1 x2 x3 x4 x5 = (((-100 : Int32) - (f_X3_firstWrongOf (X_latestFault' X (0 : Int32)) x3 x4 x1.toNatClampNeg).1), (f_X3_firstWrongOf (X_latestFault' X (0 : Int32)) x3 x4 x1.toNatClampNeg).2) := by rw [f_X3_year, if_pos c_7, if_neg c_23, if_neg c_28, if_neg c_35, if_neg c_43, if_pos c_64, if_neg c_81, if_pos c_100, if_neg c_120, if_neg c_130]
                      rw [hF]
                      exact kr_i B hP hS rfl rfl dX3_year_147
                    · refine lv_aload_n hx hb dX3_year_133 rfl (lv_at hl 4 rfl) ?_
                      refine lv_iload hx hb dX3_year_134 (lv_at hl 9 rfl) ?_
                      refine kc_V (As := [.int x5]) (rest := []) B (c_X3_behindYear l D cI cO tF ad ((f_X3_firstWrongOf (X_latestFault' X (0 : Int32)) x3 x4 x1.toNatClampNeg).2) x5 (fw_c hn)) (cwV 1 hts gX3_year_X3_behindYear rfl rfl rfl (by decide +kernel) ⟨Nat.le_of_ble_eq_true rfl, Nat.le_of_ble_eq_true rfl⟩) hP hD hS [0, 1, 2, 3, 4, 5, 6, 7, 8, 9, 10, 11, 12, 13, 14, 15, 16, 17, 18, 19, 20, 21] wX_subA (by decide) (w' := wX ad cI cO ((f_X3_firstWrongOf (X_latestFault' X (0 : Int32)) x3 x4 x1.toNatClampNeg).2)) (wX_setA _) (wX_fst _) 0 3 rfl rfl rfl rfl hl.1 rfl (Nat.le_of_ble_eq_true rfl) dX3_year_136 ⟨Nat.zero_le _, Nat.zero_le _⟩ (fun H locs hP hD hS => ?_)
                      have hD : va_D A (wX ad cI cO ((f_X3_firstWrongOf (X_latestFault' X (0 : Int32)) x3 x4 x1.toNatClampNeg).2)) := hD
                      refine lv_goto (tgt := 147) hx hb dX3_year_139 (by decide) ?_
                      have hF : f_X3_year X x1 x2 x3 x4 x5 = ((f_X3_behindYear ((f_X3_firstWrongOf (X_latestFault' X (0 : Int32)) x3 x4 x1.toNatClampNeg).2) x5), (f_X3_firstWrongOf (X_latestFault' X (0 : Int32)) x3 x4 x1.toNatClampNeg).2) := by rw [f_X3_year, if_pos c_7, if_neg c_23, if_neg c_28, if_neg c_35, if_neg c_43, if_pos c_64, if_neg c_81, if_pos c_100, if_neg c_120, if_pos c_130]
                      rw [hF]
                      exact kr_i B hP hS rfl rfl dX3_year_147
                  · refine lv_iload hx hb dX3_year_123 (lv_at hl 0 rfl) ?_
                    have hF : f_X3_year X x1 x2 x3 x4 x5 = ((f_X3_firstWrongOf (X_latestFault' X (0 : Int32)) x3 x4 x1.toNatClampNeg).1, (f_X3_firstWrongOf (X_latestFault' X (0 : Int32)) x3 x4 x1.toNatClampNeg).2) := by rw [f_X3_year, if_pos c_7, if_neg c_23, if_neg c_28, if_neg c_35, if_neg c_43, if_pos c_64, if_neg c_81, if_pos c_100, if_pos c_120]
                    rw [hF]
                    exact kr_i B hP hS rfl rfl dX3_year_125
                · refine lv_iload hx hb dX3_year_103 (lv_at hl 0 rfl) ?_
                  have hF : f_X3_year X x1 x2 x3 x4 x5 = ((f_X3_refusalOfPairs (X_latestFault' X (0 : Int32)) x3 x4 x1.toNatClampNeg), (X_latestFault' X (0 : Int32))) := by rw [f_X3_year, if_pos c_7, if_neg c_23, if_neg c_28, if_neg c_35, if_neg c_43, if_pos c_64, if_neg c_81, if_neg c_100]
                  rw [hF]
                  exact kr_i B hP hS rfl rfl dX3_year_105
              · refine lv_bipush (v := (-3 : Int32)) hx hb dX3_year_84 (by decide) ?_
                have hF : f_X3_year X x1 x2 x3 x4 x5 = ((-3 : Int32), (X_latestFault' X (0 : Int32))) := by rw [f_X3_year, if_pos c_7, if_neg c_23, if_neg c_28, if_neg c_35, if_neg c_43, if_pos c_64, if_pos c_81]
                rw [hF]
                exact kr_i B hP hS rfl rfl dX3_year_86
            · refine lv_aload_n hx hb dX3_year_67 rfl (lv_at hl 2 rfl) ?_
              refine lv_iload hx hb dX3_year_68 (lv_at hl 0 rfl) ?_
              refine kc_V (As := [.int (f_X1_faultOf ((X_sheets X) x1.toNatClampNeg) x2 x3 ((2 : Int32) * x4))]) (rest := []) B (c_X3_faulty l D cI cO tF ad (X_latestFault' X (0 : Int32)) (f_X1_faultOf ((X_sheets X) x1.toNatClampNeg) x2 x3 ((2 : Int32) * x4)) ) (cwV 1 hts gX3_year_X3_faulty rfl rfl rfl (by decide +kernel) ⟨Nat.le_of_ble_eq_true rfl, Nat.le_of_ble_eq_true rfl⟩) hP hD hS [0, 1, 2, 3, 4, 5, 6, 7, 8, 9, 10, 11, 12, 13, 14, 15, 16, 17, 18, 19, 20, 21] wX_subA (by decide) (w' := wX ad cI cO ((f_X3_faulty (X_latestFault' X (0 : Int32)) (f_X1_faultOf ((X_sheets X) x1.toNatClampNeg) x2 x3 ((2 : Int32) * x4))).2)) (wX_setA _) (wX_fst _) 0 3 rfl rfl rfl rfl hl.1 rfl (Nat.le_of_ble_eq_true rfl) dX3_year_70 ⟨Nat.zero_le _, Nat.zero_le _⟩ (fun H locs hP hD hS => ?_)
              have hD : va_D A (wX ad cI cO ((f_X3_faulty (X_latestFault' X (0 : Int32)) (f_X1_faultOf ((X_sheets X) x1.toNatClampNeg) x2 x3 ((2 : Int32) * x4))).2)) := hD
              have hF : f_X3_year X x1 x2 x3 x4 x5 = ((f_X3_faulty (X_latestFault' X (0 : Int32)) (f_X1_faultOf ((X_sheets X) x1.toNatClampNeg) x2 x3 ((2 : Int32) * x4))).1, (f_X3_faulty (X_latestFault' X (0 : Int32)) (f_X1_faultOf ((X_sheets X) x1.toNatClampNeg) x2 x3 ((2 : Int32) * x4))).2) := by rw [f_X3_year, if_pos c_7, if_neg c_23, if_neg c_28, if_neg c_35, if_neg c_43, if_neg c_64]
              rw [hF]
              exact kr_i B hP hS rfl rfl dX3_year_73
          · refine lv_bipush (v := (-2 : Int32)) hx hb dX3_year_46 (by decide) ?_
            have hF : f_X3_year X x1 x2 x3 x4 x5 = ((-2 : Int32), (X_latestFault' X (0 : Int32))) := by rw [f_X3_year, if_pos c_7, if_neg c_23, if_neg c_28, if_neg c_35, if_pos c_43]
            rw [hF]
            exact kr_i B hP hS rfl rfl dX3_year_48
  · refine kc_V (As := [.int x1]) (rest := []) B (c_X3_sheetAt_none l D cI cO tF ad (X_latestFault' X (0 : Int32)) x1 c_7) (cwV 1 hts gX3_year_X3_sheetAt rfl rfl rfl (by decide +kernel) ⟨Nat.le_of_ble_eq_true rfl, Nat.le_of_ble_eq_true rfl⟩) hP hD hS [0, 1, 2, 3, 4, 5, 6, 7, 8, 9, 10, 11, 12, 13, 14, 15, 16, 17, 18, 19, 20, 21] wX_subA (by decide) (w' := wX ad cI cO (X_latestFault' X (0 : Int32))) (wX_setA _) (wX_fst _) 0 3 rfl rfl rfl rfl hl.1 rfl (Nat.le_of_ble_eq_true rfl) dX3_year_7 ⟨Nat.zero_le _, Nat.zero_le _⟩ (fun H locs hP hD hS => ?_)
    have hD : va_D A (wX ad cI cO (X_latestFault' X (0 : Int32))) := hD
    refine lv_astoreN (lv' := [(6, .null), (0, .ref (ad 0)), (1, .int x1), (2, .int x2), (3, .int x3), (4, .int x4), (5, .int x5)]) hx hb dX3_year_10 hl (by decide) rfl (fun ls hl => ?_)
    refine lv_aloadN hx hb dX3_year_12 (lv_at hl 0 rfl) ?_
    refine lv_ifnonnullN hx hb dX3_year_14 ?_
    refine lv_iconst (v := (-1 : Int32)) hx hb dX3_year_17 (by decide) ?_
    have hF : f_X3_year X x1 x2 x3 x4 x5 = ((-1 : Int32), (X_latestFault' X (0 : Int32))) := by rw [f_X3_year, if_neg c_7]
    rw [hF]
    exact kr_i B hP hS rfl rfl dX3_year_18
